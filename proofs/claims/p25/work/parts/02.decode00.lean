/-! ===== instructions read off the bytes ===== -/
/-- the bytes of a method, as numbers -/
def bl9 (c : ByteArray) : List Nat := c.data.toList.map UInt8.toNat
theorem bl_u1 {c : ByteArray} {p n : Nat} {r : List Nat} (f : (bl9 c).drop p = n :: r) : Jvm.ClassFile.Reader.runAt (Jvm.ClassFile.Reader.u1 (ε := Jvm.ClassFile.DecodeError)) c p = .ok (n, p + 1) ∧ (bl9 c).drop (p + 1) = r := by
  obtain ⟨⟨l⟩⟩ := c
  have f' : (l.map UInt8.toNat).drop p = n :: r := f
  have hp : p < l.length := by
    apply Nat.lt_of_not_le
    intro w
    rw [List.drop_eq_nil_of_le (by rw [List.length_map]; exact w)] at f'
    cases f'
  rw [← List.map_drop, List.drop_eq_getElem_cons hp, List.map_cons] at f'
  obtain ⟨e1, e2⟩ := List.cons_eq_cons.mp f'
  refine ⟨?_, ?_⟩
  · have q : Jvm.ClassFile.Reader.runAt (Jvm.ClassFile.Reader.u1 (ε := Jvm.ClassFile.DecodeError)) (ByteArray.mk (Array.mk l)) p = Jvm.ClassFile.Reader.runAt (if h : p < (ByteArray.mk (Array.mk l)).size then (do set (p + 1); pure ((ByteArray.mk (Array.mk l))[p]'h).toNat) else throw (Jvm.ClassFile.HasTruncated.truncated p)) (ByteArray.mk (Array.mk l)) p := rfl
    rw [q, dif_pos (show p < (ByteArray.mk (Array.mk l)).size from hp)]
    show Except.ok ((l[p]'hp).toNat, p + 1) = _
    rw [e1]
  · show (l.map UInt8.toNat).drop (p + 1) = r
    rw [← List.map_drop]; exact e2
theorem bl_b {α β : Type} {x : Jvm.ClassFile.Reader Jvm.ClassFile.DecodeError α} {f : α → Jvm.ClassFile.Reader Jvm.ClassFile.DecodeError β} {c : ByteArray} {p q : Nat} {a : α} (h : Jvm.ClassFile.Reader.runAt x c p = .ok (a, q)) : Jvm.ClassFile.Reader.runAt (x >>= f) c p = Jvm.ClassFile.Reader.runAt (f a) c q := by
  show (Jvm.ClassFile.Reader.runAt x c p >>= fun v => Jvm.ClassFile.Reader.runAt (f v.1) c v.2) = _
  rw [h]
  rfl
theorem bl_m {α β : Type} {x : Jvm.ClassFile.Reader Jvm.ClassFile.DecodeError α} {g : α → β} {c : ByteArray} {p q : Nat} {a : α} (h : Jvm.ClassFile.Reader.runAt x c p = .ok (a, q)) : Jvm.ClassFile.Reader.runAt (g <$> x) c p = .ok (g a, q) := by
  show (Jvm.ClassFile.Reader.runAt x c p >>= fun v => (.ok (g v.1, v.2) : Except Jvm.ClassFile.DecodeError (β × Nat))) = _
  rw [h]
  rfl
theorem bl_u2 {c : ByteArray} {p x y : Nat} {r : List Nat} (f : (bl9 c).drop p = x :: y :: r) : Jvm.ClassFile.Reader.runAt (Jvm.ClassFile.Reader.u2 (ε := Jvm.ClassFile.DecodeError)) c p = .ok (x * 256 + y, p + 1 + 1) := by
  have h1 := bl_u1 f
  have h2 := bl_u1 h1.2
  unfold Jvm.ClassFile.Reader.u2
  rw [bl_b h1.1, bl_b h2.1]
  rfl
theorem bl_s1 {c : ByteArray} {p x : Nat} {r : List Nat} (f : (bl9 c).drop p = x :: r) : Jvm.ClassFile.Reader.runAt (Jvm.ClassFile.Reader.s1 (ε := Jvm.ClassFile.DecodeError)) c p = .ok (Jvm.ClassFile.Reader.signed 8 x, p + 1) := bl_m (bl_u1 f).1
theorem bl_s2 {c : ByteArray} {p x y : Nat} {r : List Nat} (f : (bl9 c).drop p = x :: y :: r) : Jvm.ClassFile.Reader.runAt (Jvm.ClassFile.Reader.s2 (ε := Jvm.ClassFile.DecodeError)) c p = .ok (Jvm.ClassFile.Reader.signed 16 (x * 256 + y), p + 1 + 1) := bl_m (bl_u2 f)
theorem bl_d {c : ByteArray} {p q : Nat} {i : Instr} (h : Jvm.ClassFile.Reader.runAt (Jvm.ClassFile.Decoder.instr p) c p = .ok (i, q)) : decode c p = .ok (i, q - p) := by
  show (Jvm.ClassFile.Reader.runAt (Jvm.ClassFile.Decoder.instr p) c p >>= fun v => (.ok (v.1, v.2 - p) : Except Jvm.ClassFile.DecodeError (Instr × Nat))) = _
  rw [h]
  rfl
def df1 (F : Nat → Instr) : List Nat → Option (Instr × Nat)
  | x :: _ => some (F x, 2)
  | [] => none
def df2 (F : Nat → Instr) : List Nat → Option (Instr × Nat)
  | x :: y :: _ => some (F (x * 256 + y), 3)
  | _ => none
def dg1 (F : Int → Instr) : List Nat → Option (Instr × Nat)
  | x :: _ => some (F (Jvm.ClassFile.Reader.signed 8 x), 2)
  | [] => none
def dg2 (F : Int → Instr) : List Nat → Option (Instr × Nat)
  | x :: y :: _ => some (F (Jvm.ClassFile.Reader.signed 16 (x * 256 + y)), 3)
  | _ => none
def dfi (F : Nat → Int → Instr) : List Nat → Option (Instr × Nat)
  | x :: y :: _ => some (F x (Jvm.ClassFile.Reader.signed 8 y), 3)
  | _ => none
theorem df1_ok {F : Nat → Instr} {r : List Nat} {v : Instr × Nat} (h : df1 F r = some v) : ∃ (x : Nat) (s : List Nat), r = x :: s ∧ v = (F x, 2) := by
  rcases r with _ | ⟨x, s⟩
  · have h' : (none : Option (Instr × Nat)) = some v := h
    cases h'
  · have h' : some (F x, 2) = some v := h
    cases h'; exact ⟨x, s, rfl, rfl⟩
theorem dg1_ok {F : Int → Instr} {r : List Nat} {v : Instr × Nat} (h : dg1 F r = some v) : ∃ (x : Nat) (s : List Nat), r = x :: s ∧ v = (F (Jvm.ClassFile.Reader.signed 8 x), 2) := by
  rcases r with _ | ⟨x, s⟩
  · have h' : (none : Option (Instr × Nat)) = some v := h
    cases h'
  · have h' : some (F (Jvm.ClassFile.Reader.signed 8 x), 2) = some v := h
    cases h'; exact ⟨x, s, rfl, rfl⟩
theorem df2_ok {F : Nat → Instr} {r : List Nat} {v : Instr × Nat} (h : df2 F r = some v) : ∃ (x y : Nat) (s : List Nat), r = x :: y :: s ∧ v = (F (x * 256 + y), 3) := by
  rcases r with _ | ⟨x, _ | ⟨y, s⟩⟩
  · have h' : (none : Option (Instr × Nat)) = some v := h
    cases h'
  · have h' : (none : Option (Instr × Nat)) = some v := h
    cases h'
  · have h' : some (F (x * 256 + y), 3) = some v := h
    cases h'; exact ⟨x, y, s, rfl, rfl⟩
theorem dg2_ok {F : Int → Instr} {r : List Nat} {v : Instr × Nat} (h : dg2 F r = some v) : ∃ (x y : Nat) (s : List Nat), r = x :: y :: s ∧ v = (F (Jvm.ClassFile.Reader.signed 16 (x * 256 + y)), 3) := by
  rcases r with _ | ⟨x, _ | ⟨y, s⟩⟩
  · have h' : (none : Option (Instr × Nat)) = some v := h
    cases h'
  · have h' : (none : Option (Instr × Nat)) = some v := h
    cases h'
  · have h' : some (F (Jvm.ClassFile.Reader.signed 16 (x * 256 + y)), 3) = some v := h
    cases h'; exact ⟨x, y, s, rfl, rfl⟩
theorem dfi_ok {F : Nat → Int → Instr} {r : List Nat} {v : Instr × Nat} (h : dfi F r = some v) : ∃ (x y : Nat) (s : List Nat), r = x :: y :: s ∧ v = (F x (Jvm.ClassFile.Reader.signed 8 y), 3) := by
  rcases r with _ | ⟨x, _ | ⟨y, s⟩⟩
  · have h' : (none : Option (Instr × Nat)) = some v := h
    cases h'
  · have h' : (none : Option (Instr × Nat)) = some v := h
    cases h'
  · have h' : some (F x (Jvm.ClassFile.Reader.signed 8 y), 3) = some v := h
    cases h'; exact ⟨x, y, s, rfl, rfl⟩
set_option maxRecDepth 100000 in
theorem op9_42 {c : ByteArray} {p : Nat} {r : List Nat} (f : (bl9 c).drop p = 42 :: r) : decode c p = .ok (.aload_n 0, 1) := by
  have h := bl_u1 f
  have i0 : Jvm.ClassFile.Reader.runAt (Jvm.ClassFile.Decoder.instr p) c p = .ok (.aload_n 0, p + 1) := by
    unfold Jvm.ClassFile.Decoder.instr
    rw [bl_b h.1]
    rfl
  exact (bl_d i0).trans (by rw [show p + 1 - p = 1 by omega])
set_option maxRecDepth 100000 in
theorem op9_21 {c : ByteArray} {p x : Nat} {r : List Nat} (f : (bl9 c).drop p = 21 :: x :: r) : decode c p = .ok (.iload x, 2) := by
  have h := bl_u1 f
  have h2 := bl_u1 h.2
  have i0 : Jvm.ClassFile.Reader.runAt (Jvm.ClassFile.Decoder.instr p) c p = .ok (.iload x, p + 1 + 1) := by
    unfold Jvm.ClassFile.Decoder.instr
    rw [bl_b h.1]
    show Jvm.ClassFile.Reader.runAt (Jvm.ClassFile.Reader.u1 >>= fun a => (pure (Instr.iload a) : Jvm.ClassFile.Reader Jvm.ClassFile.DecodeError Instr)) c (p + 1) = _
    rw [bl_b h2.1]
    rfl
  exact (bl_d i0).trans (by rw [show p + 1 + 1 - p = 2 by omega])
set_option maxRecDepth 100000 in
theorem op9_180 {c : ByteArray} {p x y : Nat} {r : List Nat} (f : (bl9 c).drop p = 180 :: x :: y :: r) : decode c p = .ok (.getfield (x * 256 + y), 3) := by
  have h := bl_u1 f
  have h2 := bl_u2 h.2
  have i0 : Jvm.ClassFile.Reader.runAt (Jvm.ClassFile.Decoder.instr p) c p = .ok (.getfield (x * 256 + y), p + 1 + 1 + 1) := by
    unfold Jvm.ClassFile.Decoder.instr
    rw [bl_b h.1]
    show Jvm.ClassFile.Reader.runAt (Jvm.ClassFile.Reader.u2 >>= fun a => (pure (Instr.getfield a) : Jvm.ClassFile.Reader Jvm.ClassFile.DecodeError Instr)) c (p + 1) = _
    rw [bl_b h2]
    rfl
  exact (bl_d i0).trans (by rw [show p + 1 + 1 + 1 - p = 3 by omega])
set_option maxRecDepth 100000 in
theorem op9_182 {c : ByteArray} {p x y : Nat} {r : List Nat} (f : (bl9 c).drop p = 182 :: x :: y :: r) : decode c p = .ok (.invokevirtual (x * 256 + y), 3) := by
  have h := bl_u1 f
  have h2 := bl_u2 h.2
  have i0 : Jvm.ClassFile.Reader.runAt (Jvm.ClassFile.Decoder.instr p) c p = .ok (.invokevirtual (x * 256 + y), p + 1 + 1 + 1) := by
    unfold Jvm.ClassFile.Decoder.instr
    rw [bl_b h.1]
    show Jvm.ClassFile.Reader.runAt (Jvm.ClassFile.Reader.u2 >>= fun a => (pure (Instr.invokevirtual a) : Jvm.ClassFile.Reader Jvm.ClassFile.DecodeError Instr)) c (p + 1) = _
    rw [bl_b h2]
    rfl
  exact (bl_d i0).trans (by rw [show p + 1 + 1 + 1 - p = 3 by omega])
set_option maxRecDepth 100000 in
theorem op9_29 {c : ByteArray} {p : Nat} {r : List Nat} (f : (bl9 c).drop p = 29 :: r) : decode c p = .ok (.iload_n 3, 1) := by
  have h := bl_u1 f
  have i0 : Jvm.ClassFile.Reader.runAt (Jvm.ClassFile.Decoder.instr p) c p = .ok (.iload_n 3, p + 1) := by
    unfold Jvm.ClassFile.Decoder.instr
    rw [bl_b h.1]
    rfl
  exact (bl_d i0).trans (by rw [show p + 1 - p = 1 by omega])
set_option maxRecDepth 100000 in
theorem op9_27 {c : ByteArray} {p : Nat} {r : List Nat} (f : (bl9 c).drop p = 27 :: r) : decode c p = .ok (.iload_n 1, 1) := by
  have h := bl_u1 f
  have i0 : Jvm.ClassFile.Reader.runAt (Jvm.ClassFile.Decoder.instr p) c p = .ok (.iload_n 1, p + 1) := by
    unfold Jvm.ClassFile.Decoder.instr
    rw [bl_b h.1]
    rfl
  exact (bl_d i0).trans (by rw [show p + 1 - p = 1 by omega])
set_option maxRecDepth 100000 in
theorem op9_28 {c : ByteArray} {p : Nat} {r : List Nat} (f : (bl9 c).drop p = 28 :: r) : decode c p = .ok (.iload_n 2, 1) := by
  have h := bl_u1 f
  have i0 : Jvm.ClassFile.Reader.runAt (Jvm.ClassFile.Decoder.instr p) c p = .ok (.iload_n 2, p + 1) := by
    unfold Jvm.ClassFile.Decoder.instr
    rw [bl_b h.1]
    rfl
  exact (bl_d i0).trans (by rw [show p + 1 - p = 1 by omega])
set_option maxRecDepth 100000 in
theorem op9_3 {c : ByteArray} {p : Nat} {r : List Nat} (f : (bl9 c).drop p = 3 :: r) : decode c p = .ok (.iconst 0, 1) := by
  have h := bl_u1 f
  have i0 : Jvm.ClassFile.Reader.runAt (Jvm.ClassFile.Decoder.instr p) c p = .ok (.iconst 0, p + 1) := by
    unfold Jvm.ClassFile.Decoder.instr
    rw [bl_b h.1]
    rfl
  exact (bl_d i0).trans (by rw [show p + 1 - p = 1 by omega])
set_option maxRecDepth 100000 in
theorem op9_96 {c : ByteArray} {p : Nat} {r : List Nat} (f : (bl9 c).drop p = 96 :: r) : decode c p = .ok (.iadd, 1) := by
  have h := bl_u1 f
  have i0 : Jvm.ClassFile.Reader.runAt (Jvm.ClassFile.Decoder.instr p) c p = .ok (.iadd, p + 1) := by
    unfold Jvm.ClassFile.Decoder.instr
    rw [bl_b h.1]
    rfl
  exact (bl_d i0).trans (by rw [show p + 1 - p = 1 by omega])
set_option maxRecDepth 100000 in
theorem op9_167 {c : ByteArray} {p x y : Nat} {r : List Nat} (f : (bl9 c).drop p = 167 :: x :: y :: r) : decode c p = .ok (.goto (Jvm.ClassFile.Reader.signed 16 (x * 256 + y)), 3) := by
  have h := bl_u1 f
  have h2 := bl_s2 h.2
  have i0 : Jvm.ClassFile.Reader.runAt (Jvm.ClassFile.Decoder.instr p) c p = .ok (.goto (Jvm.ClassFile.Reader.signed 16 (x * 256 + y)), p + 1 + 1 + 1) := by
    unfold Jvm.ClassFile.Decoder.instr
    rw [bl_b h.1]
    show Jvm.ClassFile.Reader.runAt (Jvm.ClassFile.Reader.s2 >>= fun a => (pure (Instr.goto a) : Jvm.ClassFile.Reader Jvm.ClassFile.DecodeError Instr)) c (p + 1) = _
    rw [bl_b h2]
    rfl
  exact (bl_d i0).trans (by rw [show p + 1 + 1 + 1 - p = 3 by omega])
set_option maxRecDepth 100000 in
theorem op9_46 {c : ByteArray} {p : Nat} {r : List Nat} (f : (bl9 c).drop p = 46 :: r) : decode c p = .ok (.iaload, 1) := by
  have h := bl_u1 f
  have i0 : Jvm.ClassFile.Reader.runAt (Jvm.ClassFile.Decoder.instr p) c p = .ok (.iaload, p + 1) := by
    unfold Jvm.ClassFile.Decoder.instr
    rw [bl_b h.1]
    rfl
  exact (bl_d i0).trans (by rw [show p + 1 - p = 1 by omega])
set_option maxRecDepth 100000 in
theorem op9_172 {c : ByteArray} {p : Nat} {r : List Nat} (f : (bl9 c).drop p = 172 :: r) : decode c p = .ok (.ireturn, 1) := by
  have h := bl_u1 f
  have i0 : Jvm.ClassFile.Reader.runAt (Jvm.ClassFile.Decoder.instr p) c p = .ok (.ireturn, p + 1) := by
    unfold Jvm.ClassFile.Decoder.instr
    rw [bl_b h.1]
    rfl
  exact (bl_d i0).trans (by rw [show p + 1 - p = 1 by omega])
set_option maxRecDepth 100000 in
theorem op9_4 {c : ByteArray} {p : Nat} {r : List Nat} (f : (bl9 c).drop p = 4 :: r) : decode c p = .ok (.iconst 1, 1) := by
  have h := bl_u1 f
  have i0 : Jvm.ClassFile.Reader.runAt (Jvm.ClassFile.Decoder.instr p) c p = .ok (.iconst 1, p + 1) := by
    unfold Jvm.ClassFile.Decoder.instr
    rw [bl_b h.1]
    rfl
  exact (bl_d i0).trans (by rw [show p + 1 - p = 1 by omega])
set_option maxRecDepth 100000 in
theorem op9_54 {c : ByteArray} {p x : Nat} {r : List Nat} (f : (bl9 c).drop p = 54 :: x :: r) : decode c p = .ok (.istore x, 2) := by
  have h := bl_u1 f
  have h2 := bl_u1 h.2
  have i0 : Jvm.ClassFile.Reader.runAt (Jvm.ClassFile.Decoder.instr p) c p = .ok (.istore x, p + 1 + 1) := by
    unfold Jvm.ClassFile.Decoder.instr
    rw [bl_b h.1]
    show Jvm.ClassFile.Reader.runAt (Jvm.ClassFile.Reader.u1 >>= fun a => (pure (Instr.istore a) : Jvm.ClassFile.Reader Jvm.ClassFile.DecodeError Instr)) c (p + 1) = _
    rw [bl_b h2.1]
    rfl
  exact (bl_d i0).trans (by rw [show p + 1 + 1 - p = 2 by omega])
set_option maxRecDepth 100000 in
theorem op9_100 {c : ByteArray} {p : Nat} {r : List Nat} (f : (bl9 c).drop p = 100 :: r) : decode c p = .ok (.isub, 1) := by
  have h := bl_u1 f
  have i0 : Jvm.ClassFile.Reader.runAt (Jvm.ClassFile.Decoder.instr p) c p = .ok (.isub, p + 1) := by
    unfold Jvm.ClassFile.Decoder.instr
    rw [bl_b h.1]
    rfl
  exact (bl_d i0).trans (by rw [show p + 1 - p = 1 by omega])
set_option maxRecDepth 100000 in
theorem op9_184 {c : ByteArray} {p x y : Nat} {r : List Nat} (f : (bl9 c).drop p = 184 :: x :: y :: r) : decode c p = .ok (.invokestatic (x * 256 + y), 3) := by
  have h := bl_u1 f
  have h2 := bl_u2 h.2
  have i0 : Jvm.ClassFile.Reader.runAt (Jvm.ClassFile.Decoder.instr p) c p = .ok (.invokestatic (x * 256 + y), p + 1 + 1 + 1) := by
    unfold Jvm.ClassFile.Decoder.instr
    rw [bl_b h.1]
    show Jvm.ClassFile.Reader.runAt (Jvm.ClassFile.Reader.u2 >>= fun a => (pure (Instr.invokestatic a) : Jvm.ClassFile.Reader Jvm.ClassFile.DecodeError Instr)) c (p + 1) = _
    rw [bl_b h2]
    rfl
  exact (bl_d i0).trans (by rw [show p + 1 + 1 + 1 - p = 3 by omega])
set_option maxRecDepth 100000 in
theorem op9_104 {c : ByteArray} {p : Nat} {r : List Nat} (f : (bl9 c).drop p = 104 :: r) : decode c p = .ok (.imul, 1) := by
  have h := bl_u1 f
  have i0 : Jvm.ClassFile.Reader.runAt (Jvm.ClassFile.Decoder.instr p) c p = .ok (.imul, p + 1) := by
    unfold Jvm.ClassFile.Decoder.instr
    rw [bl_b h.1]
    rfl
  exact (bl_d i0).trans (by rw [show p + 1 - p = 1 by omega])
set_option maxRecDepth 100000 in
theorem op9_16 {c : ByteArray} {p x : Nat} {r : List Nat} (f : (bl9 c).drop p = 16 :: x :: r) : decode c p = .ok (.bipush (Jvm.ClassFile.Reader.signed 8 x), 2) := by
  have h := bl_u1 f
  have h2 := bl_s1 h.2
  have i0 : Jvm.ClassFile.Reader.runAt (Jvm.ClassFile.Decoder.instr p) c p = .ok (.bipush (Jvm.ClassFile.Reader.signed 8 x), p + 1 + 1) := by
    unfold Jvm.ClassFile.Decoder.instr
    rw [bl_b h.1]
    show Jvm.ClassFile.Reader.runAt (Jvm.ClassFile.Reader.s1 >>= fun a => (pure (Instr.bipush a) : Jvm.ClassFile.Reader Jvm.ClassFile.DecodeError Instr)) c (p + 1) = _
    rw [bl_b h2]
    rfl
  exact (bl_d i0).trans (by rw [show p + 1 + 1 - p = 2 by omega])
set_option maxRecDepth 100000 in
theorem op9_162 {c : ByteArray} {p x y : Nat} {r : List Nat} (f : (bl9 c).drop p = 162 :: x :: y :: r) : decode c p = .ok (.if_icmp .ge (Jvm.ClassFile.Reader.signed 16 (x * 256 + y)), 3) := by
  have h := bl_u1 f
  have h2 := bl_s2 h.2
  have i0 : Jvm.ClassFile.Reader.runAt (Jvm.ClassFile.Decoder.instr p) c p = .ok (.if_icmp .ge (Jvm.ClassFile.Reader.signed 16 (x * 256 + y)), p + 1 + 1 + 1) := by
    unfold Jvm.ClassFile.Decoder.instr
    rw [bl_b h.1]
    show Jvm.ClassFile.Reader.runAt (Jvm.ClassFile.Reader.s2 >>= fun a => (pure (Instr.if_icmp .ge a) : Jvm.ClassFile.Reader Jvm.ClassFile.DecodeError Instr)) c (p + 1) = _
    rw [bl_b h2]
    rfl
  exact (bl_d i0).trans (by rw [show p + 1 + 1 + 1 - p = 3 by omega])
set_option maxRecDepth 100000 in
theorem op9_153 {c : ByteArray} {p x y : Nat} {r : List Nat} (f : (bl9 c).drop p = 153 :: x :: y :: r) : decode c p = .ok (.ifCond .eq (Jvm.ClassFile.Reader.signed 16 (x * 256 + y)), 3) := by
  have h := bl_u1 f
  have h2 := bl_s2 h.2
  have i0 : Jvm.ClassFile.Reader.runAt (Jvm.ClassFile.Decoder.instr p) c p = .ok (.ifCond .eq (Jvm.ClassFile.Reader.signed 16 (x * 256 + y)), p + 1 + 1 + 1) := by
    unfold Jvm.ClassFile.Decoder.instr
    rw [bl_b h.1]
    show Jvm.ClassFile.Reader.runAt (Jvm.ClassFile.Reader.s2 >>= fun a => (pure (Instr.ifCond .eq a) : Jvm.ClassFile.Reader Jvm.ClassFile.DecodeError Instr)) c (p + 1) = _
    rw [bl_b h2]
    rfl
  exact (bl_d i0).trans (by rw [show p + 1 + 1 + 1 - p = 3 by omega])
set_option maxRecDepth 100000 in
theorem op9_132 {c : ByteArray} {p x y : Nat} {r : List Nat} (f : (bl9 c).drop p = 132 :: x :: y :: r) : decode c p = .ok (.iinc x (Jvm.ClassFile.Reader.signed 8 y), 3) := by
  have h := bl_u1 f
  have h2 := bl_u1 h.2
  have h3 := bl_s1 h2.2
  have i0 : Jvm.ClassFile.Reader.runAt (Jvm.ClassFile.Decoder.instr p) c p = .ok (.iinc x (Jvm.ClassFile.Reader.signed 8 y), p + 1 + 1 + 1) := by
    unfold Jvm.ClassFile.Decoder.instr
    rw [bl_b h.1]
    show Jvm.ClassFile.Reader.runAt (Jvm.ClassFile.Reader.u1 >>= fun a => (Jvm.ClassFile.Reader.s1 >>= fun b => (pure (Instr.iinc a b) : Jvm.ClassFile.Reader Jvm.ClassFile.DecodeError Instr))) c (p + 1) = _
    rw [bl_b h2.1, bl_b h3]
    rfl
  exact (bl_d i0).trans (by rw [show p + 1 + 1 + 1 - p = 3 by omega])
set_option maxRecDepth 100000 in
theorem op9_154 {c : ByteArray} {p x y : Nat} {r : List Nat} (f : (bl9 c).drop p = 154 :: x :: y :: r) : decode c p = .ok (.ifCond .ne (Jvm.ClassFile.Reader.signed 16 (x * 256 + y)), 3) := by
  have h := bl_u1 f
  have h2 := bl_s2 h.2
  have i0 : Jvm.ClassFile.Reader.runAt (Jvm.ClassFile.Decoder.instr p) c p = .ok (.ifCond .ne (Jvm.ClassFile.Reader.signed 16 (x * 256 + y)), p + 1 + 1 + 1) := by
    unfold Jvm.ClassFile.Decoder.instr
    rw [bl_b h.1]
    show Jvm.ClassFile.Reader.runAt (Jvm.ClassFile.Reader.s2 >>= fun a => (pure (Instr.ifCond .ne a) : Jvm.ClassFile.Reader Jvm.ClassFile.DecodeError Instr)) c (p + 1) = _
    rw [bl_b h2]
    rfl
  exact (bl_d i0).trans (by rw [show p + 1 + 1 + 1 - p = 3 by omega])
set_option maxRecDepth 100000 in
theorem op9_181 {c : ByteArray} {p x y : Nat} {r : List Nat} (f : (bl9 c).drop p = 181 :: x :: y :: r) : decode c p = .ok (.putfield (x * 256 + y), 3) := by
  have h := bl_u1 f
  have h2 := bl_u2 h.2
  have i0 : Jvm.ClassFile.Reader.runAt (Jvm.ClassFile.Decoder.instr p) c p = .ok (.putfield (x * 256 + y), p + 1 + 1 + 1) := by
    unfold Jvm.ClassFile.Decoder.instr
    rw [bl_b h.1]
    show Jvm.ClassFile.Reader.runAt (Jvm.ClassFile.Reader.u2 >>= fun a => (pure (Instr.putfield a) : Jvm.ClassFile.Reader Jvm.ClassFile.DecodeError Instr)) c (p + 1) = _
    rw [bl_b h2]
    rfl
  exact (bl_d i0).trans (by rw [show p + 1 + 1 + 1 - p = 3 by omega])
set_option maxRecDepth 100000 in
theorem op9_43 {c : ByteArray} {p : Nat} {r : List Nat} (f : (bl9 c).drop p = 43 :: r) : decode c p = .ok (.aload_n 1, 1) := by
  have h := bl_u1 f
  have i0 : Jvm.ClassFile.Reader.runAt (Jvm.ClassFile.Decoder.instr p) c p = .ok (.aload_n 1, p + 1) := by
    unfold Jvm.ClassFile.Decoder.instr
    rw [bl_b h.1]
    rfl
  exact (bl_d i0).trans (by rw [show p + 1 - p = 1 by omega])
set_option maxRecDepth 100000 in
theorem op9_5 {c : ByteArray} {p : Nat} {r : List Nat} (f : (bl9 c).drop p = 5 :: r) : decode c p = .ok (.iconst 2, 1) := by
  have h := bl_u1 f
  have i0 : Jvm.ClassFile.Reader.runAt (Jvm.ClassFile.Decoder.instr p) c p = .ok (.iconst 2, p + 1) := by
    unfold Jvm.ClassFile.Decoder.instr
    rw [bl_b h.1]
    rfl
  exact (bl_d i0).trans (by rw [show p + 1 - p = 1 by omega])
set_option maxRecDepth 100000 in
theorem op9_62 {c : ByteArray} {p : Nat} {r : List Nat} (f : (bl9 c).drop p = 62 :: r) : decode c p = .ok (.istore_n 3, 1) := by
  have h := bl_u1 f
  have i0 : Jvm.ClassFile.Reader.runAt (Jvm.ClassFile.Decoder.instr p) c p = .ok (.istore_n 3, p + 1) := by
    unfold Jvm.ClassFile.Decoder.instr
    rw [bl_b h.1]
    rfl
  exact (bl_d i0).trans (by rw [show p + 1 - p = 1 by omega])
set_option maxRecDepth 100000 in
theorem op9_2 {c : ByteArray} {p : Nat} {r : List Nat} (f : (bl9 c).drop p = 2 :: r) : decode c p = .ok (.iconst (-1), 1) := by
  have h := bl_u1 f
  have i0 : Jvm.ClassFile.Reader.runAt (Jvm.ClassFile.Decoder.instr p) c p = .ok (.iconst (-1), p + 1) := by
    unfold Jvm.ClassFile.Decoder.instr
    rw [bl_b h.1]
    rfl
  exact (bl_d i0).trans (by rw [show p + 1 - p = 1 by omega])
set_option maxRecDepth 100000 in
theorem op9_160 {c : ByteArray} {p x y : Nat} {r : List Nat} (f : (bl9 c).drop p = 160 :: x :: y :: r) : decode c p = .ok (.if_icmp .ne (Jvm.ClassFile.Reader.signed 16 (x * 256 + y)), 3) := by
  have h := bl_u1 f
  have h2 := bl_s2 h.2
  have i0 : Jvm.ClassFile.Reader.runAt (Jvm.ClassFile.Decoder.instr p) c p = .ok (.if_icmp .ne (Jvm.ClassFile.Reader.signed 16 (x * 256 + y)), p + 1 + 1 + 1) := by
    unfold Jvm.ClassFile.Decoder.instr
    rw [bl_b h.1]
    show Jvm.ClassFile.Reader.runAt (Jvm.ClassFile.Reader.s2 >>= fun a => (pure (Instr.if_icmp .ne a) : Jvm.ClassFile.Reader Jvm.ClassFile.DecodeError Instr)) c (p + 1) = _
    rw [bl_b h2]
    rfl
  exact (bl_d i0).trans (by rw [show p + 1 + 1 + 1 - p = 3 by omega])
set_option maxRecDepth 100000 in
theorem op9_177 {c : ByteArray} {p : Nat} {r : List Nat} (f : (bl9 c).drop p = 177 :: r) : decode c p = .ok (.return_, 1) := by
  have h := bl_u1 f
  have i0 : Jvm.ClassFile.Reader.runAt (Jvm.ClassFile.Decoder.instr p) c p = .ok (.return_, p + 1) := by
    unfold Jvm.ClassFile.Decoder.instr
    rw [bl_b h.1]
    rfl
  exact (bl_d i0).trans (by rw [show p + 1 - p = 1 by omega])
set_option maxRecDepth 100000 in
theorem op9_17 {c : ByteArray} {p x y : Nat} {r : List Nat} (f : (bl9 c).drop p = 17 :: x :: y :: r) : decode c p = .ok (.sipush (Jvm.ClassFile.Reader.signed 16 (x * 256 + y)), 3) := by
  have h := bl_u1 f
  have h2 := bl_s2 h.2
  have i0 : Jvm.ClassFile.Reader.runAt (Jvm.ClassFile.Decoder.instr p) c p = .ok (.sipush (Jvm.ClassFile.Reader.signed 16 (x * 256 + y)), p + 1 + 1 + 1) := by
    unfold Jvm.ClassFile.Decoder.instr
    rw [bl_b h.1]
    show Jvm.ClassFile.Reader.runAt (Jvm.ClassFile.Reader.s2 >>= fun a => (pure (Instr.sipush a) : Jvm.ClassFile.Reader Jvm.ClassFile.DecodeError Instr)) c (p + 1) = _
    rw [bl_b h2]
    rfl
  exact (bl_d i0).trans (by rw [show p + 1 + 1 + 1 - p = 3 by omega])
set_option maxRecDepth 100000 in
theorem op9_25 {c : ByteArray} {p x : Nat} {r : List Nat} (f : (bl9 c).drop p = 25 :: x :: r) : decode c p = .ok (.aload x, 2) := by
  have h := bl_u1 f
  have h2 := bl_u1 h.2
  have i0 : Jvm.ClassFile.Reader.runAt (Jvm.ClassFile.Decoder.instr p) c p = .ok (.aload x, p + 1 + 1) := by
    unfold Jvm.ClassFile.Decoder.instr
    rw [bl_b h.1]
    show Jvm.ClassFile.Reader.runAt (Jvm.ClassFile.Reader.u1 >>= fun a => (pure (Instr.aload a) : Jvm.ClassFile.Reader Jvm.ClassFile.DecodeError Instr)) c (p + 1) = _
    rw [bl_b h2.1]
    rfl
  exact (bl_d i0).trans (by rw [show p + 1 + 1 - p = 2 by omega])
set_option maxRecDepth 100000 in
theorem op9_61 {c : ByteArray} {p : Nat} {r : List Nat} (f : (bl9 c).drop p = 61 :: r) : decode c p = .ok (.istore_n 2, 1) := by
  have h := bl_u1 f
  have i0 : Jvm.ClassFile.Reader.runAt (Jvm.ClassFile.Decoder.instr p) c p = .ok (.istore_n 2, p + 1) := by
    unfold Jvm.ClassFile.Decoder.instr
    rw [bl_b h.1]
    rfl
  exact (bl_d i0).trans (by rw [show p + 1 - p = 1 by omega])
set_option maxRecDepth 100000 in
theorem op9_155 {c : ByteArray} {p x y : Nat} {r : List Nat} (f : (bl9 c).drop p = 155 :: x :: y :: r) : decode c p = .ok (.ifCond .lt (Jvm.ClassFile.Reader.signed 16 (x * 256 + y)), 3) := by
  have h := bl_u1 f
  have h2 := bl_s2 h.2
  have i0 : Jvm.ClassFile.Reader.runAt (Jvm.ClassFile.Decoder.instr p) c p = .ok (.ifCond .lt (Jvm.ClassFile.Reader.signed 16 (x * 256 + y)), p + 1 + 1 + 1) := by
    unfold Jvm.ClassFile.Decoder.instr
    rw [bl_b h.1]
    show Jvm.ClassFile.Reader.runAt (Jvm.ClassFile.Reader.s2 >>= fun a => (pure (Instr.ifCond .lt a) : Jvm.ClassFile.Reader Jvm.ClassFile.DecodeError Instr)) c (p + 1) = _
    rw [bl_b h2]
    rfl
  exact (bl_d i0).trans (by rw [show p + 1 + 1 + 1 - p = 3 by omega])
set_option maxRecDepth 100000 in
theorem op9_87 {c : ByteArray} {p : Nat} {r : List Nat} (f : (bl9 c).drop p = 87 :: r) : decode c p = .ok (.pop, 1) := by
  have h := bl_u1 f
  have i0 : Jvm.ClassFile.Reader.runAt (Jvm.ClassFile.Decoder.instr p) c p = .ok (.pop, p + 1) := by
    unfold Jvm.ClassFile.Decoder.instr
    rw [bl_b h.1]
    rfl
  exact (bl_d i0).trans (by rw [show p + 1 - p = 1 by omega])
set_option maxRecDepth 100000 in
theorem op9_44 {c : ByteArray} {p : Nat} {r : List Nat} (f : (bl9 c).drop p = 44 :: r) : decode c p = .ok (.aload_n 2, 1) := by
  have h := bl_u1 f
  have i0 : Jvm.ClassFile.Reader.runAt (Jvm.ClassFile.Decoder.instr p) c p = .ok (.aload_n 2, p + 1) := by
    unfold Jvm.ClassFile.Decoder.instr
    rw [bl_b h.1]
    rfl
  exact (bl_d i0).trans (by rw [show p + 1 - p = 1 by omega])
set_option maxRecDepth 100000 in
theorem op9_79 {c : ByteArray} {p : Nat} {r : List Nat} (f : (bl9 c).drop p = 79 :: r) : decode c p = .ok (.iastore, 1) := by
  have h := bl_u1 f
  have i0 : Jvm.ClassFile.Reader.runAt (Jvm.ClassFile.Decoder.instr p) c p = .ok (.iastore, p + 1) := by
    unfold Jvm.ClassFile.Decoder.instr
    rw [bl_b h.1]
    rfl
  exact (bl_d i0).trans (by rw [show p + 1 - p = 1 by omega])
set_option maxRecDepth 100000 in
theorem op9_6 {c : ByteArray} {p : Nat} {r : List Nat} (f : (bl9 c).drop p = 6 :: r) : decode c p = .ok (.iconst 3, 1) := by
  have h := bl_u1 f
  have i0 : Jvm.ClassFile.Reader.runAt (Jvm.ClassFile.Decoder.instr p) c p = .ok (.iconst 3, p + 1) := by
    unfold Jvm.ClassFile.Decoder.instr
    rw [bl_b h.1]
    rfl
  exact (bl_d i0).trans (by rw [show p + 1 - p = 1 by omega])
set_option maxRecDepth 100000 in
theorem op9_161 {c : ByteArray} {p x y : Nat} {r : List Nat} (f : (bl9 c).drop p = 161 :: x :: y :: r) : decode c p = .ok (.if_icmp .lt (Jvm.ClassFile.Reader.signed 16 (x * 256 + y)), 3) := by
  have h := bl_u1 f
  have h2 := bl_s2 h.2
  have i0 : Jvm.ClassFile.Reader.runAt (Jvm.ClassFile.Decoder.instr p) c p = .ok (.if_icmp .lt (Jvm.ClassFile.Reader.signed 16 (x * 256 + y)), p + 1 + 1 + 1) := by
    unfold Jvm.ClassFile.Decoder.instr
    rw [bl_b h.1]
    show Jvm.ClassFile.Reader.runAt (Jvm.ClassFile.Reader.s2 >>= fun a => (pure (Instr.if_icmp .lt a) : Jvm.ClassFile.Reader Jvm.ClassFile.DecodeError Instr)) c (p + 1) = _
    rw [bl_b h2]
    rfl
  exact (bl_d i0).trans (by rw [show p + 1 + 1 + 1 - p = 3 by omega])
set_option maxRecDepth 100000 in
theorem op9_9 {c : ByteArray} {p : Nat} {r : List Nat} (f : (bl9 c).drop p = 9 :: r) : decode c p = .ok (.lconst 0, 1) := by
  have h := bl_u1 f
  have i0 : Jvm.ClassFile.Reader.runAt (Jvm.ClassFile.Decoder.instr p) c p = .ok (.lconst 0, p + 1) := by
    unfold Jvm.ClassFile.Decoder.instr
    rw [bl_b h.1]
    rfl
  exact (bl_d i0).trans (by rw [show p + 1 - p = 1 by omega])
set_option maxRecDepth 100000 in
theorem op9_108 {c : ByteArray} {p : Nat} {r : List Nat} (f : (bl9 c).drop p = 108 :: r) : decode c p = .ok (.idiv, 1) := by
  have h := bl_u1 f
  have i0 : Jvm.ClassFile.Reader.runAt (Jvm.ClassFile.Decoder.instr p) c p = .ok (.idiv, p + 1) := by
    unfold Jvm.ClassFile.Decoder.instr
    rw [bl_b h.1]
    rfl
  exact (bl_d i0).trans (by rw [show p + 1 - p = 1 by omega])
set_option maxRecDepth 100000 in
theorem op9_45 {c : ByteArray} {p : Nat} {r : List Nat} (f : (bl9 c).drop p = 45 :: r) : decode c p = .ok (.aload_n 3, 1) := by
  have h := bl_u1 f
  have i0 : Jvm.ClassFile.Reader.runAt (Jvm.ClassFile.Decoder.instr p) c p = .ok (.aload_n 3, p + 1) := by
    unfold Jvm.ClassFile.Decoder.instr
    rw [bl_b h.1]
    rfl
  exact (bl_d i0).trans (by rw [show p + 1 - p = 1 by omega])
set_option maxRecDepth 100000 in
theorem op9_173 {c : ByteArray} {p : Nat} {r : List Nat} (f : (bl9 c).drop p = 173 :: r) : decode c p = .ok (.lreturn, 1) := by
  have h := bl_u1 f
  have i0 : Jvm.ClassFile.Reader.runAt (Jvm.ClassFile.Decoder.instr p) c p = .ok (.lreturn, p + 1) := by
    unfold Jvm.ClassFile.Decoder.instr
    rw [bl_b h.1]
    rfl
  exact (bl_d i0).trans (by rw [show p + 1 - p = 1 by omega])
set_option maxRecDepth 100000 in
theorem op9_163 {c : ByteArray} {p x y : Nat} {r : List Nat} (f : (bl9 c).drop p = 163 :: x :: y :: r) : decode c p = .ok (.if_icmp .gt (Jvm.ClassFile.Reader.signed 16 (x * 256 + y)), 3) := by
  have h := bl_u1 f
  have h2 := bl_s2 h.2
  have i0 : Jvm.ClassFile.Reader.runAt (Jvm.ClassFile.Decoder.instr p) c p = .ok (.if_icmp .gt (Jvm.ClassFile.Reader.signed 16 (x * 256 + y)), p + 1 + 1 + 1) := by
    unfold Jvm.ClassFile.Decoder.instr
    rw [bl_b h.1]
    show Jvm.ClassFile.Reader.runAt (Jvm.ClassFile.Reader.s2 >>= fun a => (pure (Instr.if_icmp .gt a) : Jvm.ClassFile.Reader Jvm.ClassFile.DecodeError Instr)) c (p + 1) = _
    rw [bl_b h2]
    rfl
  exact (bl_d i0).trans (by rw [show p + 1 + 1 + 1 - p = 3 by omega])
set_option maxRecDepth 100000 in
theorem op9_26 {c : ByteArray} {p : Nat} {r : List Nat} (f : (bl9 c).drop p = 26 :: r) : decode c p = .ok (.iload_n 0, 1) := by
  have h := bl_u1 f
  have i0 : Jvm.ClassFile.Reader.runAt (Jvm.ClassFile.Decoder.instr p) c p = .ok (.iload_n 0, p + 1) := by
    unfold Jvm.ClassFile.Decoder.instr
    rw [bl_b h.1]
    rfl
  exact (bl_d i0).trans (by rw [show p + 1 - p = 1 by omega])
set_option maxRecDepth 100000 in
theorem op9_22 {c : ByteArray} {p x : Nat} {r : List Nat} (f : (bl9 c).drop p = 22 :: x :: r) : decode c p = .ok (.lload x, 2) := by
  have h := bl_u1 f
  have h2 := bl_u1 h.2
  have i0 : Jvm.ClassFile.Reader.runAt (Jvm.ClassFile.Decoder.instr p) c p = .ok (.lload x, p + 1 + 1) := by
    unfold Jvm.ClassFile.Decoder.instr
    rw [bl_b h.1]
    show Jvm.ClassFile.Reader.runAt (Jvm.ClassFile.Reader.u1 >>= fun a => (pure (Instr.lload a) : Jvm.ClassFile.Reader Jvm.ClassFile.DecodeError Instr)) c (p + 1) = _
    rw [bl_b h2.1]
    rfl
  exact (bl_d i0).trans (by rw [show p + 1 + 1 - p = 2 by omega])
set_option maxRecDepth 100000 in
theorem op9_89 {c : ByteArray} {p : Nat} {r : List Nat} (f : (bl9 c).drop p = 89 :: r) : decode c p = .ok (.dup, 1) := by
  have h := bl_u1 f
  have i0 : Jvm.ClassFile.Reader.runAt (Jvm.ClassFile.Decoder.instr p) c p = .ok (.dup, p + 1) := by
    unfold Jvm.ClassFile.Decoder.instr
    rw [bl_b h.1]
    rfl
  exact (bl_d i0).trans (by rw [show p + 1 - p = 1 by omega])
set_option maxRecDepth 100000 in
theorem op9_18 {c : ByteArray} {p x : Nat} {r : List Nat} (f : (bl9 c).drop p = 18 :: x :: r) : decode c p = .ok (.ldc x, 2) := by
  have h := bl_u1 f
  have h2 := bl_u1 h.2
  have i0 : Jvm.ClassFile.Reader.runAt (Jvm.ClassFile.Decoder.instr p) c p = .ok (.ldc x, p + 1 + 1) := by
    unfold Jvm.ClassFile.Decoder.instr
    rw [bl_b h.1]
    show Jvm.ClassFile.Reader.runAt (Jvm.ClassFile.Reader.u1 >>= fun a => (pure (Instr.ldc a) : Jvm.ClassFile.Reader Jvm.ClassFile.DecodeError Instr)) c (p + 1) = _
    rw [bl_b h2.1]
    rfl
  exact (bl_d i0).trans (by rw [show p + 1 + 1 - p = 2 by omega])
set_option maxRecDepth 100000 in
theorem op9_31 {c : ByteArray} {p : Nat} {r : List Nat} (f : (bl9 c).drop p = 31 :: r) : decode c p = .ok (.lload_n 1, 1) := by
  have h := bl_u1 f
  have i0 : Jvm.ClassFile.Reader.runAt (Jvm.ClassFile.Decoder.instr p) c p = .ok (.lload_n 1, p + 1) := by
    unfold Jvm.ClassFile.Decoder.instr
    rw [bl_b h.1]
    rfl
  exact (bl_d i0).trans (by rw [show p + 1 - p = 1 by omega])
set_option maxRecDepth 100000 in
theorem op9_10 {c : ByteArray} {p : Nat} {r : List Nat} (f : (bl9 c).drop p = 10 :: r) : decode c p = .ok (.lconst 1, 1) := by
  have h := bl_u1 f
  have i0 : Jvm.ClassFile.Reader.runAt (Jvm.ClassFile.Decoder.instr p) c p = .ok (.lconst 1, p + 1) := by
    unfold Jvm.ClassFile.Decoder.instr
    rw [bl_b h.1]
    rfl
  exact (bl_d i0).trans (by rw [show p + 1 - p = 1 by omega])
set_option maxRecDepth 100000 in
theorem op9_47 {c : ByteArray} {p : Nat} {r : List Nat} (f : (bl9 c).drop p = 47 :: r) : decode c p = .ok (.laload, 1) := by
  have h := bl_u1 f
  have i0 : Jvm.ClassFile.Reader.runAt (Jvm.ClassFile.Decoder.instr p) c p = .ok (.laload, p + 1) := by
    unfold Jvm.ClassFile.Decoder.instr
    rw [bl_b h.1]
    rfl
  exact (bl_d i0).trans (by rw [show p + 1 - p = 1 by omega])
set_option maxRecDepth 100000 in
theorem op9_183 {c : ByteArray} {p x y : Nat} {r : List Nat} (f : (bl9 c).drop p = 183 :: x :: y :: r) : decode c p = .ok (.invokespecial (x * 256 + y), 3) := by
  have h := bl_u1 f
  have h2 := bl_u2 h.2
  have i0 : Jvm.ClassFile.Reader.runAt (Jvm.ClassFile.Decoder.instr p) c p = .ok (.invokespecial (x * 256 + y), p + 1 + 1 + 1) := by
    unfold Jvm.ClassFile.Decoder.instr
    rw [bl_b h.1]
    show Jvm.ClassFile.Reader.runAt (Jvm.ClassFile.Reader.u2 >>= fun a => (pure (Instr.invokespecial a) : Jvm.ClassFile.Reader Jvm.ClassFile.DecodeError Instr)) c (p + 1) = _
    rw [bl_b h2]
    rfl
  exact (bl_d i0).trans (by rw [show p + 1 + 1 + 1 - p = 3 by omega])
set_option maxRecDepth 100000 in
theorem op9_60 {c : ByteArray} {p : Nat} {r : List Nat} (f : (bl9 c).drop p = 60 :: r) : decode c p = .ok (.istore_n 1, 1) := by
  have h := bl_u1 f
  have i0 : Jvm.ClassFile.Reader.runAt (Jvm.ClassFile.Decoder.instr p) c p = .ok (.istore_n 1, p + 1) := by
    unfold Jvm.ClassFile.Decoder.instr
    rw [bl_b h.1]
    rfl
  exact (bl_d i0).trans (by rw [show p + 1 - p = 1 by omega])
set_option maxRecDepth 100000 in
theorem op9_159 {c : ByteArray} {p x y : Nat} {r : List Nat} (f : (bl9 c).drop p = 159 :: x :: y :: r) : decode c p = .ok (.if_icmp .eq (Jvm.ClassFile.Reader.signed 16 (x * 256 + y)), 3) := by
  have h := bl_u1 f
  have h2 := bl_s2 h.2
  have i0 : Jvm.ClassFile.Reader.runAt (Jvm.ClassFile.Decoder.instr p) c p = .ok (.if_icmp .eq (Jvm.ClassFile.Reader.signed 16 (x * 256 + y)), p + 1 + 1 + 1) := by
    unfold Jvm.ClassFile.Decoder.instr
    rw [bl_b h.1]
    show Jvm.ClassFile.Reader.runAt (Jvm.ClassFile.Reader.s2 >>= fun a => (pure (Instr.if_icmp .eq a) : Jvm.ClassFile.Reader Jvm.ClassFile.DecodeError Instr)) c (p + 1) = _
    rw [bl_b h2]
    rfl
  exact (bl_d i0).trans (by rw [show p + 1 + 1 + 1 - p = 3 by omega])
set_option maxRecDepth 100000 in
theorem op9_133 {c : ByteArray} {p : Nat} {r : List Nat} (f : (bl9 c).drop p = 133 :: r) : decode c p = .ok (.i2l, 1) := by
  have h := bl_u1 f
  have i0 : Jvm.ClassFile.Reader.runAt (Jvm.ClassFile.Decoder.instr p) c p = .ok (.i2l, p + 1) := by
    unfold Jvm.ClassFile.Decoder.instr
    rw [bl_b h.1]
    rfl
  exact (bl_d i0).trans (by rw [show p + 1 - p = 1 by omega])
set_option maxRecDepth 100000 in
theorem op9_198 {c : ByteArray} {p x y : Nat} {r : List Nat} (f : (bl9 c).drop p = 198 :: x :: y :: r) : decode c p = .ok (.ifnull (Jvm.ClassFile.Reader.signed 16 (x * 256 + y)), 3) := by
  have h := bl_u1 f
  have h2 := bl_s2 h.2
  have i0 : Jvm.ClassFile.Reader.runAt (Jvm.ClassFile.Decoder.instr p) c p = .ok (.ifnull (Jvm.ClassFile.Reader.signed 16 (x * 256 + y)), p + 1 + 1 + 1) := by
    unfold Jvm.ClassFile.Decoder.instr
    rw [bl_b h.1]
    show Jvm.ClassFile.Reader.runAt (Jvm.ClassFile.Reader.s2 >>= fun a => (pure (Instr.ifnull a) : Jvm.ClassFile.Reader Jvm.ClassFile.DecodeError Instr)) c (p + 1) = _
    rw [bl_b h2]
    rfl
  exact (bl_d i0).trans (by rw [show p + 1 + 1 + 1 - p = 3 by omega])
set_option maxRecDepth 100000 in
theorem op9_112 {c : ByteArray} {p : Nat} {r : List Nat} (f : (bl9 c).drop p = 112 :: r) : decode c p = .ok (.irem, 1) := by
  have h := bl_u1 f
  have i0 : Jvm.ClassFile.Reader.runAt (Jvm.ClassFile.Decoder.instr p) c p = .ok (.irem, p + 1) := by
    unfold Jvm.ClassFile.Decoder.instr
    rw [bl_b h.1]
    rfl
  exact (bl_d i0).trans (by rw [show p + 1 - p = 1 by omega])
set_option maxRecDepth 100000 in
theorem op9_156 {c : ByteArray} {p x y : Nat} {r : List Nat} (f : (bl9 c).drop p = 156 :: x :: y :: r) : decode c p = .ok (.ifCond .ge (Jvm.ClassFile.Reader.signed 16 (x * 256 + y)), 3) := by
  have h := bl_u1 f
  have h2 := bl_s2 h.2
  have i0 : Jvm.ClassFile.Reader.runAt (Jvm.ClassFile.Decoder.instr p) c p = .ok (.ifCond .ge (Jvm.ClassFile.Reader.signed 16 (x * 256 + y)), p + 1 + 1 + 1) := by
    unfold Jvm.ClassFile.Decoder.instr
    rw [bl_b h.1]
    show Jvm.ClassFile.Reader.runAt (Jvm.ClassFile.Reader.s2 >>= fun a => (pure (Instr.ifCond .ge a) : Jvm.ClassFile.Reader Jvm.ClassFile.DecodeError Instr)) c (p + 1) = _
    rw [bl_b h2]
    rfl
  exact (bl_d i0).trans (by rw [show p + 1 + 1 + 1 - p = 3 by omega])
set_option maxRecDepth 100000 in
theorem op9_148 {c : ByteArray} {p : Nat} {r : List Nat} (f : (bl9 c).drop p = 148 :: r) : decode c p = .ok (.lcmp, 1) := by
  have h := bl_u1 f
  have i0 : Jvm.ClassFile.Reader.runAt (Jvm.ClassFile.Decoder.instr p) c p = .ok (.lcmp, p + 1) := by
    unfold Jvm.ClassFile.Decoder.instr
    rw [bl_b h.1]
    rfl
  exact (bl_d i0).trans (by rw [show p + 1 - p = 1 by omega])
set_option maxRecDepth 100000 in
theorem op9_164 {c : ByteArray} {p x y : Nat} {r : List Nat} (f : (bl9 c).drop p = 164 :: x :: y :: r) : decode c p = .ok (.if_icmp .le (Jvm.ClassFile.Reader.signed 16 (x * 256 + y)), 3) := by
  have h := bl_u1 f
  have h2 := bl_s2 h.2
  have i0 : Jvm.ClassFile.Reader.runAt (Jvm.ClassFile.Decoder.instr p) c p = .ok (.if_icmp .le (Jvm.ClassFile.Reader.signed 16 (x * 256 + y)), p + 1 + 1 + 1) := by
    unfold Jvm.ClassFile.Decoder.instr
    rw [bl_b h.1]
    show Jvm.ClassFile.Reader.runAt (Jvm.ClassFile.Reader.s2 >>= fun a => (pure (Instr.if_icmp .le a) : Jvm.ClassFile.Reader Jvm.ClassFile.DecodeError Instr)) c (p + 1) = _
    rw [bl_b h2]
    rfl
  exact (bl_d i0).trans (by rw [show p + 1 + 1 + 1 - p = 3 by omega])
set_option maxRecDepth 100000 in
theorem op9_58 {c : ByteArray} {p x : Nat} {r : List Nat} (f : (bl9 c).drop p = 58 :: x :: r) : decode c p = .ok (.astore x, 2) := by
  have h := bl_u1 f
  have h2 := bl_u1 h.2
  have i0 : Jvm.ClassFile.Reader.runAt (Jvm.ClassFile.Decoder.instr p) c p = .ok (.astore x, p + 1 + 1) := by
    unfold Jvm.ClassFile.Decoder.instr
    rw [bl_b h.1]
    show Jvm.ClassFile.Reader.runAt (Jvm.ClassFile.Reader.u1 >>= fun a => (pure (Instr.astore a) : Jvm.ClassFile.Reader Jvm.ClassFile.DecodeError Instr)) c (p + 1) = _
    rw [bl_b h2.1]
    rfl
  exact (bl_d i0).trans (by rw [show p + 1 + 1 - p = 2 by omega])
set_option maxRecDepth 100000 in
theorem op9_20 {c : ByteArray} {p x y : Nat} {r : List Nat} (f : (bl9 c).drop p = 20 :: x :: y :: r) : decode c p = .ok (.ldc2_w (x * 256 + y), 3) := by
  have h := bl_u1 f
  have h2 := bl_u2 h.2
  have i0 : Jvm.ClassFile.Reader.runAt (Jvm.ClassFile.Decoder.instr p) c p = .ok (.ldc2_w (x * 256 + y), p + 1 + 1 + 1) := by
    unfold Jvm.ClassFile.Decoder.instr
    rw [bl_b h.1]
    show Jvm.ClassFile.Reader.runAt (Jvm.ClassFile.Reader.u2 >>= fun a => (pure (Instr.ldc2_w a) : Jvm.ClassFile.Reader Jvm.ClassFile.DecodeError Instr)) c (p + 1) = _
    rw [bl_b h2]
    rfl
  exact (bl_d i0).trans (by rw [show p + 1 + 1 + 1 - p = 3 by omega])
set_option maxRecDepth 100000 in
theorem op9_80 {c : ByteArray} {p : Nat} {r : List Nat} (f : (bl9 c).drop p = 80 :: r) : decode c p = .ok (.lastore, 1) := by
  have h := bl_u1 f
  have i0 : Jvm.ClassFile.Reader.runAt (Jvm.ClassFile.Decoder.instr p) c p = .ok (.lastore, p + 1) := by
    unfold Jvm.ClassFile.Decoder.instr
    rw [bl_b h.1]
    rfl
  exact (bl_d i0).trans (by rw [show p + 1 - p = 1 by omega])
set_option maxRecDepth 100000 in
theorem op9_190 {c : ByteArray} {p : Nat} {r : List Nat} (f : (bl9 c).drop p = 190 :: r) : decode c p = .ok (.arraylength, 1) := by
  have h := bl_u1 f
  have i0 : Jvm.ClassFile.Reader.runAt (Jvm.ClassFile.Decoder.instr p) c p = .ok (.arraylength, p + 1) := by
    unfold Jvm.ClassFile.Decoder.instr
    rw [bl_b h.1]
    rfl
  exact (bl_d i0).trans (by rw [show p + 1 - p = 1 by omega])
set_option maxRecDepth 100000 in
theorem op9_158 {c : ByteArray} {p x y : Nat} {r : List Nat} (f : (bl9 c).drop p = 158 :: x :: y :: r) : decode c p = .ok (.ifCond .le (Jvm.ClassFile.Reader.signed 16 (x * 256 + y)), 3) := by
  have h := bl_u1 f
  have h2 := bl_s2 h.2
  have i0 : Jvm.ClassFile.Reader.runAt (Jvm.ClassFile.Decoder.instr p) c p = .ok (.ifCond .le (Jvm.ClassFile.Reader.signed 16 (x * 256 + y)), p + 1 + 1 + 1) := by
    unfold Jvm.ClassFile.Decoder.instr
    rw [bl_b h.1]
    show Jvm.ClassFile.Reader.runAt (Jvm.ClassFile.Reader.s2 >>= fun a => (pure (Instr.ifCond .le a) : Jvm.ClassFile.Reader Jvm.ClassFile.DecodeError Instr)) c (p + 1) = _
    rw [bl_b h2]
    rfl
  exact (bl_d i0).trans (by rw [show p + 1 + 1 + 1 - p = 3 by omega])
set_option maxRecDepth 100000 in
theorem op9_55 {c : ByteArray} {p x : Nat} {r : List Nat} (f : (bl9 c).drop p = 55 :: x :: r) : decode c p = .ok (.lstore x, 2) := by
  have h := bl_u1 f
  have h2 := bl_u1 h.2
  have i0 : Jvm.ClassFile.Reader.runAt (Jvm.ClassFile.Decoder.instr p) c p = .ok (.lstore x, p + 1 + 1) := by
    unfold Jvm.ClassFile.Decoder.instr
    rw [bl_b h.1]
    show Jvm.ClassFile.Reader.runAt (Jvm.ClassFile.Reader.u1 >>= fun a => (pure (Instr.lstore a) : Jvm.ClassFile.Reader Jvm.ClassFile.DecodeError Instr)) c (p + 1) = _
    rw [bl_b h2.1]
    rfl
  exact (bl_d i0).trans (by rw [show p + 1 + 1 - p = 2 by omega])
set_option maxRecDepth 100000 in
theorem op9_30 {c : ByteArray} {p : Nat} {r : List Nat} (f : (bl9 c).drop p = 30 :: r) : decode c p = .ok (.lload_n 0, 1) := by
  have h := bl_u1 f
  have i0 : Jvm.ClassFile.Reader.runAt (Jvm.ClassFile.Decoder.instr p) c p = .ok (.lload_n 0, p + 1) := by
    unfold Jvm.ClassFile.Decoder.instr
    rw [bl_b h.1]
    rfl
  exact (bl_d i0).trans (by rw [show p + 1 - p = 1 by omega])
set_option maxRecDepth 100000 in
theorem op9_97 {c : ByteArray} {p : Nat} {r : List Nat} (f : (bl9 c).drop p = 97 :: r) : decode c p = .ok (.ladd, 1) := by
  have h := bl_u1 f
  have i0 : Jvm.ClassFile.Reader.runAt (Jvm.ClassFile.Decoder.instr p) c p = .ok (.ladd, p + 1) := by
    unfold Jvm.ClassFile.Decoder.instr
    rw [bl_b h.1]
    rfl
  exact (bl_d i0).trans (by rw [show p + 1 - p = 1 by omega])
set_option maxRecDepth 100000 in
theorem op9_127 {c : ByteArray} {p : Nat} {r : List Nat} (f : (bl9 c).drop p = 127 :: r) : decode c p = .ok (.land, 1) := by
  have h := bl_u1 f
  have i0 : Jvm.ClassFile.Reader.runAt (Jvm.ClassFile.Decoder.instr p) c p = .ok (.land, p + 1) := by
    unfold Jvm.ClassFile.Decoder.instr
    rw [bl_b h.1]
    rfl
  exact (bl_d i0).trans (by rw [show p + 1 - p = 1 by omega])
set_option maxRecDepth 100000 in
theorem op9_105 {c : ByteArray} {p : Nat} {r : List Nat} (f : (bl9 c).drop p = 105 :: r) : decode c p = .ok (.lmul, 1) := by
  have h := bl_u1 f
  have i0 : Jvm.ClassFile.Reader.runAt (Jvm.ClassFile.Decoder.instr p) c p = .ok (.lmul, p + 1) := by
    unfold Jvm.ClassFile.Decoder.instr
    rw [bl_b h.1]
    rfl
  exact (bl_d i0).trans (by rw [show p + 1 - p = 1 by omega])
set_option maxRecDepth 100000 in
theorem op9_116 {c : ByteArray} {p : Nat} {r : List Nat} (f : (bl9 c).drop p = 116 :: r) : decode c p = .ok (.ineg, 1) := by
  have h := bl_u1 f
  have i0 : Jvm.ClassFile.Reader.runAt (Jvm.ClassFile.Decoder.instr p) c p = .ok (.ineg, p + 1) := by
    unfold Jvm.ClassFile.Decoder.instr
    rw [bl_b h.1]
    rfl
  exact (bl_d i0).trans (by rw [show p + 1 - p = 1 by omega])
set_option maxRecDepth 100000 in
theorem op9_187 {c : ByteArray} {p x y : Nat} {r : List Nat} (f : (bl9 c).drop p = 187 :: x :: y :: r) : decode c p = .ok (.new (x * 256 + y), 3) := by
  have h := bl_u1 f
  have h2 := bl_u2 h.2
  have i0 : Jvm.ClassFile.Reader.runAt (Jvm.ClassFile.Decoder.instr p) c p = .ok (.new (x * 256 + y), p + 1 + 1 + 1) := by
    unfold Jvm.ClassFile.Decoder.instr
    rw [bl_b h.1]
    show Jvm.ClassFile.Reader.runAt (Jvm.ClassFile.Reader.u2 >>= fun a => (pure (Instr.new a) : Jvm.ClassFile.Reader Jvm.ClassFile.DecodeError Instr)) c (p + 1) = _
    rw [bl_b h2]
    rfl
  exact (bl_d i0).trans (by rw [show p + 1 + 1 + 1 - p = 3 by omega])
set_option maxRecDepth 100000 in
theorem op9_121 {c : ByteArray} {p : Nat} {r : List Nat} (f : (bl9 c).drop p = 121 :: r) : decode c p = .ok (.lshl, 1) := by
  have h := bl_u1 f
  have i0 : Jvm.ClassFile.Reader.runAt (Jvm.ClassFile.Decoder.instr p) c p = .ok (.lshl, p + 1) := by
    unfold Jvm.ClassFile.Decoder.instr
    rw [bl_b h.1]
    rfl
  exact (bl_d i0).trans (by rw [show p + 1 - p = 1 by omega])
set_option maxRecDepth 100000 in
theorem op9_129 {c : ByteArray} {p : Nat} {r : List Nat} (f : (bl9 c).drop p = 129 :: r) : decode c p = .ok (.lor, 1) := by
  have h := bl_u1 f
  have i0 : Jvm.ClassFile.Reader.runAt (Jvm.ClassFile.Decoder.instr p) c p = .ok (.lor, p + 1) := by
    unfold Jvm.ClassFile.Decoder.instr
    rw [bl_b h.1]
    rfl
  exact (bl_d i0).trans (by rw [show p + 1 - p = 1 by omega])
set_option maxRecDepth 100000 in
theorem op9_199 {c : ByteArray} {p x y : Nat} {r : List Nat} (f : (bl9 c).drop p = 199 :: x :: y :: r) : decode c p = .ok (.ifnonnull (Jvm.ClassFile.Reader.signed 16 (x * 256 + y)), 3) := by
  have h := bl_u1 f
  have h2 := bl_s2 h.2
  have i0 : Jvm.ClassFile.Reader.runAt (Jvm.ClassFile.Decoder.instr p) c p = .ok (.ifnonnull (Jvm.ClassFile.Reader.signed 16 (x * 256 + y)), p + 1 + 1 + 1) := by
    unfold Jvm.ClassFile.Decoder.instr
    rw [bl_b h.1]
    show Jvm.ClassFile.Reader.runAt (Jvm.ClassFile.Reader.s2 >>= fun a => (pure (Instr.ifnonnull a) : Jvm.ClassFile.Reader Jvm.ClassFile.DecodeError Instr)) c (p + 1) = _
    rw [bl_b h2]
    rfl
  exact (bl_d i0).trans (by rw [show p + 1 + 1 + 1 - p = 3 by omega])
set_option maxRecDepth 100000 in
theorem op9_78 {c : ByteArray} {p : Nat} {r : List Nat} (f : (bl9 c).drop p = 78 :: r) : decode c p = .ok (.astore_n 3, 1) := by
  have h := bl_u1 f
  have i0 : Jvm.ClassFile.Reader.runAt (Jvm.ClassFile.Decoder.instr p) c p = .ok (.astore_n 3, p + 1) := by
    unfold Jvm.ClassFile.Decoder.instr
    rw [bl_b h.1]
    rfl
  exact (bl_d i0).trans (by rw [show p + 1 - p = 1 by omega])
set_option maxRecDepth 100000 in
theorem op9_125 {c : ByteArray} {p : Nat} {r : List Nat} (f : (bl9 c).drop p = 125 :: r) : decode c p = .ok (.lushr, 1) := by
  have h := bl_u1 f
  have i0 : Jvm.ClassFile.Reader.runAt (Jvm.ClassFile.Decoder.instr p) c p = .ok (.lushr, p + 1) := by
    unfold Jvm.ClassFile.Decoder.instr
    rw [bl_b h.1]
    rfl
  exact (bl_d i0).trans (by rw [show p + 1 - p = 1 by omega])
set_option maxRecDepth 100000 in
theorem op9_77 {c : ByteArray} {p : Nat} {r : List Nat} (f : (bl9 c).drop p = 77 :: r) : decode c p = .ok (.astore_n 2, 1) := by
  have h := bl_u1 f
  have i0 : Jvm.ClassFile.Reader.runAt (Jvm.ClassFile.Decoder.instr p) c p = .ok (.astore_n 2, p + 1) := by
    unfold Jvm.ClassFile.Decoder.instr
    rw [bl_b h.1]
    rfl
  exact (bl_d i0).trans (by rw [show p + 1 - p = 1 by omega])
set_option maxRecDepth 100000 in
theorem op9_157 {c : ByteArray} {p x y : Nat} {r : List Nat} (f : (bl9 c).drop p = 157 :: x :: y :: r) : decode c p = .ok (.ifCond .gt (Jvm.ClassFile.Reader.signed 16 (x * 256 + y)), 3) := by
  have h := bl_u1 f
  have h2 := bl_s2 h.2
  have i0 : Jvm.ClassFile.Reader.runAt (Jvm.ClassFile.Decoder.instr p) c p = .ok (.ifCond .gt (Jvm.ClassFile.Reader.signed 16 (x * 256 + y)), p + 1 + 1 + 1) := by
    unfold Jvm.ClassFile.Decoder.instr
    rw [bl_b h.1]
    show Jvm.ClassFile.Reader.runAt (Jvm.ClassFile.Reader.s2 >>= fun a => (pure (Instr.ifCond .gt a) : Jvm.ClassFile.Reader Jvm.ClassFile.DecodeError Instr)) c (p + 1) = _
    rw [bl_b h2]
    rfl
  exact (bl_d i0).trans (by rw [show p + 1 + 1 + 1 - p = 3 by omega])
set_option maxRecDepth 100000 in
theorem op9_7 {c : ByteArray} {p : Nat} {r : List Nat} (f : (bl9 c).drop p = 7 :: r) : decode c p = .ok (.iconst 4, 1) := by
  have h := bl_u1 f
  have i0 : Jvm.ClassFile.Reader.runAt (Jvm.ClassFile.Decoder.instr p) c p = .ok (.iconst 4, p + 1) := by
    unfold Jvm.ClassFile.Decoder.instr
    rw [bl_b h.1]
    rfl
  exact (bl_d i0).trans (by rw [show p + 1 - p = 1 by omega])
set_option maxRecDepth 100000 in
theorem op9_101 {c : ByteArray} {p : Nat} {r : List Nat} (f : (bl9 c).drop p = 101 :: r) : decode c p = .ok (.lsub, 1) := by
  have h := bl_u1 f
  have i0 : Jvm.ClassFile.Reader.runAt (Jvm.ClassFile.Decoder.instr p) c p = .ok (.lsub, p + 1) := by
    unfold Jvm.ClassFile.Decoder.instr
    rw [bl_b h.1]
    rfl
  exact (bl_d i0).trans (by rw [show p + 1 - p = 1 by omega])
set_option maxRecDepth 100000 in
theorem op9_64 {c : ByteArray} {p : Nat} {r : List Nat} (f : (bl9 c).drop p = 64 :: r) : decode c p = .ok (.lstore_n 1, 1) := by
  have h := bl_u1 f
  have i0 : Jvm.ClassFile.Reader.runAt (Jvm.ClassFile.Decoder.instr p) c p = .ok (.lstore_n 1, p + 1) := by
    unfold Jvm.ClassFile.Decoder.instr
    rw [bl_b h.1]
    rfl
  exact (bl_d i0).trans (by rw [show p + 1 - p = 1 by omega])
set_option maxRecDepth 100000 in
theorem op9_63 {c : ByteArray} {p : Nat} {r : List Nat} (f : (bl9 c).drop p = 63 :: r) : decode c p = .ok (.lstore_n 0, 1) := by
  have h := bl_u1 f
  have i0 : Jvm.ClassFile.Reader.runAt (Jvm.ClassFile.Decoder.instr p) c p = .ok (.lstore_n 0, p + 1) := by
    unfold Jvm.ClassFile.Decoder.instr
    rw [bl_b h.1]
    rfl
  exact (bl_d i0).trans (by rw [show p + 1 - p = 1 by omega])
set_option maxRecDepth 100000 in
theorem op9_126 {c : ByteArray} {p : Nat} {r : List Nat} (f : (bl9 c).drop p = 126 :: r) : decode c p = .ok (.iand, 1) := by
  have h := bl_u1 f
  have i0 : Jvm.ClassFile.Reader.runAt (Jvm.ClassFile.Decoder.instr p) c p = .ok (.iand, p + 1) := by
    unfold Jvm.ClassFile.Decoder.instr
    rw [bl_b h.1]
    rfl
  exact (bl_d i0).trans (by rw [show p + 1 - p = 1 by omega])
set_option maxRecDepth 100000 in
theorem op9_131 {c : ByteArray} {p : Nat} {r : List Nat} (f : (bl9 c).drop p = 131 :: r) : decode c p = .ok (.lxor, 1) := by
  have h := bl_u1 f
  have i0 : Jvm.ClassFile.Reader.runAt (Jvm.ClassFile.Decoder.instr p) c p = .ok (.lxor, p + 1) := by
    unfold Jvm.ClassFile.Decoder.instr
    rw [bl_b h.1]
    rfl
  exact (bl_d i0).trans (by rw [show p + 1 - p = 1 by omega])
set_option maxRecDepth 100000 in
theorem op9_123 {c : ByteArray} {p : Nat} {r : List Nat} (f : (bl9 c).drop p = 123 :: r) : decode c p = .ok (.lshr, 1) := by
  have h := bl_u1 f
  have i0 : Jvm.ClassFile.Reader.runAt (Jvm.ClassFile.Decoder.instr p) c p = .ok (.lshr, p + 1) := by
    unfold Jvm.ClassFile.Decoder.instr
    rw [bl_b h.1]
    rfl
  exact (bl_d i0).trans (by rw [show p + 1 - p = 1 by omega])
set_option maxRecDepth 100000 in
theorem op9_33 {c : ByteArray} {p : Nat} {r : List Nat} (f : (bl9 c).drop p = 33 :: r) : decode c p = .ok (.lload_n 3, 1) := by
  have h := bl_u1 f
  have i0 : Jvm.ClassFile.Reader.runAt (Jvm.ClassFile.Decoder.instr p) c p = .ok (.lload_n 3, p + 1) := by
    unfold Jvm.ClassFile.Decoder.instr
    rw [bl_b h.1]
    rfl
  exact (bl_d i0).trans (by rw [show p + 1 - p = 1 by omega])
set_option maxRecDepth 100000 in
theorem op9_136 {c : ByteArray} {p : Nat} {r : List Nat} (f : (bl9 c).drop p = 136 :: r) : decode c p = .ok (.l2i, 1) := by
  have h := bl_u1 f
  have i0 : Jvm.ClassFile.Reader.runAt (Jvm.ClassFile.Decoder.instr p) c p = .ok (.l2i, p + 1) := by
    unfold Jvm.ClassFile.Decoder.instr
    rw [bl_b h.1]
    rfl
  exact (bl_d i0).trans (by rw [show p + 1 - p = 1 by omega])
set_option maxRecDepth 100000 in
theorem op9_92 {c : ByteArray} {p : Nat} {r : List Nat} (f : (bl9 c).drop p = 92 :: r) : decode c p = .ok (.dup2, 1) := by
  have h := bl_u1 f
  have i0 : Jvm.ClassFile.Reader.runAt (Jvm.ClassFile.Decoder.instr p) c p = .ok (.dup2, p + 1) := by
    unfold Jvm.ClassFile.Decoder.instr
    rw [bl_b h.1]
    rfl
  exact (bl_d i0).trans (by rw [show p + 1 - p = 1 by omega])
set_option maxRecDepth 100000 in
theorem op9_88 {c : ByteArray} {p : Nat} {r : List Nat} (f : (bl9 c).drop p = 88 :: r) : decode c p = .ok (.pop2, 1) := by
  have h := bl_u1 f
  have i0 : Jvm.ClassFile.Reader.runAt (Jvm.ClassFile.Decoder.instr p) c p = .ok (.pop2, p + 1) := by
    unfold Jvm.ClassFile.Decoder.instr
    rw [bl_b h.1]
    rfl
  exact (bl_d i0).trans (by rw [show p + 1 - p = 1 by omega])
set_option maxRecDepth 100000 in
theorem op9_8 {c : ByteArray} {p : Nat} {r : List Nat} (f : (bl9 c).drop p = 8 :: r) : decode c p = .ok (.iconst 5, 1) := by
  have h := bl_u1 f
  have i0 : Jvm.ClassFile.Reader.runAt (Jvm.ClassFile.Decoder.instr p) c p = .ok (.iconst 5, p + 1) := by
    unfold Jvm.ClassFile.Decoder.instr
    rw [bl_b h.1]
    rfl
  exact (bl_d i0).trans (by rw [show p + 1 - p = 1 by omega])
set_option maxRecDepth 100000 in
theorem op9_66 {c : ByteArray} {p : Nat} {r : List Nat} (f : (bl9 c).drop p = 66 :: r) : decode c p = .ok (.lstore_n 3, 1) := by
  have h := bl_u1 f
  have i0 : Jvm.ClassFile.Reader.runAt (Jvm.ClassFile.Decoder.instr p) c p = .ok (.lstore_n 3, p + 1) := by
    unfold Jvm.ClassFile.Decoder.instr
    rw [bl_b h.1]
    rfl
  exact (bl_d i0).trans (by rw [show p + 1 - p = 1 by omega])
set_option maxRecDepth 100000 in
theorem op9_109 {c : ByteArray} {p : Nat} {r : List Nat} (f : (bl9 c).drop p = 109 :: r) : decode c p = .ok (.ldiv, 1) := by
  have h := bl_u1 f
  have i0 : Jvm.ClassFile.Reader.runAt (Jvm.ClassFile.Decoder.instr p) c p = .ok (.ldiv, p + 1) := by
    unfold Jvm.ClassFile.Decoder.instr
    rw [bl_b h.1]
    rfl
  exact (bl_d i0).trans (by rw [show p + 1 - p = 1 by omega])
set_option maxRecDepth 100000 in
theorem op9_189 {c : ByteArray} {p x y : Nat} {r : List Nat} (f : (bl9 c).drop p = 189 :: x :: y :: r) : decode c p = .ok (.anewarray (x * 256 + y), 3) := by
  have h := bl_u1 f
  have h2 := bl_u2 h.2
  have i0 : Jvm.ClassFile.Reader.runAt (Jvm.ClassFile.Decoder.instr p) c p = .ok (.anewarray (x * 256 + y), p + 1 + 1 + 1) := by
    unfold Jvm.ClassFile.Decoder.instr
    rw [bl_b h.1]
    show Jvm.ClassFile.Reader.runAt (Jvm.ClassFile.Reader.u2 >>= fun a => (pure (Instr.anewarray a) : Jvm.ClassFile.Reader Jvm.ClassFile.DecodeError Instr)) c (p + 1) = _
    rw [bl_b h2]
    rfl
  exact (bl_d i0).trans (by rw [show p + 1 + 1 + 1 - p = 3 by omega])
set_option maxRecDepth 100000 in
theorem op9_83 {c : ByteArray} {p : Nat} {r : List Nat} (f : (bl9 c).drop p = 83 :: r) : decode c p = .ok (.aastore, 1) := by
  have h := bl_u1 f
  have i0 : Jvm.ClassFile.Reader.runAt (Jvm.ClassFile.Decoder.instr p) c p = .ok (.aastore, p + 1) := by
    unfold Jvm.ClassFile.Decoder.instr
    rw [bl_b h.1]
    rfl
  exact (bl_d i0).trans (by rw [show p + 1 - p = 1 by omega])
set_option maxRecDepth 100000 in
theorem op9_1 {c : ByteArray} {p : Nat} {r : List Nat} (f : (bl9 c).drop p = 1 :: r) : decode c p = .ok (.aconst_null, 1) := by
  have h := bl_u1 f
  have i0 : Jvm.ClassFile.Reader.runAt (Jvm.ClassFile.Decoder.instr p) c p = .ok (.aconst_null, p + 1) := by
    unfold Jvm.ClassFile.Decoder.instr
    rw [bl_b h.1]
    rfl
  exact (bl_d i0).trans (by rw [show p + 1 - p = 1 by omega])
set_option maxRecDepth 100000 in
theorem op9_50 {c : ByteArray} {p : Nat} {r : List Nat} (f : (bl9 c).drop p = 50 :: r) : decode c p = .ok (.aaload, 1) := by
  have h := bl_u1 f
  have i0 : Jvm.ClassFile.Reader.runAt (Jvm.ClassFile.Decoder.instr p) c p = .ok (.aaload, p + 1) := by
    unfold Jvm.ClassFile.Decoder.instr
    rw [bl_b h.1]
    rfl
  exact (bl_d i0).trans (by rw [show p + 1 - p = 1 by omega])
set_option maxRecDepth 100000 in
theorem op9_176 {c : ByteArray} {p : Nat} {r : List Nat} (f : (bl9 c).drop p = 176 :: r) : decode c p = .ok (.areturn, 1) := by
  have h := bl_u1 f
  have i0 : Jvm.ClassFile.Reader.runAt (Jvm.ClassFile.Decoder.instr p) c p = .ok (.areturn, p + 1) := by
    unfold Jvm.ClassFile.Decoder.instr
    rw [bl_b h.1]
    rfl
  exact (bl_d i0).trans (by rw [show p + 1 - p = 1 by omega])
set_option maxRecDepth 100000 in
theorem op9_32 {c : ByteArray} {p : Nat} {r : List Nat} (f : (bl9 c).drop p = 32 :: r) : decode c p = .ok (.lload_n 2, 1) := by
  have h := bl_u1 f
  have i0 : Jvm.ClassFile.Reader.runAt (Jvm.ClassFile.Decoder.instr p) c p = .ok (.lload_n 2, p + 1) := by
    unfold Jvm.ClassFile.Decoder.instr
    rw [bl_b h.1]
    rfl
  exact (bl_d i0).trans (by rw [show p + 1 - p = 1 by omega])
set_option maxRecDepth 100000 in
theorem op9_117 {c : ByteArray} {p : Nat} {r : List Nat} (f : (bl9 c).drop p = 117 :: r) : decode c p = .ok (.lneg, 1) := by
  have h := bl_u1 f
  have i0 : Jvm.ClassFile.Reader.runAt (Jvm.ClassFile.Decoder.instr p) c p = .ok (.lneg, p + 1) := by
    unfold Jvm.ClassFile.Decoder.instr
    rw [bl_b h.1]
    rfl
  exact (bl_d i0).trans (by rw [show p + 1 - p = 1 by omega])
set_option maxRecDepth 100000 in
theorem op9_130 {c : ByteArray} {p : Nat} {r : List Nat} (f : (bl9 c).drop p = 130 :: r) : decode c p = .ok (.ixor, 1) := by
  have h := bl_u1 f
  have i0 : Jvm.ClassFile.Reader.runAt (Jvm.ClassFile.Decoder.instr p) c p = .ok (.ixor, p + 1) := by
    unfold Jvm.ClassFile.Decoder.instr
    rw [bl_b h.1]
    rfl
  exact (bl_d i0).trans (by rw [show p + 1 - p = 1 by omega])
set_option maxRecDepth 100000 in
theorem op9_76 {c : ByteArray} {p : Nat} {r : List Nat} (f : (bl9 c).drop p = 76 :: r) : decode c p = .ok (.astore_n 1, 1) := by
  have h := bl_u1 f
  have i0 : Jvm.ClassFile.Reader.runAt (Jvm.ClassFile.Decoder.instr p) c p = .ok (.astore_n 1, p + 1) := by
    unfold Jvm.ClassFile.Decoder.instr
    rw [bl_b h.1]
    rfl
  exact (bl_d i0).trans (by rw [show p + 1 - p = 1 by omega])
def dfa : List Nat → Option (Instr × Nat)
  | x :: _ => if x = 10 then some (.newarray .int, 2) else if x = 11 then some (.newarray .long, 2) else none
  | [] => none
set_option maxRecDepth 100000 in
theorem op9_188_10 {c : ByteArray} {p : Nat} {r : List Nat} (f : (bl9 c).drop p = 188 :: 10 :: r) : decode c p = .ok (.newarray .int, 2) := by
  have h := bl_u1 f
  have h2 := bl_u1 h.2
  have i0 : Jvm.ClassFile.Reader.runAt (Jvm.ClassFile.Decoder.instr p) c p = .ok (.newarray .int, p + 1 + 1) := by
    unfold Jvm.ClassFile.Decoder.instr
    rw [bl_b h.1]
    show Jvm.ClassFile.Reader.runAt (Jvm.ClassFile.Decoder.newarray p) c (p + 1) = _
    unfold Jvm.ClassFile.Decoder.newarray
    rw [bl_b h2.1]
    rfl
  exact (bl_d i0).trans (by rw [show p + 1 + 1 - p = 2 by omega])
set_option maxRecDepth 100000 in
theorem op9_188_11 {c : ByteArray} {p : Nat} {r : List Nat} (f : (bl9 c).drop p = 188 :: 11 :: r) : decode c p = .ok (.newarray .long, 2) := by
  have h := bl_u1 f
  have h2 := bl_u1 h.2
  have i0 : Jvm.ClassFile.Reader.runAt (Jvm.ClassFile.Decoder.instr p) c p = .ok (.newarray .long, p + 1 + 1) := by
    unfold Jvm.ClassFile.Decoder.instr
    rw [bl_b h.1]
    show Jvm.ClassFile.Reader.runAt (Jvm.ClassFile.Decoder.newarray p) c (p + 1) = _
    unfold Jvm.ClassFile.Decoder.newarray
    rw [bl_b h2.1]
    rfl
  exact (bl_d i0).trans (by rw [show p + 1 + 1 - p = 2 by omega])
theorem dfa_ok {c : ByteArray} {p : Nat} {r : List Nat} {v : Instr × Nat} (hl : (bl9 c).drop p = 188 :: r) (h : dfa r = some v) : decode c p = .ok v := by
  rcases r with _ | ⟨x, s⟩
  · have h9 : (none : Option (Instr × Nat)) = some v := h
    cases h9
  have h9 : (if x = 10 then some (.newarray .int, 2) else if x = 11 then some (.newarray .long, 2) else none : Option (Instr × Nat)) = some v := h
  by_cases e10 : x = 10
  · rw [if_pos e10] at h9; subst e10; cases h9; exact op9_188_10 hl
  rw [if_neg e10] at h9
  by_cases e11 : x = 11
  · rw [if_pos e11] at h9; subst e11; cases h9; exact op9_188_11 hl
  rw [if_neg e11] at h9
  cases h9
/-- what a table's row promises -/
def Gd9 (e : Nat × (List Nat → Option (Instr × Nat))) : Prop := ∀ (c : ByteArray) (p : Nat) (r : List Nat) (v : Instr × Nat), (bl9 c).drop p = e.1 :: r → e.2 r = some v → decode c p = .ok v
def al9 : List (Nat × (List Nat → Option (Instr × Nat))) → Prop
  | [] => True
  | e :: t => Gd9 e ∧ al9 t
def lk9 : List (Nat × (List Nat → Option (Instr × Nat))) → Nat → List Nat → Option (Instr × Nat)
  | [], _, _ => none
  | (k, F) :: t, b, r => if b = k then F r else lk9 t b r
theorem lk_ok : ∀ (t : List (Nat × (List Nat → Option (Instr × Nat)))), al9 t → ∀ (c : ByteArray) (p b : Nat) (r : List Nat) (v : Instr × Nat), (bl9 c).drop p = b :: r → lk9 t b r = some v → decode c p = .ok v := by
  intro t
  induction t with
  | nil =>
    intro _ c p b r v _ h
    have h9 : (none : Option (Instr × Nat)) = some v := h
    cases h9
  | cons e t ih =>
    intro ha c p b r v hl h
    obtain ⟨k, F⟩ := e
    have h9 : (if b = k then F r else lk9 t b r) = some v := h
    by_cases w : b = k
    · rw [if_pos w] at h9
      subst w
      exact ha.1 c p r v hl h9
    · rw [if_neg w] at h9
      exact ih ha.2 c p b r v hl h9
theorem gd_42 : Gd9 (42, (fun _ => some (.aload_n 0, 1))) := fun c p r v hl h => by
  have h9 : (some (.aload_n 0, 1) : Option (Instr × Nat)) = some v := h
  cases h9
  exact op9_42 hl
theorem gd_21 : Gd9 (21, (fun r => df1 (fun x => .iload x) r)) := fun c p r v hl h => by
  obtain ⟨x, s, rfl, rfl⟩ := df1_ok h
  exact op9_21 hl
theorem gd_180 : Gd9 (180, (fun r => df2 (fun x => .getfield x) r)) := fun c p r v hl h => by
  obtain ⟨x, y, s, rfl, rfl⟩ := df2_ok h
  exact op9_180 hl
theorem gd_182 : Gd9 (182, (fun r => df2 (fun x => .invokevirtual x) r)) := fun c p r v hl h => by
  obtain ⟨x, y, s, rfl, rfl⟩ := df2_ok h
  exact op9_182 hl
theorem gd_29 : Gd9 (29, (fun _ => some (.iload_n 3, 1))) := fun c p r v hl h => by
  have h9 : (some (.iload_n 3, 1) : Option (Instr × Nat)) = some v := h
  cases h9
  exact op9_29 hl
theorem gd_27 : Gd9 (27, (fun _ => some (.iload_n 1, 1))) := fun c p r v hl h => by
  have h9 : (some (.iload_n 1, 1) : Option (Instr × Nat)) = some v := h
  cases h9
  exact op9_27 hl
theorem gd_28 : Gd9 (28, (fun _ => some (.iload_n 2, 1))) := fun c p r v hl h => by
  have h9 : (some (.iload_n 2, 1) : Option (Instr × Nat)) = some v := h
  cases h9
  exact op9_28 hl
theorem gd_3 : Gd9 (3, (fun _ => some (.iconst 0, 1))) := fun c p r v hl h => by
  have h9 : (some (.iconst 0, 1) : Option (Instr × Nat)) = some v := h
  cases h9
  exact op9_3 hl
theorem gd_96 : Gd9 (96, (fun _ => some (.iadd, 1))) := fun c p r v hl h => by
  have h9 : (some (.iadd, 1) : Option (Instr × Nat)) = some v := h
  cases h9
  exact op9_96 hl
theorem gd_167 : Gd9 (167, (fun r => dg2 (fun x => .goto x) r)) := fun c p r v hl h => by
  obtain ⟨x, y, s, rfl, rfl⟩ := dg2_ok h
  exact op9_167 hl
theorem gd_46 : Gd9 (46, (fun _ => some (.iaload, 1))) := fun c p r v hl h => by
  have h9 : (some (.iaload, 1) : Option (Instr × Nat)) = some v := h
  cases h9
  exact op9_46 hl
theorem gd_172 : Gd9 (172, (fun _ => some (.ireturn, 1))) := fun c p r v hl h => by
  have h9 : (some (.ireturn, 1) : Option (Instr × Nat)) = some v := h
  cases h9
  exact op9_172 hl
theorem gd_4 : Gd9 (4, (fun _ => some (.iconst 1, 1))) := fun c p r v hl h => by
  have h9 : (some (.iconst 1, 1) : Option (Instr × Nat)) = some v := h
  cases h9
  exact op9_4 hl
theorem gd_54 : Gd9 (54, (fun r => df1 (fun x => .istore x) r)) := fun c p r v hl h => by
  obtain ⟨x, s, rfl, rfl⟩ := df1_ok h
  exact op9_54 hl
theorem gd_100 : Gd9 (100, (fun _ => some (.isub, 1))) := fun c p r v hl h => by
  have h9 : (some (.isub, 1) : Option (Instr × Nat)) = some v := h
  cases h9
  exact op9_100 hl
theorem gd_184 : Gd9 (184, (fun r => df2 (fun x => .invokestatic x) r)) := fun c p r v hl h => by
  obtain ⟨x, y, s, rfl, rfl⟩ := df2_ok h
  exact op9_184 hl
theorem gd_104 : Gd9 (104, (fun _ => some (.imul, 1))) := fun c p r v hl h => by
  have h9 : (some (.imul, 1) : Option (Instr × Nat)) = some v := h
  cases h9
  exact op9_104 hl
theorem gd_16 : Gd9 (16, (fun r => dg1 (fun x => .bipush x) r)) := fun c p r v hl h => by
  obtain ⟨x, s, rfl, rfl⟩ := dg1_ok h
  exact op9_16 hl
theorem gd_162 : Gd9 (162, (fun r => dg2 (fun x => .if_icmp .ge x) r)) := fun c p r v hl h => by
  obtain ⟨x, y, s, rfl, rfl⟩ := dg2_ok h
  exact op9_162 hl
theorem gd_153 : Gd9 (153, (fun r => dg2 (fun x => .ifCond .eq x) r)) := fun c p r v hl h => by
  obtain ⟨x, y, s, rfl, rfl⟩ := dg2_ok h
  exact op9_153 hl
theorem gd_132 : Gd9 (132, (fun r => dfi (fun x y => .iinc x y) r)) := fun c p r v hl h => by
  obtain ⟨x, y, s, rfl, rfl⟩ := dfi_ok h
  exact op9_132 hl
theorem gd_154 : Gd9 (154, (fun r => dg2 (fun x => .ifCond .ne x) r)) := fun c p r v hl h => by
  obtain ⟨x, y, s, rfl, rfl⟩ := dg2_ok h
  exact op9_154 hl
theorem gd_181 : Gd9 (181, (fun r => df2 (fun x => .putfield x) r)) := fun c p r v hl h => by
  obtain ⟨x, y, s, rfl, rfl⟩ := df2_ok h
  exact op9_181 hl
theorem gd_43 : Gd9 (43, (fun _ => some (.aload_n 1, 1))) := fun c p r v hl h => by
  have h9 : (some (.aload_n 1, 1) : Option (Instr × Nat)) = some v := h
  cases h9
  exact op9_43 hl
theorem gd_5 : Gd9 (5, (fun _ => some (.iconst 2, 1))) := fun c p r v hl h => by
  have h9 : (some (.iconst 2, 1) : Option (Instr × Nat)) = some v := h
  cases h9
  exact op9_5 hl
theorem gd_62 : Gd9 (62, (fun _ => some (.istore_n 3, 1))) := fun c p r v hl h => by
  have h9 : (some (.istore_n 3, 1) : Option (Instr × Nat)) = some v := h
  cases h9
  exact op9_62 hl
theorem gd_2 : Gd9 (2, (fun _ => some (.iconst (-1), 1))) := fun c p r v hl h => by
  have h9 : (some (.iconst (-1), 1) : Option (Instr × Nat)) = some v := h
  cases h9
  exact op9_2 hl
theorem gd_160 : Gd9 (160, (fun r => dg2 (fun x => .if_icmp .ne x) r)) := fun c p r v hl h => by
  obtain ⟨x, y, s, rfl, rfl⟩ := dg2_ok h
  exact op9_160 hl
theorem gd_177 : Gd9 (177, (fun _ => some (.return_, 1))) := fun c p r v hl h => by
  have h9 : (some (.return_, 1) : Option (Instr × Nat)) = some v := h
  cases h9
  exact op9_177 hl
theorem gd_17 : Gd9 (17, (fun r => dg2 (fun x => .sipush x) r)) := fun c p r v hl h => by
  obtain ⟨x, y, s, rfl, rfl⟩ := dg2_ok h
  exact op9_17 hl
theorem gd_25 : Gd9 (25, (fun r => df1 (fun x => .aload x) r)) := fun c p r v hl h => by
  obtain ⟨x, s, rfl, rfl⟩ := df1_ok h
  exact op9_25 hl
theorem gd_61 : Gd9 (61, (fun _ => some (.istore_n 2, 1))) := fun c p r v hl h => by
  have h9 : (some (.istore_n 2, 1) : Option (Instr × Nat)) = some v := h
  cases h9
  exact op9_61 hl
theorem gd_155 : Gd9 (155, (fun r => dg2 (fun x => .ifCond .lt x) r)) := fun c p r v hl h => by
  obtain ⟨x, y, s, rfl, rfl⟩ := dg2_ok h
  exact op9_155 hl
theorem gd_87 : Gd9 (87, (fun _ => some (.pop, 1))) := fun c p r v hl h => by
  have h9 : (some (.pop, 1) : Option (Instr × Nat)) = some v := h
  cases h9
  exact op9_87 hl
theorem gd_44 : Gd9 (44, (fun _ => some (.aload_n 2, 1))) := fun c p r v hl h => by
  have h9 : (some (.aload_n 2, 1) : Option (Instr × Nat)) = some v := h
  cases h9
  exact op9_44 hl
theorem gd_79 : Gd9 (79, (fun _ => some (.iastore, 1))) := fun c p r v hl h => by
  have h9 : (some (.iastore, 1) : Option (Instr × Nat)) = some v := h
  cases h9
  exact op9_79 hl
theorem gd_6 : Gd9 (6, (fun _ => some (.iconst 3, 1))) := fun c p r v hl h => by
  have h9 : (some (.iconst 3, 1) : Option (Instr × Nat)) = some v := h
  cases h9
  exact op9_6 hl
theorem gd_161 : Gd9 (161, (fun r => dg2 (fun x => .if_icmp .lt x) r)) := fun c p r v hl h => by
  obtain ⟨x, y, s, rfl, rfl⟩ := dg2_ok h
  exact op9_161 hl
theorem gd_9 : Gd9 (9, (fun _ => some (.lconst 0, 1))) := fun c p r v hl h => by
  have h9 : (some (.lconst 0, 1) : Option (Instr × Nat)) = some v := h
  cases h9
  exact op9_9 hl
theorem gd_108 : Gd9 (108, (fun _ => some (.idiv, 1))) := fun c p r v hl h => by
  have h9 : (some (.idiv, 1) : Option (Instr × Nat)) = some v := h
  cases h9
  exact op9_108 hl
theorem gd_45 : Gd9 (45, (fun _ => some (.aload_n 3, 1))) := fun c p r v hl h => by
  have h9 : (some (.aload_n 3, 1) : Option (Instr × Nat)) = some v := h
  cases h9
  exact op9_45 hl
theorem gd_173 : Gd9 (173, (fun _ => some (.lreturn, 1))) := fun c p r v hl h => by
  have h9 : (some (.lreturn, 1) : Option (Instr × Nat)) = some v := h
  cases h9
  exact op9_173 hl
theorem gd_163 : Gd9 (163, (fun r => dg2 (fun x => .if_icmp .gt x) r)) := fun c p r v hl h => by
  obtain ⟨x, y, s, rfl, rfl⟩ := dg2_ok h
  exact op9_163 hl
theorem gd_26 : Gd9 (26, (fun _ => some (.iload_n 0, 1))) := fun c p r v hl h => by
  have h9 : (some (.iload_n 0, 1) : Option (Instr × Nat)) = some v := h
  cases h9
  exact op9_26 hl
theorem gd_22 : Gd9 (22, (fun r => df1 (fun x => .lload x) r)) := fun c p r v hl h => by
  obtain ⟨x, s, rfl, rfl⟩ := df1_ok h
  exact op9_22 hl
theorem gd_89 : Gd9 (89, (fun _ => some (.dup, 1))) := fun c p r v hl h => by
  have h9 : (some (.dup, 1) : Option (Instr × Nat)) = some v := h
  cases h9
  exact op9_89 hl
theorem gd_188 : Gd9 (188, (fun r => dfa r)) := fun c p r v hl h => dfa_ok hl h
theorem gd_18 : Gd9 (18, (fun r => df1 (fun x => .ldc x) r)) := fun c p r v hl h => by
  obtain ⟨x, s, rfl, rfl⟩ := df1_ok h
  exact op9_18 hl
theorem gd_31 : Gd9 (31, (fun _ => some (.lload_n 1, 1))) := fun c p r v hl h => by
  have h9 : (some (.lload_n 1, 1) : Option (Instr × Nat)) = some v := h
  cases h9
  exact op9_31 hl
theorem gd_10 : Gd9 (10, (fun _ => some (.lconst 1, 1))) := fun c p r v hl h => by
  have h9 : (some (.lconst 1, 1) : Option (Instr × Nat)) = some v := h
  cases h9
  exact op9_10 hl
theorem gd_47 : Gd9 (47, (fun _ => some (.laload, 1))) := fun c p r v hl h => by
  have h9 : (some (.laload, 1) : Option (Instr × Nat)) = some v := h
  cases h9
  exact op9_47 hl
theorem gd_183 : Gd9 (183, (fun r => df2 (fun x => .invokespecial x) r)) := fun c p r v hl h => by
  obtain ⟨x, y, s, rfl, rfl⟩ := df2_ok h
  exact op9_183 hl
theorem gd_60 : Gd9 (60, (fun _ => some (.istore_n 1, 1))) := fun c p r v hl h => by
  have h9 : (some (.istore_n 1, 1) : Option (Instr × Nat)) = some v := h
  cases h9
  exact op9_60 hl
theorem gd_159 : Gd9 (159, (fun r => dg2 (fun x => .if_icmp .eq x) r)) := fun c p r v hl h => by
  obtain ⟨x, y, s, rfl, rfl⟩ := dg2_ok h
  exact op9_159 hl
theorem gd_133 : Gd9 (133, (fun _ => some (.i2l, 1))) := fun c p r v hl h => by
  have h9 : (some (.i2l, 1) : Option (Instr × Nat)) = some v := h
  cases h9
  exact op9_133 hl
theorem gd_198 : Gd9 (198, (fun r => dg2 (fun x => .ifnull x) r)) := fun c p r v hl h => by
  obtain ⟨x, y, s, rfl, rfl⟩ := dg2_ok h
  exact op9_198 hl
theorem gd_112 : Gd9 (112, (fun _ => some (.irem, 1))) := fun c p r v hl h => by
  have h9 : (some (.irem, 1) : Option (Instr × Nat)) = some v := h
  cases h9
  exact op9_112 hl
theorem gd_156 : Gd9 (156, (fun r => dg2 (fun x => .ifCond .ge x) r)) := fun c p r v hl h => by
  obtain ⟨x, y, s, rfl, rfl⟩ := dg2_ok h
  exact op9_156 hl
theorem gd_148 : Gd9 (148, (fun _ => some (.lcmp, 1))) := fun c p r v hl h => by
  have h9 : (some (.lcmp, 1) : Option (Instr × Nat)) = some v := h
  cases h9
  exact op9_148 hl
theorem gd_164 : Gd9 (164, (fun r => dg2 (fun x => .if_icmp .le x) r)) := fun c p r v hl h => by
  obtain ⟨x, y, s, rfl, rfl⟩ := dg2_ok h
  exact op9_164 hl
theorem gd_58 : Gd9 (58, (fun r => df1 (fun x => .astore x) r)) := fun c p r v hl h => by
  obtain ⟨x, s, rfl, rfl⟩ := df1_ok h
  exact op9_58 hl
theorem gd_20 : Gd9 (20, (fun r => df2 (fun x => .ldc2_w x) r)) := fun c p r v hl h => by
  obtain ⟨x, y, s, rfl, rfl⟩ := df2_ok h
  exact op9_20 hl
theorem gd_80 : Gd9 (80, (fun _ => some (.lastore, 1))) := fun c p r v hl h => by
  have h9 : (some (.lastore, 1) : Option (Instr × Nat)) = some v := h
  cases h9
  exact op9_80 hl
theorem gd_190 : Gd9 (190, (fun _ => some (.arraylength, 1))) := fun c p r v hl h => by
  have h9 : (some (.arraylength, 1) : Option (Instr × Nat)) = some v := h
  cases h9
  exact op9_190 hl
theorem gd_158 : Gd9 (158, (fun r => dg2 (fun x => .ifCond .le x) r)) := fun c p r v hl h => by
  obtain ⟨x, y, s, rfl, rfl⟩ := dg2_ok h
  exact op9_158 hl
theorem gd_55 : Gd9 (55, (fun r => df1 (fun x => .lstore x) r)) := fun c p r v hl h => by
  obtain ⟨x, s, rfl, rfl⟩ := df1_ok h
  exact op9_55 hl
theorem gd_30 : Gd9 (30, (fun _ => some (.lload_n 0, 1))) := fun c p r v hl h => by
  have h9 : (some (.lload_n 0, 1) : Option (Instr × Nat)) = some v := h
  cases h9
  exact op9_30 hl
theorem gd_97 : Gd9 (97, (fun _ => some (.ladd, 1))) := fun c p r v hl h => by
  have h9 : (some (.ladd, 1) : Option (Instr × Nat)) = some v := h
  cases h9
  exact op9_97 hl
theorem gd_127 : Gd9 (127, (fun _ => some (.land, 1))) := fun c p r v hl h => by
  have h9 : (some (.land, 1) : Option (Instr × Nat)) = some v := h
  cases h9
  exact op9_127 hl
theorem gd_105 : Gd9 (105, (fun _ => some (.lmul, 1))) := fun c p r v hl h => by
  have h9 : (some (.lmul, 1) : Option (Instr × Nat)) = some v := h
  cases h9
  exact op9_105 hl
theorem gd_116 : Gd9 (116, (fun _ => some (.ineg, 1))) := fun c p r v hl h => by
  have h9 : (some (.ineg, 1) : Option (Instr × Nat)) = some v := h
  cases h9
  exact op9_116 hl
theorem gd_187 : Gd9 (187, (fun r => df2 (fun x => .new x) r)) := fun c p r v hl h => by
  obtain ⟨x, y, s, rfl, rfl⟩ := df2_ok h
  exact op9_187 hl
theorem gd_121 : Gd9 (121, (fun _ => some (.lshl, 1))) := fun c p r v hl h => by
  have h9 : (some (.lshl, 1) : Option (Instr × Nat)) = some v := h
  cases h9
  exact op9_121 hl
theorem gd_129 : Gd9 (129, (fun _ => some (.lor, 1))) := fun c p r v hl h => by
  have h9 : (some (.lor, 1) : Option (Instr × Nat)) = some v := h
  cases h9
  exact op9_129 hl
theorem gd_199 : Gd9 (199, (fun r => dg2 (fun x => .ifnonnull x) r)) := fun c p r v hl h => by
  obtain ⟨x, y, s, rfl, rfl⟩ := dg2_ok h
  exact op9_199 hl
theorem gd_78 : Gd9 (78, (fun _ => some (.astore_n 3, 1))) := fun c p r v hl h => by
  have h9 : (some (.astore_n 3, 1) : Option (Instr × Nat)) = some v := h
  cases h9
  exact op9_78 hl
theorem gd_125 : Gd9 (125, (fun _ => some (.lushr, 1))) := fun c p r v hl h => by
  have h9 : (some (.lushr, 1) : Option (Instr × Nat)) = some v := h
  cases h9
  exact op9_125 hl
theorem gd_77 : Gd9 (77, (fun _ => some (.astore_n 2, 1))) := fun c p r v hl h => by
  have h9 : (some (.astore_n 2, 1) : Option (Instr × Nat)) = some v := h
  cases h9
  exact op9_77 hl
theorem gd_157 : Gd9 (157, (fun r => dg2 (fun x => .ifCond .gt x) r)) := fun c p r v hl h => by
  obtain ⟨x, y, s, rfl, rfl⟩ := dg2_ok h
  exact op9_157 hl
theorem gd_7 : Gd9 (7, (fun _ => some (.iconst 4, 1))) := fun c p r v hl h => by
  have h9 : (some (.iconst 4, 1) : Option (Instr × Nat)) = some v := h
  cases h9
  exact op9_7 hl
theorem gd_101 : Gd9 (101, (fun _ => some (.lsub, 1))) := fun c p r v hl h => by
  have h9 : (some (.lsub, 1) : Option (Instr × Nat)) = some v := h
  cases h9
  exact op9_101 hl
theorem gd_64 : Gd9 (64, (fun _ => some (.lstore_n 1, 1))) := fun c p r v hl h => by
  have h9 : (some (.lstore_n 1, 1) : Option (Instr × Nat)) = some v := h
  cases h9
  exact op9_64 hl
theorem gd_63 : Gd9 (63, (fun _ => some (.lstore_n 0, 1))) := fun c p r v hl h => by
  have h9 : (some (.lstore_n 0, 1) : Option (Instr × Nat)) = some v := h
  cases h9
  exact op9_63 hl
theorem gd_126 : Gd9 (126, (fun _ => some (.iand, 1))) := fun c p r v hl h => by
  have h9 : (some (.iand, 1) : Option (Instr × Nat)) = some v := h
  cases h9
  exact op9_126 hl
theorem gd_131 : Gd9 (131, (fun _ => some (.lxor, 1))) := fun c p r v hl h => by
  have h9 : (some (.lxor, 1) : Option (Instr × Nat)) = some v := h
  cases h9
  exact op9_131 hl
theorem gd_123 : Gd9 (123, (fun _ => some (.lshr, 1))) := fun c p r v hl h => by
  have h9 : (some (.lshr, 1) : Option (Instr × Nat)) = some v := h
  cases h9
  exact op9_123 hl
theorem gd_33 : Gd9 (33, (fun _ => some (.lload_n 3, 1))) := fun c p r v hl h => by
  have h9 : (some (.lload_n 3, 1) : Option (Instr × Nat)) = some v := h
  cases h9
  exact op9_33 hl
theorem gd_136 : Gd9 (136, (fun _ => some (.l2i, 1))) := fun c p r v hl h => by
  have h9 : (some (.l2i, 1) : Option (Instr × Nat)) = some v := h
  cases h9
  exact op9_136 hl
theorem gd_92 : Gd9 (92, (fun _ => some (.dup2, 1))) := fun c p r v hl h => by
  have h9 : (some (.dup2, 1) : Option (Instr × Nat)) = some v := h
  cases h9
  exact op9_92 hl
theorem gd_88 : Gd9 (88, (fun _ => some (.pop2, 1))) := fun c p r v hl h => by
  have h9 : (some (.pop2, 1) : Option (Instr × Nat)) = some v := h
  cases h9
  exact op9_88 hl
theorem gd_8 : Gd9 (8, (fun _ => some (.iconst 5, 1))) := fun c p r v hl h => by
  have h9 : (some (.iconst 5, 1) : Option (Instr × Nat)) = some v := h
  cases h9
  exact op9_8 hl
theorem gd_66 : Gd9 (66, (fun _ => some (.lstore_n 3, 1))) := fun c p r v hl h => by
  have h9 : (some (.lstore_n 3, 1) : Option (Instr × Nat)) = some v := h
  cases h9
  exact op9_66 hl
theorem gd_109 : Gd9 (109, (fun _ => some (.ldiv, 1))) := fun c p r v hl h => by
  have h9 : (some (.ldiv, 1) : Option (Instr × Nat)) = some v := h
  cases h9
  exact op9_109 hl
theorem gd_189 : Gd9 (189, (fun r => df2 (fun x => .anewarray x) r)) := fun c p r v hl h => by
  obtain ⟨x, y, s, rfl, rfl⟩ := df2_ok h
  exact op9_189 hl
theorem gd_83 : Gd9 (83, (fun _ => some (.aastore, 1))) := fun c p r v hl h => by
  have h9 : (some (.aastore, 1) : Option (Instr × Nat)) = some v := h
  cases h9
  exact op9_83 hl
theorem gd_1 : Gd9 (1, (fun _ => some (.aconst_null, 1))) := fun c p r v hl h => by
  have h9 : (some (.aconst_null, 1) : Option (Instr × Nat)) = some v := h
  cases h9
  exact op9_1 hl
theorem gd_50 : Gd9 (50, (fun _ => some (.aaload, 1))) := fun c p r v hl h => by
  have h9 : (some (.aaload, 1) : Option (Instr × Nat)) = some v := h
  cases h9
  exact op9_50 hl
theorem gd_176 : Gd9 (176, (fun _ => some (.areturn, 1))) := fun c p r v hl h => by
  have h9 : (some (.areturn, 1) : Option (Instr × Nat)) = some v := h
  cases h9
  exact op9_176 hl
theorem gd_32 : Gd9 (32, (fun _ => some (.lload_n 2, 1))) := fun c p r v hl h => by
  have h9 : (some (.lload_n 2, 1) : Option (Instr × Nat)) = some v := h
  cases h9
  exact op9_32 hl
theorem gd_117 : Gd9 (117, (fun _ => some (.lneg, 1))) := fun c p r v hl h => by
  have h9 : (some (.lneg, 1) : Option (Instr × Nat)) = some v := h
  cases h9
  exact op9_117 hl
theorem gd_130 : Gd9 (130, (fun _ => some (.ixor, 1))) := fun c p r v hl h => by
  have h9 : (some (.ixor, 1) : Option (Instr × Nat)) = some v := h
  cases h9
  exact op9_130 hl
theorem gd_76 : Gd9 (76, (fun _ => some (.astore_n 1, 1))) := fun c p r v hl h => by
  have h9 : (some (.astore_n 1, 1) : Option (Instr × Nat)) = some v := h
  cases h9
  exact op9_76 hl
def tb9 : List (Nat × (List Nat → Option (Instr × Nat))) := [(42, (fun _ => some (.aload_n 0, 1))),
  (21, (fun r => df1 (fun x => .iload x) r)),
  (180, (fun r => df2 (fun x => .getfield x) r)),
  (182, (fun r => df2 (fun x => .invokevirtual x) r)),
  (29, (fun _ => some (.iload_n 3, 1))),
  (27, (fun _ => some (.iload_n 1, 1))),
  (28, (fun _ => some (.iload_n 2, 1))),
  (3, (fun _ => some (.iconst 0, 1))),
  (96, (fun _ => some (.iadd, 1))),
  (167, (fun r => dg2 (fun x => .goto x) r)),
  (46, (fun _ => some (.iaload, 1))),
  (172, (fun _ => some (.ireturn, 1))),
  (4, (fun _ => some (.iconst 1, 1))),
  (54, (fun r => df1 (fun x => .istore x) r)),
  (100, (fun _ => some (.isub, 1))),
  (184, (fun r => df2 (fun x => .invokestatic x) r)),
  (104, (fun _ => some (.imul, 1))),
  (16, (fun r => dg1 (fun x => .bipush x) r)),
  (162, (fun r => dg2 (fun x => .if_icmp .ge x) r)),
  (153, (fun r => dg2 (fun x => .ifCond .eq x) r)),
  (132, (fun r => dfi (fun x y => .iinc x y) r)),
  (154, (fun r => dg2 (fun x => .ifCond .ne x) r)),
  (181, (fun r => df2 (fun x => .putfield x) r)),
  (43, (fun _ => some (.aload_n 1, 1))),
  (5, (fun _ => some (.iconst 2, 1))),
  (62, (fun _ => some (.istore_n 3, 1))),
  (2, (fun _ => some (.iconst (-1), 1))),
  (160, (fun r => dg2 (fun x => .if_icmp .ne x) r)),
  (177, (fun _ => some (.return_, 1))),
  (17, (fun r => dg2 (fun x => .sipush x) r)),
  (25, (fun r => df1 (fun x => .aload x) r)),
  (61, (fun _ => some (.istore_n 2, 1))),
  (155, (fun r => dg2 (fun x => .ifCond .lt x) r)),
  (87, (fun _ => some (.pop, 1))),
  (44, (fun _ => some (.aload_n 2, 1))),
  (79, (fun _ => some (.iastore, 1))),
  (6, (fun _ => some (.iconst 3, 1))),
  (161, (fun r => dg2 (fun x => .if_icmp .lt x) r)),
  (9, (fun _ => some (.lconst 0, 1))),
  (108, (fun _ => some (.idiv, 1))),
  (45, (fun _ => some (.aload_n 3, 1))),
  (173, (fun _ => some (.lreturn, 1))),
  (163, (fun r => dg2 (fun x => .if_icmp .gt x) r)),
  (26, (fun _ => some (.iload_n 0, 1))),
  (22, (fun r => df1 (fun x => .lload x) r)),
  (89, (fun _ => some (.dup, 1))),
  (188, (fun r => dfa r)),
  (18, (fun r => df1 (fun x => .ldc x) r)),
  (31, (fun _ => some (.lload_n 1, 1))),
  (10, (fun _ => some (.lconst 1, 1))),
  (47, (fun _ => some (.laload, 1))),
  (183, (fun r => df2 (fun x => .invokespecial x) r)),
  (60, (fun _ => some (.istore_n 1, 1))),
  (159, (fun r => dg2 (fun x => .if_icmp .eq x) r)),
  (133, (fun _ => some (.i2l, 1))),
  (198, (fun r => dg2 (fun x => .ifnull x) r)),
  (112, (fun _ => some (.irem, 1))),
  (156, (fun r => dg2 (fun x => .ifCond .ge x) r)),
  (148, (fun _ => some (.lcmp, 1))),
  (164, (fun r => dg2 (fun x => .if_icmp .le x) r)),
  (58, (fun r => df1 (fun x => .astore x) r)),
  (20, (fun r => df2 (fun x => .ldc2_w x) r)),
  (80, (fun _ => some (.lastore, 1))),
  (190, (fun _ => some (.arraylength, 1))),
  (158, (fun r => dg2 (fun x => .ifCond .le x) r)),
  (55, (fun r => df1 (fun x => .lstore x) r)),
  (30, (fun _ => some (.lload_n 0, 1))),
  (97, (fun _ => some (.ladd, 1))),
  (127, (fun _ => some (.land, 1))),
  (105, (fun _ => some (.lmul, 1))),
  (116, (fun _ => some (.ineg, 1))),
  (187, (fun r => df2 (fun x => .new x) r)),
  (121, (fun _ => some (.lshl, 1))),
  (129, (fun _ => some (.lor, 1))),
  (199, (fun r => dg2 (fun x => .ifnonnull x) r)),
  (78, (fun _ => some (.astore_n 3, 1))),
  (125, (fun _ => some (.lushr, 1))),
  (77, (fun _ => some (.astore_n 2, 1))),
  (157, (fun r => dg2 (fun x => .ifCond .gt x) r)),
  (7, (fun _ => some (.iconst 4, 1))),
  (101, (fun _ => some (.lsub, 1))),
  (64, (fun _ => some (.lstore_n 1, 1))),
  (63, (fun _ => some (.lstore_n 0, 1))),
  (126, (fun _ => some (.iand, 1))),
  (131, (fun _ => some (.lxor, 1))),
  (123, (fun _ => some (.lshr, 1))),
  (33, (fun _ => some (.lload_n 3, 1))),
  (136, (fun _ => some (.l2i, 1))),
  (92, (fun _ => some (.dup2, 1))),
  (88, (fun _ => some (.pop2, 1))),
  (8, (fun _ => some (.iconst 5, 1))),
  (66, (fun _ => some (.lstore_n 3, 1))),
  (109, (fun _ => some (.ldiv, 1))),
  (189, (fun r => df2 (fun x => .anewarray x) r)),
  (83, (fun _ => some (.aastore, 1))),
  (1, (fun _ => some (.aconst_null, 1))),
  (50, (fun _ => some (.aaload, 1))),
  (176, (fun _ => some (.areturn, 1))),
  (32, (fun _ => some (.lload_n 2, 1))),
  (117, (fun _ => some (.lneg, 1))),
  (130, (fun _ => some (.ixor, 1))),
  (76, (fun _ => some (.astore_n 1, 1)))]
theorem al_9 : al9 tb9 := ⟨gd_42, gd_21, gd_180, gd_182, gd_29, gd_27, gd_28, gd_3, gd_96, gd_167, gd_46, gd_172, gd_4, gd_54, gd_100, gd_184, gd_104, gd_16, gd_162, gd_153, gd_132, gd_154, gd_181, gd_43, gd_5, gd_62, gd_2, gd_160, gd_177, gd_17, gd_25, gd_61, gd_155, gd_87, gd_44, gd_79, gd_6, gd_161, gd_9, gd_108, gd_45, gd_173, gd_163, gd_26, gd_22, gd_89, gd_188, gd_18, gd_31, gd_10, gd_47, gd_183, gd_60, gd_159, gd_133, gd_198, gd_112, gd_156, gd_148, gd_164, gd_58, gd_20, gd_80, gd_190, gd_158, gd_55, gd_30, gd_97, gd_127, gd_105, gd_116, gd_187, gd_121, gd_129, gd_199, gd_78, gd_125, gd_77, gd_157, gd_7, gd_101, gd_64, gd_63, gd_126, gd_131, gd_123, gd_33, gd_136, gd_92, gd_88, gd_8, gd_66, gd_109, gd_189, gd_83, gd_1, gd_50, gd_176, gd_32, gd_117, gd_130, gd_76, trivial⟩
/-- the instruction at the head of a list of bytes (those that are used here) -/
def dl9 : List Nat → Option (Instr × Nat)
  | b :: r => lk9 tb9 b r
  | [] => none
theorem dl_ok {c : ByteArray} {p : Nat} {l : List Nat} {v : Instr × Nat} (hl : (bl9 c).drop p = l) (h : dl9 l = some v) : decode c p = .ok v := by
  rcases l with _ | ⟨b, r⟩
  · have h9 : (none : Option (Instr × Nat)) = some v := h
    cases h9
  · exact lk_ok tb9 al_9 c p b r v hl h
/-- instructions one behind another, each at its place -/
def ck9 : List Nat → Nat → List (Nat × Instr × Nat) → Bool
  | _, _, [] => true
  | l, p, (q, v) :: L => decide (p ≤ q) && (decide (dl9 (l.drop (q - p)) = some v) && ck9 (l.drop (q - p)) q L)
theorem ck_of {c : ByteArray} : ∀ (L : List (Nat × Instr × Nat)) (l : List Nat) (p : Nat), (bl9 c).drop p = l → ck9 l p L = true → ∀ (k : Nat) (i : Instr × Nat), (k, i) ∈ L → decode c k = .ok i := by
  intro L
  induction L with
  | nil => intro l p _ _ k i m; cases m
  | cons a L ih =>
    obtain ⟨q, v⟩ := a
    intro l p hl h k i m
    have h9 : (decide (p ≤ q) && (decide (dl9 (l.drop (q - p)) = some v) && ck9 (l.drop (q - p)) q L)) = true := h
    rw [Bool.and_eq_true, Bool.and_eq_true] at h9
    obtain ⟨h1, h2, h3⟩ := h9
    have h1' := of_decide_eq_true h1
    have hd : (bl9 c).drop q = l.drop (q - p) := by
      rw [← hl, List.drop_drop, show p + (q - p) = q by omega]
    rcases List.mem_cons.mp m with e | e
    · cases e
      exact dl_ok hd (of_decide_eq_true h2)
    · exact ih _ q hd h3 k i e
theorem dk_of {c : ByteArray} {p : Nat} {L : List (Nat × Instr × Nat)} (h : ck9 ((bl9 c).drop p) p L = true) {k : Nat} {i : Instr × Nat} (m : (k, i) ∈ L) : decode c k = .ok i := ck_of L _ p rfl h k i m

def dkl_0 : List (Nat × Instr × Nat) := [(0, (.aload_n 0, 1)), (1, (.invokespecial 3, 3)), (4, (.aload_n 0, 1)), (5, (.sipush 6561, 3)), (8, (.newarray .long, 2)), (10, (.putfield 11, 3)), (13, (.aload_n 0, 1)), (14, (.sipush 6561, 3)), (17, (.newarray .long, 2)), (19, (.putfield 15, 3)), (22, (.aload_n 0, 1)), (23, (.ldc 18, 2)), (25, (.newarray .int, 2)), (27, (.putfield 19, 3)), (30, (.aload_n 0, 1)), (31, (.bipush 24, 2))]
theorem dkc_0 : ck9 ((bl9 cX0_init).drop 0) 0 dkl_0 = true := by decide +kernel
theorem dX0_init_0 : decode cX0_init 0 = .ok (.aload_n 0, 1) := dk_of dkc_0 (.head _)
theorem dX0_init_1 : decode cX0_init 1 = .ok (.invokespecial 3, 3) := dk_of dkc_0 (.tail _ (.head _))
theorem dX0_init_4 : decode cX0_init 4 = .ok (.aload_n 0, 1) := dk_of dkc_0 (.tail _ (.tail _ (.head _)))
theorem dX0_init_5 : decode cX0_init 5 = .ok (.sipush 6561, 3) := dk_of dkc_0 (.tail _ (.tail _ (.tail _ (.head _))))
theorem dX0_init_8 : decode cX0_init 8 = .ok (.newarray .long, 2) := dk_of dkc_0 (.tail _ (.tail _ (.tail _ (.tail _ (.head _)))))
theorem dX0_init_10 : decode cX0_init 10 = .ok (.putfield 11, 3) := dk_of dkc_0 (.tail _ (.tail _ (.tail _ (.tail _ (.tail _ (.head _))))))
theorem dX0_init_13 : decode cX0_init 13 = .ok (.aload_n 0, 1) := dk_of dkc_0 (.tail _ (.tail _ (.tail _ (.tail _ (.tail _ (.tail _ (.head _)))))))
theorem dX0_init_14 : decode cX0_init 14 = .ok (.sipush 6561, 3) := dk_of dkc_0 (.tail _ (.tail _ (.tail _ (.tail _ (.tail _ (.tail _ (.tail _ (.head _))))))))
theorem dX0_init_17 : decode cX0_init 17 = .ok (.newarray .long, 2) := dk_of dkc_0 (.tail _ (.tail _ (.tail _ (.tail _ (.tail _ (.tail _ (.tail _ (.tail _ (.head _)))))))))
theorem dX0_init_19 : decode cX0_init 19 = .ok (.putfield 15, 3) := dk_of dkc_0 (.tail _ (.tail _ (.tail _ (.tail _ (.tail _ (.tail _ (.tail _ (.tail _ (.tail _ (.head _))))))))))
theorem dX0_init_22 : decode cX0_init 22 = .ok (.aload_n 0, 1) := dk_of dkc_0 (.tail _ (.tail _ (.tail _ (.tail _ (.tail _ (.tail _ (.tail _ (.tail _ (.tail _ (.tail _ (.head _)))))))))))
theorem dX0_init_23 : decode cX0_init 23 = .ok (.ldc 18, 2) := dk_of dkc_0 (.tail _ (.tail _ (.tail _ (.tail _ (.tail _ (.tail _ (.tail _ (.tail _ (.tail _ (.tail _ (.tail _ (.head _))))))))))))
theorem dX0_init_25 : decode cX0_init 25 = .ok (.newarray .int, 2) := dk_of dkc_0 (.tail _ (.tail _ (.tail _ (.tail _ (.tail _ (.tail _ (.tail _ (.tail _ (.tail _ (.tail _ (.tail _ (.tail _ (.head _)))))))))))))
theorem dX0_init_27 : decode cX0_init 27 = .ok (.putfield 19, 3) := dk_of dkc_0 (.tail _ (.tail _ (.tail _ (.tail _ (.tail _ (.tail _ (.tail _ (.tail _ (.tail _ (.tail _ (.tail _ (.tail _ (.tail _ (.head _))))))))))))))
theorem dX0_init_30 : decode cX0_init 30 = .ok (.aload_n 0, 1) := dk_of dkc_0 (.tail _ (.tail _ (.tail _ (.tail _ (.tail _ (.tail _ (.tail _ (.tail _ (.tail _ (.tail _ (.tail _ (.tail _ (.tail _ (.tail _ (.head _)))))))))))))))
theorem dX0_init_31 : decode cX0_init 31 = .ok (.bipush 24, 2) := dk_of dkc_0 (.tail _ (.tail _ (.tail _ (.tail _ (.tail _ (.tail _ (.tail _ (.tail _ (.tail _ (.tail _ (.tail _ (.tail _ (.tail _ (.tail _ (.tail _ (.head _))))))))))))))))
def dkl_1 : List (Nat × Instr × Nat) := [(33, (.newarray .int, 2)), (35, (.putfield 23, 3)), (38, (.aload_n 0, 1)), (39, (.iconst (-1), 1)), (40, (.putfield 26, 3)), (43, (.return_, 1))]
theorem dkc_1 : ck9 ((bl9 cX0_init).drop 33) 33 dkl_1 = true := by decide +kernel
theorem dX0_init_33 : decode cX0_init 33 = .ok (.newarray .int, 2) := dk_of dkc_1 (.head _)
theorem dX0_init_35 : decode cX0_init 35 = .ok (.putfield 23, 3) := dk_of dkc_1 (.tail _ (.head _))
theorem dX0_init_38 : decode cX0_init 38 = .ok (.aload_n 0, 1) := dk_of dkc_1 (.tail _ (.tail _ (.head _)))
theorem dX0_init_39 : decode cX0_init 39 = .ok (.iconst (-1), 1) := dk_of dkc_1 (.tail _ (.tail _ (.tail _ (.head _))))
theorem dX0_init_40 : decode cX0_init 40 = .ok (.putfield 26, 3) := dk_of dkc_1 (.tail _ (.tail _ (.tail _ (.tail _ (.head _)))))
theorem dX0_init_43 : decode cX0_init 43 = .ok (.return_, 1) := dk_of dkc_1 (.tail _ (.tail _ (.tail _ (.tail _ (.tail _ (.head _))))))
def dkl_2 : List (Nat × Instr × Nat) := [(0, (.aload_n 0, 1)), (1, (.aload_n 1, 1)), (2, (.invokevirtual 30, 3)), (5, (.aload_n 0, 1)), (6, (.getfield 11, 3)), (9, (.lconst 0, 1)), (10, (.invokestatic 34, 3)), (13, (.aload_n 0, 1)), (14, (.aload_n 1, 1)), (15, (.iconst 0, 1)), (16, (.invokevirtual 40, 3)), (19, (.aload_n 1, 1)), (20, (.iconst 0, 1)), (21, (.invokevirtual 46, 3)), (24, (.invokevirtual 49, 3)), (27, (.istore_n 2, 1))]
theorem dkc_2 : ck9 ((bl9 cX0_howMany).drop 0) 0 dkl_2 = true := by decide +kernel
theorem dX0_howMany_0 : decode cX0_howMany 0 = .ok (.aload_n 0, 1) := dk_of dkc_2 (.head _)
theorem dX0_howMany_1 : decode cX0_howMany 1 = .ok (.aload_n 1, 1) := dk_of dkc_2 (.tail _ (.head _))
theorem dX0_howMany_2 : decode cX0_howMany 2 = .ok (.invokevirtual 30, 3) := dk_of dkc_2 (.tail _ (.tail _ (.head _)))
theorem dX0_howMany_5 : decode cX0_howMany 5 = .ok (.aload_n 0, 1) := dk_of dkc_2 (.tail _ (.tail _ (.tail _ (.head _))))
theorem dX0_howMany_6 : decode cX0_howMany 6 = .ok (.getfield 11, 3) := dk_of dkc_2 (.tail _ (.tail _ (.tail _ (.tail _ (.head _)))))
theorem dX0_howMany_9 : decode cX0_howMany 9 = .ok (.lconst 0, 1) := dk_of dkc_2 (.tail _ (.tail _ (.tail _ (.tail _ (.tail _ (.head _))))))
theorem dX0_howMany_10 : decode cX0_howMany 10 = .ok (.invokestatic 34, 3) := dk_of dkc_2 (.tail _ (.tail _ (.tail _ (.tail _ (.tail _ (.tail _ (.head _)))))))
theorem dX0_howMany_13 : decode cX0_howMany 13 = .ok (.aload_n 0, 1) := dk_of dkc_2 (.tail _ (.tail _ (.tail _ (.tail _ (.tail _ (.tail _ (.tail _ (.head _))))))))
theorem dX0_howMany_14 : decode cX0_howMany 14 = .ok (.aload_n 1, 1) := dk_of dkc_2 (.tail _ (.tail _ (.tail _ (.tail _ (.tail _ (.tail _ (.tail _ (.tail _ (.head _)))))))))
theorem dX0_howMany_15 : decode cX0_howMany 15 = .ok (.iconst 0, 1) := dk_of dkc_2 (.tail _ (.tail _ (.tail _ (.tail _ (.tail _ (.tail _ (.tail _ (.tail _ (.tail _ (.head _))))))))))
theorem dX0_howMany_16 : decode cX0_howMany 16 = .ok (.invokevirtual 40, 3) := dk_of dkc_2 (.tail _ (.tail _ (.tail _ (.tail _ (.tail _ (.tail _ (.tail _ (.tail _ (.tail _ (.tail _ (.head _)))))))))))
theorem dX0_howMany_19 : decode cX0_howMany 19 = .ok (.aload_n 1, 1) := dk_of dkc_2 (.tail _ (.tail _ (.tail _ (.tail _ (.tail _ (.tail _ (.tail _ (.tail _ (.tail _ (.tail _ (.tail _ (.head _))))))))))))
theorem dX0_howMany_20 : decode cX0_howMany 20 = .ok (.iconst 0, 1) := dk_of dkc_2 (.tail _ (.tail _ (.tail _ (.tail _ (.tail _ (.tail _ (.tail _ (.tail _ (.tail _ (.tail _ (.tail _ (.tail _ (.head _)))))))))))))
theorem dX0_howMany_21 : decode cX0_howMany 21 = .ok (.invokevirtual 46, 3) := dk_of dkc_2 (.tail _ (.tail _ (.tail _ (.tail _ (.tail _ (.tail _ (.tail _ (.tail _ (.tail _ (.tail _ (.tail _ (.tail _ (.tail _ (.head _))))))))))))))
theorem dX0_howMany_24 : decode cX0_howMany 24 = .ok (.invokevirtual 49, 3) := dk_of dkc_2 (.tail _ (.tail _ (.tail _ (.tail _ (.tail _ (.tail _ (.tail _ (.tail _ (.tail _ (.tail _ (.tail _ (.tail _ (.tail _ (.tail _ (.head _)))))))))))))))
theorem dX0_howMany_27 : decode cX0_howMany 27 = .ok (.istore_n 2, 1) := dk_of dkc_2 (.tail _ (.tail _ (.tail _ (.tail _ (.tail _ (.tail _ (.tail _ (.tail _ (.tail _ (.tail _ (.tail _ (.tail _ (.tail _ (.tail _ (.tail _ (.head _))))))))))))))))
def dkl_3 : List (Nat × Instr × Nat) := [(28, (.iload_n 2, 1)), (29, (.ifCond .ge 5, 3)), (32, (.lconst 0, 1)), (33, (.lreturn, 1)), (34, (.aload_n 0, 1)), (35, (.getfield 11, 3)), (38, (.iload_n 2, 1)), (39, (.lconst 1, 1)), (40, (.lastore, 1)), (41, (.iconst 0, 1)), (42, (.istore_n 3, 1)), (43, (.iload_n 3, 1)), (44, (.aload_n 1, 1)), (45, (.getfield 53, 3)), (48, (.if_icmp .ge 35, 3)), (51, (.aload_n 0, 1))]
theorem dkc_3 : ck9 ((bl9 cX0_howMany).drop 28) 28 dkl_3 = true := by decide +kernel
theorem dX0_howMany_28 : decode cX0_howMany 28 = .ok (.iload_n 2, 1) := dk_of dkc_3 (.head _)
theorem dX0_howMany_29 : decode cX0_howMany 29 = .ok (.ifCond .ge 5, 3) := dk_of dkc_3 (.tail _ (.head _))
theorem dX0_howMany_32 : decode cX0_howMany 32 = .ok (.lconst 0, 1) := dk_of dkc_3 (.tail _ (.tail _ (.head _)))
theorem dX0_howMany_33 : decode cX0_howMany 33 = .ok (.lreturn, 1) := dk_of dkc_3 (.tail _ (.tail _ (.tail _ (.head _))))
theorem dX0_howMany_34 : decode cX0_howMany 34 = .ok (.aload_n 0, 1) := dk_of dkc_3 (.tail _ (.tail _ (.tail _ (.tail _ (.head _)))))
theorem dX0_howMany_35 : decode cX0_howMany 35 = .ok (.getfield 11, 3) := dk_of dkc_3 (.tail _ (.tail _ (.tail _ (.tail _ (.tail _ (.head _))))))
theorem dX0_howMany_38 : decode cX0_howMany 38 = .ok (.iload_n 2, 1) := dk_of dkc_3 (.tail _ (.tail _ (.tail _ (.tail _ (.tail _ (.tail _ (.head _)))))))
theorem dX0_howMany_39 : decode cX0_howMany 39 = .ok (.lconst 1, 1) := dk_of dkc_3 (.tail _ (.tail _ (.tail _ (.tail _ (.tail _ (.tail _ (.tail _ (.head _))))))))
theorem dX0_howMany_40 : decode cX0_howMany 40 = .ok (.lastore, 1) := dk_of dkc_3 (.tail _ (.tail _ (.tail _ (.tail _ (.tail _ (.tail _ (.tail _ (.tail _ (.head _)))))))))
theorem dX0_howMany_41 : decode cX0_howMany 41 = .ok (.iconst 0, 1) := dk_of dkc_3 (.tail _ (.tail _ (.tail _ (.tail _ (.tail _ (.tail _ (.tail _ (.tail _ (.tail _ (.head _))))))))))
theorem dX0_howMany_42 : decode cX0_howMany 42 = .ok (.istore_n 3, 1) := dk_of dkc_3 (.tail _ (.tail _ (.tail _ (.tail _ (.tail _ (.tail _ (.tail _ (.tail _ (.tail _ (.tail _ (.head _)))))))))))
theorem dX0_howMany_43 : decode cX0_howMany 43 = .ok (.iload_n 3, 1) := dk_of dkc_3 (.tail _ (.tail _ (.tail _ (.tail _ (.tail _ (.tail _ (.tail _ (.tail _ (.tail _ (.tail _ (.tail _ (.head _))))))))))))
theorem dX0_howMany_44 : decode cX0_howMany 44 = .ok (.aload_n 1, 1) := dk_of dkc_3 (.tail _ (.tail _ (.tail _ (.tail _ (.tail _ (.tail _ (.tail _ (.tail _ (.tail _ (.tail _ (.tail _ (.tail _ (.head _)))))))))))))
theorem dX0_howMany_45 : decode cX0_howMany 45 = .ok (.getfield 53, 3) := dk_of dkc_3 (.tail _ (.tail _ (.tail _ (.tail _ (.tail _ (.tail _ (.tail _ (.tail _ (.tail _ (.tail _ (.tail _ (.tail _ (.tail _ (.head _))))))))))))))
theorem dX0_howMany_48 : decode cX0_howMany 48 = .ok (.if_icmp .ge 35, 3) := dk_of dkc_3 (.tail _ (.tail _ (.tail _ (.tail _ (.tail _ (.tail _ (.tail _ (.tail _ (.tail _ (.tail _ (.tail _ (.tail _ (.tail _ (.tail _ (.head _)))))))))))))))
theorem dX0_howMany_51 : decode cX0_howMany 51 = .ok (.aload_n 0, 1) := dk_of dkc_3 (.tail _ (.tail _ (.tail _ (.tail _ (.tail _ (.tail _ (.tail _ (.tail _ (.tail _ (.tail _ (.tail _ (.tail _ (.tail _ (.tail _ (.tail _ (.head _))))))))))))))))
def dkl_4 : List (Nat × Instr × Nat) := [(52, (.aload_n 1, 1)), (53, (.iload_n 3, 1)), (54, (.invokevirtual 56, 3)), (57, (.aload_n 0, 1)), (58, (.invokevirtual 60, 3)), (61, (.aload_n 0, 1)), (62, (.getfield 15, 3)), (65, (.iconst 0, 1)), (66, (.aload_n 0, 1)), (67, (.getfield 11, 3)), (70, (.iconst 0, 1)), (71, (.sipush 6561, 3)), (74, (.invokestatic 63, 3)), (77, (.iinc 3 1, 3)), (80, (.goto (-37), 3)), (83, (.aload_n 0, 1))]
theorem dkc_4 : ck9 ((bl9 cX0_howMany).drop 52) 52 dkl_4 = true := by decide +kernel
theorem dX0_howMany_52 : decode cX0_howMany 52 = .ok (.aload_n 1, 1) := dk_of dkc_4 (.head _)
theorem dX0_howMany_53 : decode cX0_howMany 53 = .ok (.iload_n 3, 1) := dk_of dkc_4 (.tail _ (.head _))
theorem dX0_howMany_54 : decode cX0_howMany 54 = .ok (.invokevirtual 56, 3) := dk_of dkc_4 (.tail _ (.tail _ (.head _)))
theorem dX0_howMany_57 : decode cX0_howMany 57 = .ok (.aload_n 0, 1) := dk_of dkc_4 (.tail _ (.tail _ (.tail _ (.head _))))
theorem dX0_howMany_58 : decode cX0_howMany 58 = .ok (.invokevirtual 60, 3) := dk_of dkc_4 (.tail _ (.tail _ (.tail _ (.tail _ (.head _)))))
theorem dX0_howMany_61 : decode cX0_howMany 61 = .ok (.aload_n 0, 1) := dk_of dkc_4 (.tail _ (.tail _ (.tail _ (.tail _ (.tail _ (.head _))))))
theorem dX0_howMany_62 : decode cX0_howMany 62 = .ok (.getfield 15, 3) := dk_of dkc_4 (.tail _ (.tail _ (.tail _ (.tail _ (.tail _ (.tail _ (.head _)))))))
theorem dX0_howMany_65 : decode cX0_howMany 65 = .ok (.iconst 0, 1) := dk_of dkc_4 (.tail _ (.tail _ (.tail _ (.tail _ (.tail _ (.tail _ (.tail _ (.head _))))))))
theorem dX0_howMany_66 : decode cX0_howMany 66 = .ok (.aload_n 0, 1) := dk_of dkc_4 (.tail _ (.tail _ (.tail _ (.tail _ (.tail _ (.tail _ (.tail _ (.tail _ (.head _)))))))))
theorem dX0_howMany_67 : decode cX0_howMany 67 = .ok (.getfield 11, 3) := dk_of dkc_4 (.tail _ (.tail _ (.tail _ (.tail _ (.tail _ (.tail _ (.tail _ (.tail _ (.tail _ (.head _))))))))))
theorem dX0_howMany_70 : decode cX0_howMany 70 = .ok (.iconst 0, 1) := dk_of dkc_4 (.tail _ (.tail _ (.tail _ (.tail _ (.tail _ (.tail _ (.tail _ (.tail _ (.tail _ (.tail _ (.head _)))))))))))
theorem dX0_howMany_71 : decode cX0_howMany 71 = .ok (.sipush 6561, 3) := dk_of dkc_4 (.tail _ (.tail _ (.tail _ (.tail _ (.tail _ (.tail _ (.tail _ (.tail _ (.tail _ (.tail _ (.tail _ (.head _))))))))))))
theorem dX0_howMany_74 : decode cX0_howMany 74 = .ok (.invokestatic 63, 3) := dk_of dkc_4 (.tail _ (.tail _ (.tail _ (.tail _ (.tail _ (.tail _ (.tail _ (.tail _ (.tail _ (.tail _ (.tail _ (.tail _ (.head _)))))))))))))
theorem dX0_howMany_77 : decode cX0_howMany 77 = .ok (.iinc 3 1, 3) := dk_of dkc_4 (.tail _ (.tail _ (.tail _ (.tail _ (.tail _ (.tail _ (.tail _ (.tail _ (.tail _ (.tail _ (.tail _ (.tail _ (.tail _ (.head _))))))))))))))
theorem dX0_howMany_80 : decode cX0_howMany 80 = .ok (.goto (-37), 3) := dk_of dkc_4 (.tail _ (.tail _ (.tail _ (.tail _ (.tail _ (.tail _ (.tail _ (.tail _ (.tail _ (.tail _ (.tail _ (.tail _ (.tail _ (.tail _ (.head _)))))))))))))))
theorem dX0_howMany_83 : decode cX0_howMany 83 = .ok (.aload_n 0, 1) := dk_of dkc_4 (.tail _ (.tail _ (.tail _ (.tail _ (.tail _ (.tail _ (.tail _ (.tail _ (.tail _ (.tail _ (.tail _ (.tail _ (.tail _ (.tail _ (.tail _ (.head _))))))))))))))))
def dkl_5 : List (Nat × Instr × Nat) := [(84, (.getfield 11, 3)), (87, (.iload_n 2, 1)), (88, (.laload, 1)), (89, (.lreturn, 1))]
theorem dkc_5 : ck9 ((bl9 cX0_howMany).drop 84) 84 dkl_5 = true := by decide +kernel
theorem dX0_howMany_84 : decode cX0_howMany 84 = .ok (.getfield 11, 3) := dk_of dkc_5 (.head _)
theorem dX0_howMany_87 : decode cX0_howMany 87 = .ok (.iload_n 2, 1) := dk_of dkc_5 (.tail _ (.head _))
theorem dX0_howMany_88 : decode cX0_howMany 88 = .ok (.laload, 1) := dk_of dkc_5 (.tail _ (.tail _ (.head _)))
theorem dX0_howMany_89 : decode cX0_howMany 89 = .ok (.lreturn, 1) := dk_of dkc_5 (.tail _ (.tail _ (.tail _ (.head _))))
def dkl_6 : List (Nat × Instr × Nat) := [(0, (.aload_n 0, 1)), (1, (.getfield 26, 3)), (4, (.aload_n 1, 1)), (5, (.getfield 69, 3)), (8, (.if_icmp .ne 4, 3)), (11, (.return_, 1)), (12, (.aload_n 0, 1)), (13, (.aload_n 1, 1)), (14, (.getfield 69, 3)), (17, (.putfield 26, 3)), (20, (.aload_n 1, 1)), (21, (.getfield 74, 3)), (24, (.astore_n 2, 1)), (25, (.aload_n 0, 1)), (26, (.aload_n 2, 1)), (27, (.invokevirtual 30, 3))]
theorem dkc_6 : ck9 ((bl9 cX0_findLeast).drop 0) 0 dkl_6 = true := by decide +kernel
theorem dX0_findLeast_0 : decode cX0_findLeast 0 = .ok (.aload_n 0, 1) := dk_of dkc_6 (.head _)
theorem dX0_findLeast_1 : decode cX0_findLeast 1 = .ok (.getfield 26, 3) := dk_of dkc_6 (.tail _ (.head _))
theorem dX0_findLeast_4 : decode cX0_findLeast 4 = .ok (.aload_n 1, 1) := dk_of dkc_6 (.tail _ (.tail _ (.head _)))
theorem dX0_findLeast_5 : decode cX0_findLeast 5 = .ok (.getfield 69, 3) := dk_of dkc_6 (.tail _ (.tail _ (.tail _ (.head _))))
theorem dX0_findLeast_8 : decode cX0_findLeast 8 = .ok (.if_icmp .ne 4, 3) := dk_of dkc_6 (.tail _ (.tail _ (.tail _ (.tail _ (.head _)))))
theorem dX0_findLeast_11 : decode cX0_findLeast 11 = .ok (.return_, 1) := dk_of dkc_6 (.tail _ (.tail _ (.tail _ (.tail _ (.tail _ (.head _))))))
theorem dX0_findLeast_12 : decode cX0_findLeast 12 = .ok (.aload_n 0, 1) := dk_of dkc_6 (.tail _ (.tail _ (.tail _ (.tail _ (.tail _ (.tail _ (.head _)))))))
theorem dX0_findLeast_13 : decode cX0_findLeast 13 = .ok (.aload_n 1, 1) := dk_of dkc_6 (.tail _ (.tail _ (.tail _ (.tail _ (.tail _ (.tail _ (.tail _ (.head _))))))))
theorem dX0_findLeast_14 : decode cX0_findLeast 14 = .ok (.getfield 69, 3) := dk_of dkc_6 (.tail _ (.tail _ (.tail _ (.tail _ (.tail _ (.tail _ (.tail _ (.tail _ (.head _)))))))))
theorem dX0_findLeast_17 : decode cX0_findLeast 17 = .ok (.putfield 26, 3) := dk_of dkc_6 (.tail _ (.tail _ (.tail _ (.tail _ (.tail _ (.tail _ (.tail _ (.tail _ (.tail _ (.head _))))))))))
theorem dX0_findLeast_20 : decode cX0_findLeast 20 = .ok (.aload_n 1, 1) := dk_of dkc_6 (.tail _ (.tail _ (.tail _ (.tail _ (.tail _ (.tail _ (.tail _ (.tail _ (.tail _ (.tail _ (.head _)))))))))))
theorem dX0_findLeast_21 : decode cX0_findLeast 21 = .ok (.getfield 74, 3) := dk_of dkc_6 (.tail _ (.tail _ (.tail _ (.tail _ (.tail _ (.tail _ (.tail _ (.tail _ (.tail _ (.tail _ (.tail _ (.head _))))))))))))
theorem dX0_findLeast_24 : decode cX0_findLeast 24 = .ok (.astore_n 2, 1) := dk_of dkc_6 (.tail _ (.tail _ (.tail _ (.tail _ (.tail _ (.tail _ (.tail _ (.tail _ (.tail _ (.tail _ (.tail _ (.tail _ (.head _)))))))))))))
theorem dX0_findLeast_25 : decode cX0_findLeast 25 = .ok (.aload_n 0, 1) := dk_of dkc_6 (.tail _ (.tail _ (.tail _ (.tail _ (.tail _ (.tail _ (.tail _ (.tail _ (.tail _ (.tail _ (.tail _ (.tail _ (.tail _ (.head _))))))))))))))
theorem dX0_findLeast_26 : decode cX0_findLeast 26 = .ok (.aload_n 2, 1) := dk_of dkc_6 (.tail _ (.tail _ (.tail _ (.tail _ (.tail _ (.tail _ (.tail _ (.tail _ (.tail _ (.tail _ (.tail _ (.tail _ (.tail _ (.tail _ (.head _)))))))))))))))
theorem dX0_findLeast_27 : decode cX0_findLeast 27 = .ok (.invokevirtual 30, 3) := dk_of dkc_6 (.tail _ (.tail _ (.tail _ (.tail _ (.tail _ (.tail _ (.tail _ (.tail _ (.tail _ (.tail _ (.tail _ (.tail _ (.tail _ (.tail _ (.tail _ (.head _))))))))))))))))
def dkl_7 : List (Nat × Instr × Nat) := [(30, (.aload_n 0, 1)), (31, (.getfield 23, 3)), (34, (.iconst 0, 1)), (35, (.invokestatic 78, 3)), (38, (.aload_n 0, 1)), (39, (.ldc 81, 2)), (41, (.putfield 82, 3)), (44, (.aload_n 0, 1)), (45, (.iconst 0, 1)), (46, (.putfield 85, 3)), (49, (.aload_n 0, 1)), (50, (.aload_n 2, 1)), (51, (.invokevirtual 88, 3)), (54, (.aload_n 2, 1)), (55, (.getfield 53, 3)), (58, (.iconst 1, 1))]
theorem dkc_7 : ck9 ((bl9 cX0_findLeast).drop 30) 30 dkl_7 = true := by decide +kernel
theorem dX0_findLeast_30 : decode cX0_findLeast 30 = .ok (.aload_n 0, 1) := dk_of dkc_7 (.head _)
theorem dX0_findLeast_31 : decode cX0_findLeast 31 = .ok (.getfield 23, 3) := dk_of dkc_7 (.tail _ (.head _))
theorem dX0_findLeast_34 : decode cX0_findLeast 34 = .ok (.iconst 0, 1) := dk_of dkc_7 (.tail _ (.tail _ (.head _)))
theorem dX0_findLeast_35 : decode cX0_findLeast 35 = .ok (.invokestatic 78, 3) := dk_of dkc_7 (.tail _ (.tail _ (.tail _ (.head _))))
theorem dX0_findLeast_38 : decode cX0_findLeast 38 = .ok (.aload_n 0, 1) := dk_of dkc_7 (.tail _ (.tail _ (.tail _ (.tail _ (.head _)))))
theorem dX0_findLeast_39 : decode cX0_findLeast 39 = .ok (.ldc 81, 2) := dk_of dkc_7 (.tail _ (.tail _ (.tail _ (.tail _ (.tail _ (.head _))))))
theorem dX0_findLeast_41 : decode cX0_findLeast 41 = .ok (.putfield 82, 3) := dk_of dkc_7 (.tail _ (.tail _ (.tail _ (.tail _ (.tail _ (.tail _ (.head _)))))))
theorem dX0_findLeast_44 : decode cX0_findLeast 44 = .ok (.aload_n 0, 1) := dk_of dkc_7 (.tail _ (.tail _ (.tail _ (.tail _ (.tail _ (.tail _ (.tail _ (.head _))))))))
theorem dX0_findLeast_45 : decode cX0_findLeast 45 = .ok (.iconst 0, 1) := dk_of dkc_7 (.tail _ (.tail _ (.tail _ (.tail _ (.tail _ (.tail _ (.tail _ (.tail _ (.head _)))))))))
theorem dX0_findLeast_46 : decode cX0_findLeast 46 = .ok (.putfield 85, 3) := dk_of dkc_7 (.tail _ (.tail _ (.tail _ (.tail _ (.tail _ (.tail _ (.tail _ (.tail _ (.tail _ (.head _))))))))))
theorem dX0_findLeast_49 : decode cX0_findLeast 49 = .ok (.aload_n 0, 1) := dk_of dkc_7 (.tail _ (.tail _ (.tail _ (.tail _ (.tail _ (.tail _ (.tail _ (.tail _ (.tail _ (.tail _ (.head _)))))))))))
theorem dX0_findLeast_50 : decode cX0_findLeast 50 = .ok (.aload_n 2, 1) := dk_of dkc_7 (.tail _ (.tail _ (.tail _ (.tail _ (.tail _ (.tail _ (.tail _ (.tail _ (.tail _ (.tail _ (.tail _ (.head _))))))))))))
theorem dX0_findLeast_51 : decode cX0_findLeast 51 = .ok (.invokevirtual 88, 3) := dk_of dkc_7 (.tail _ (.tail _ (.tail _ (.tail _ (.tail _ (.tail _ (.tail _ (.tail _ (.tail _ (.tail _ (.tail _ (.tail _ (.head _)))))))))))))
theorem dX0_findLeast_54 : decode cX0_findLeast 54 = .ok (.aload_n 2, 1) := dk_of dkc_7 (.tail _ (.tail _ (.tail _ (.tail _ (.tail _ (.tail _ (.tail _ (.tail _ (.tail _ (.tail _ (.tail _ (.tail _ (.tail _ (.head _))))))))))))))
theorem dX0_findLeast_55 : decode cX0_findLeast 55 = .ok (.getfield 53, 3) := dk_of dkc_7 (.tail _ (.tail _ (.tail _ (.tail _ (.tail _ (.tail _ (.tail _ (.tail _ (.tail _ (.tail _ (.tail _ (.tail _ (.tail _ (.tail _ (.head _)))))))))))))))
theorem dX0_findLeast_58 : decode cX0_findLeast 58 = .ok (.iconst 1, 1) := dk_of dkc_7 (.tail _ (.tail _ (.tail _ (.tail _ (.tail _ (.tail _ (.tail _ (.tail _ (.tail _ (.tail _ (.tail _ (.tail _ (.tail _ (.tail _ (.tail _ (.head _))))))))))))))))
def dkl_8 : List (Nat × Instr × Nat) := [(59, (.isub, 1)), (60, (.istore_n 3, 1)), (61, (.iload_n 3, 1)), (62, (.ifCond .lt 26, 3)), (65, (.aload_n 0, 1)), (66, (.aload_n 2, 1)), (67, (.iload_n 3, 1)), (68, (.invokevirtual 56, 3)), (71, (.aload_n 0, 1)), (72, (.aload_n 2, 1)), (73, (.iload_n 3, 1)), (74, (.invokevirtual 91, 3)), (77, (.aload_n 0, 1)), (78, (.iload_n 3, 1)), (79, (.invokevirtual 94, 3)), (82, (.iinc 3 (-1), 3))]
theorem dkc_8 : ck9 ((bl9 cX0_findLeast).drop 59) 59 dkl_8 = true := by decide +kernel
theorem dX0_findLeast_59 : decode cX0_findLeast 59 = .ok (.isub, 1) := dk_of dkc_8 (.head _)
theorem dX0_findLeast_60 : decode cX0_findLeast 60 = .ok (.istore_n 3, 1) := dk_of dkc_8 (.tail _ (.head _))
theorem dX0_findLeast_61 : decode cX0_findLeast 61 = .ok (.iload_n 3, 1) := dk_of dkc_8 (.tail _ (.tail _ (.head _)))
theorem dX0_findLeast_62 : decode cX0_findLeast 62 = .ok (.ifCond .lt 26, 3) := dk_of dkc_8 (.tail _ (.tail _ (.tail _ (.head _))))
theorem dX0_findLeast_65 : decode cX0_findLeast 65 = .ok (.aload_n 0, 1) := dk_of dkc_8 (.tail _ (.tail _ (.tail _ (.tail _ (.head _)))))
theorem dX0_findLeast_66 : decode cX0_findLeast 66 = .ok (.aload_n 2, 1) := dk_of dkc_8 (.tail _ (.tail _ (.tail _ (.tail _ (.tail _ (.head _))))))
theorem dX0_findLeast_67 : decode cX0_findLeast 67 = .ok (.iload_n 3, 1) := dk_of dkc_8 (.tail _ (.tail _ (.tail _ (.tail _ (.tail _ (.tail _ (.head _)))))))
theorem dX0_findLeast_68 : decode cX0_findLeast 68 = .ok (.invokevirtual 56, 3) := dk_of dkc_8 (.tail _ (.tail _ (.tail _ (.tail _ (.tail _ (.tail _ (.tail _ (.head _))))))))
theorem dX0_findLeast_71 : decode cX0_findLeast 71 = .ok (.aload_n 0, 1) := dk_of dkc_8 (.tail _ (.tail _ (.tail _ (.tail _ (.tail _ (.tail _ (.tail _ (.tail _ (.head _)))))))))
theorem dX0_findLeast_72 : decode cX0_findLeast 72 = .ok (.aload_n 2, 1) := dk_of dkc_8 (.tail _ (.tail _ (.tail _ (.tail _ (.tail _ (.tail _ (.tail _ (.tail _ (.tail _ (.head _))))))))))
theorem dX0_findLeast_73 : decode cX0_findLeast 73 = .ok (.iload_n 3, 1) := dk_of dkc_8 (.tail _ (.tail _ (.tail _ (.tail _ (.tail _ (.tail _ (.tail _ (.tail _ (.tail _ (.tail _ (.head _)))))))))))
theorem dX0_findLeast_74 : decode cX0_findLeast 74 = .ok (.invokevirtual 91, 3) := dk_of dkc_8 (.tail _ (.tail _ (.tail _ (.tail _ (.tail _ (.tail _ (.tail _ (.tail _ (.tail _ (.tail _ (.tail _ (.head _))))))))))))
theorem dX0_findLeast_77 : decode cX0_findLeast 77 = .ok (.aload_n 0, 1) := dk_of dkc_8 (.tail _ (.tail _ (.tail _ (.tail _ (.tail _ (.tail _ (.tail _ (.tail _ (.tail _ (.tail _ (.tail _ (.tail _ (.head _)))))))))))))
theorem dX0_findLeast_78 : decode cX0_findLeast 78 = .ok (.iload_n 3, 1) := dk_of dkc_8 (.tail _ (.tail _ (.tail _ (.tail _ (.tail _ (.tail _ (.tail _ (.tail _ (.tail _ (.tail _ (.tail _ (.tail _ (.tail _ (.head _))))))))))))))
theorem dX0_findLeast_79 : decode cX0_findLeast 79 = .ok (.invokevirtual 94, 3) := dk_of dkc_8 (.tail _ (.tail _ (.tail _ (.tail _ (.tail _ (.tail _ (.tail _ (.tail _ (.tail _ (.tail _ (.tail _ (.tail _ (.tail _ (.tail _ (.head _)))))))))))))))
theorem dX0_findLeast_82 : decode cX0_findLeast 82 = .ok (.iinc 3 (-1), 3) := dk_of dkc_8 (.tail _ (.tail _ (.tail _ (.tail _ (.tail _ (.tail _ (.tail _ (.tail _ (.tail _ (.tail _ (.tail _ (.tail _ (.tail _ (.tail _ (.tail _ (.head _))))))))))))))))
def dkl_9 : List (Nat × Instr × Nat) := [(85, (.goto (-24), 3)), (88, (.aload_n 0, 1)), (89, (.aload_n 2, 1)), (90, (.invokevirtual 98, 3)), (93, (.return_, 1))]
theorem dkc_9 : ck9 ((bl9 cX0_findLeast).drop 85) 85 dkl_9 = true := by decide +kernel
theorem dX0_findLeast_85 : decode cX0_findLeast 85 = .ok (.goto (-24), 3) := dk_of dkc_9 (.head _)
theorem dX0_findLeast_88 : decode cX0_findLeast 88 = .ok (.aload_n 0, 1) := dk_of dkc_9 (.tail _ (.head _))
theorem dX0_findLeast_89 : decode cX0_findLeast 89 = .ok (.aload_n 2, 1) := dk_of dkc_9 (.tail _ (.tail _ (.head _)))
theorem dX0_findLeast_90 : decode cX0_findLeast 90 = .ok (.invokevirtual 98, 3) := dk_of dkc_9 (.tail _ (.tail _ (.tail _ (.head _))))
theorem dX0_findLeast_93 : decode cX0_findLeast 93 = .ok (.return_, 1) := dk_of dkc_9 (.tail _ (.tail _ (.tail _ (.tail _ (.head _)))))
def dkl_10 : List (Nat × Instr × Nat) := [(0, (.iload_n 1, 1)), (1, (.ifCond .lt 21, 3)), (4, (.iload_n 1, 1)), (5, (.aload_n 0, 1)), (6, (.getfield 23, 3)), (9, (.arraylength, 1)), (10, (.if_icmp .ge 12, 3)), (13, (.aload_n 0, 1)), (14, (.getfield 23, 3)), (17, (.iload_n 1, 1)), (18, (.iaload, 1)), (19, (.goto 4, 3)), (22, (.iconst 0, 1)), (23, (.ireturn, 1))]
theorem dkc_10 : ck9 ((bl9 cX0_takenOf).drop 0) 0 dkl_10 = true := by decide +kernel
theorem dX0_takenOf_0 : decode cX0_takenOf 0 = .ok (.iload_n 1, 1) := dk_of dkc_10 (.head _)
theorem dX0_takenOf_1 : decode cX0_takenOf 1 = .ok (.ifCond .lt 21, 3) := dk_of dkc_10 (.tail _ (.head _))
theorem dX0_takenOf_4 : decode cX0_takenOf 4 = .ok (.iload_n 1, 1) := dk_of dkc_10 (.tail _ (.tail _ (.head _)))
theorem dX0_takenOf_5 : decode cX0_takenOf 5 = .ok (.aload_n 0, 1) := dk_of dkc_10 (.tail _ (.tail _ (.tail _ (.head _))))
theorem dX0_takenOf_6 : decode cX0_takenOf 6 = .ok (.getfield 23, 3) := dk_of dkc_10 (.tail _ (.tail _ (.tail _ (.tail _ (.head _)))))
theorem dX0_takenOf_9 : decode cX0_takenOf 9 = .ok (.arraylength, 1) := dk_of dkc_10 (.tail _ (.tail _ (.tail _ (.tail _ (.tail _ (.head _))))))
theorem dX0_takenOf_10 : decode cX0_takenOf 10 = .ok (.if_icmp .ge 12, 3) := dk_of dkc_10 (.tail _ (.tail _ (.tail _ (.tail _ (.tail _ (.tail _ (.head _)))))))
theorem dX0_takenOf_13 : decode cX0_takenOf 13 = .ok (.aload_n 0, 1) := dk_of dkc_10 (.tail _ (.tail _ (.tail _ (.tail _ (.tail _ (.tail _ (.tail _ (.head _))))))))
theorem dX0_takenOf_14 : decode cX0_takenOf 14 = .ok (.getfield 23, 3) := dk_of dkc_10 (.tail _ (.tail _ (.tail _ (.tail _ (.tail _ (.tail _ (.tail _ (.tail _ (.head _)))))))))
theorem dX0_takenOf_17 : decode cX0_takenOf 17 = .ok (.iload_n 1, 1) := dk_of dkc_10 (.tail _ (.tail _ (.tail _ (.tail _ (.tail _ (.tail _ (.tail _ (.tail _ (.tail _ (.head _))))))))))
theorem dX0_takenOf_18 : decode cX0_takenOf 18 = .ok (.iaload, 1) := dk_of dkc_10 (.tail _ (.tail _ (.tail _ (.tail _ (.tail _ (.tail _ (.tail _ (.tail _ (.tail _ (.tail _ (.head _)))))))))))
theorem dX0_takenOf_19 : decode cX0_takenOf 19 = .ok (.goto 4, 3) := dk_of dkc_10 (.tail _ (.tail _ (.tail _ (.tail _ (.tail _ (.tail _ (.tail _ (.tail _ (.tail _ (.tail _ (.tail _ (.head _))))))))))))
theorem dX0_takenOf_22 : decode cX0_takenOf 22 = .ok (.iconst 0, 1) := dk_of dkc_10 (.tail _ (.tail _ (.tail _ (.tail _ (.tail _ (.tail _ (.tail _ (.tail _ (.tail _ (.tail _ (.tail _ (.tail _ (.head _)))))))))))))
theorem dX0_takenOf_23 : decode cX0_takenOf 23 = .ok (.ireturn, 1) := dk_of dkc_10 (.tail _ (.tail _ (.tail _ (.tail _ (.tail _ (.tail _ (.tail _ (.tail _ (.tail _ (.tail _ (.tail _ (.tail _ (.tail _ (.head _))))))))))))))
def dkl_11 : List (Nat × Instr × Nat) := [(0, (.aload_n 0, 1)), (1, (.aload_n 1, 1)), (2, (.iload_n 2, 1)), (3, (.invokevirtual 101, 3)), (6, (.putfield 104, 3)), (9, (.aload_n 0, 1)), (10, (.aload_n 0, 1)), (11, (.getfield 104, 3)), (14, (.ifCond .ne 7, 3)), (17, (.iconst 0, 1)), (18, (.goto 13, 3)), (21, (.aload_n 1, 1)), (22, (.iload_n 2, 1)), (23, (.invokevirtual 107, 3)), (26, (.aload_n 0, 1)), (27, (.getfield 104, 3))]
theorem dkc_11 : ck9 ((bl9 cX0_takeSide).drop 0) 0 dkl_11 = true := by decide +kernel
theorem dX0_takeSide_0 : decode cX0_takeSide 0 = .ok (.aload_n 0, 1) := dk_of dkc_11 (.head _)
theorem dX0_takeSide_1 : decode cX0_takeSide 1 = .ok (.aload_n 1, 1) := dk_of dkc_11 (.tail _ (.head _))
theorem dX0_takeSide_2 : decode cX0_takeSide 2 = .ok (.iload_n 2, 1) := dk_of dkc_11 (.tail _ (.tail _ (.head _)))
theorem dX0_takeSide_3 : decode cX0_takeSide 3 = .ok (.invokevirtual 101, 3) := dk_of dkc_11 (.tail _ (.tail _ (.tail _ (.head _))))
theorem dX0_takeSide_6 : decode cX0_takeSide 6 = .ok (.putfield 104, 3) := dk_of dkc_11 (.tail _ (.tail _ (.tail _ (.tail _ (.head _)))))
theorem dX0_takeSide_9 : decode cX0_takeSide 9 = .ok (.aload_n 0, 1) := dk_of dkc_11 (.tail _ (.tail _ (.tail _ (.tail _ (.tail _ (.head _))))))
theorem dX0_takeSide_10 : decode cX0_takeSide 10 = .ok (.aload_n 0, 1) := dk_of dkc_11 (.tail _ (.tail _ (.tail _ (.tail _ (.tail _ (.tail _ (.head _)))))))
theorem dX0_takeSide_11 : decode cX0_takeSide 11 = .ok (.getfield 104, 3) := dk_of dkc_11 (.tail _ (.tail _ (.tail _ (.tail _ (.tail _ (.tail _ (.tail _ (.head _))))))))
theorem dX0_takeSide_14 : decode cX0_takeSide 14 = .ok (.ifCond .ne 7, 3) := dk_of dkc_11 (.tail _ (.tail _ (.tail _ (.tail _ (.tail _ (.tail _ (.tail _ (.tail _ (.head _)))))))))
theorem dX0_takeSide_17 : decode cX0_takeSide 17 = .ok (.iconst 0, 1) := dk_of dkc_11 (.tail _ (.tail _ (.tail _ (.tail _ (.tail _ (.tail _ (.tail _ (.tail _ (.tail _ (.head _))))))))))
theorem dX0_takeSide_18 : decode cX0_takeSide 18 = .ok (.goto 13, 3) := dk_of dkc_11 (.tail _ (.tail _ (.tail _ (.tail _ (.tail _ (.tail _ (.tail _ (.tail _ (.tail _ (.tail _ (.head _)))))))))))
theorem dX0_takeSide_21 : decode cX0_takeSide 21 = .ok (.aload_n 1, 1) := dk_of dkc_11 (.tail _ (.tail _ (.tail _ (.tail _ (.tail _ (.tail _ (.tail _ (.tail _ (.tail _ (.tail _ (.tail _ (.head _))))))))))))
theorem dX0_takeSide_22 : decode cX0_takeSide 22 = .ok (.iload_n 2, 1) := dk_of dkc_11 (.tail _ (.tail _ (.tail _ (.tail _ (.tail _ (.tail _ (.tail _ (.tail _ (.tail _ (.tail _ (.tail _ (.tail _ (.head _)))))))))))))
theorem dX0_takeSide_23 : decode cX0_takeSide 23 = .ok (.invokevirtual 107, 3) := dk_of dkc_11 (.tail _ (.tail _ (.tail _ (.tail _ (.tail _ (.tail _ (.tail _ (.tail _ (.tail _ (.tail _ (.tail _ (.tail _ (.tail _ (.head _))))))))))))))
theorem dX0_takeSide_26 : decode cX0_takeSide 26 = .ok (.aload_n 0, 1) := dk_of dkc_11 (.tail _ (.tail _ (.tail _ (.tail _ (.tail _ (.tail _ (.tail _ (.tail _ (.tail _ (.tail _ (.tail _ (.tail _ (.tail _ (.tail _ (.head _)))))))))))))))
theorem dX0_takeSide_27 : decode cX0_takeSide 27 = .ok (.getfield 104, 3) := dk_of dkc_11 (.tail _ (.tail _ (.tail _ (.tail _ (.tail _ (.tail _ (.tail _ (.tail _ (.tail _ (.tail _ (.tail _ (.tail _ (.tail _ (.tail _ (.tail _ (.head _))))))))))))))))
def dkl_12 : List (Nat × Instr × Nat) := [(30, (.idiv, 1)), (31, (.putfield 110, 3)), (34, (.aload_n 0, 1)), (35, (.aload_n 0, 1)), (36, (.getfield 104, 3)), (39, (.ifCond .ne 7, 3)), (42, (.iconst 0, 1)), (43, (.goto 13, 3)), (46, (.aload_n 1, 1)), (47, (.iload_n 2, 1)), (48, (.invokevirtual 113, 3)), (51, (.aload_n 0, 1)), (52, (.getfield 104, 3)), (55, (.idiv, 1)), (56, (.putfield 116, 3)), (59, (.return_, 1))]
theorem dkc_12 : ck9 ((bl9 cX0_takeSide).drop 30) 30 dkl_12 = true := by decide +kernel
theorem dX0_takeSide_30 : decode cX0_takeSide 30 = .ok (.idiv, 1) := dk_of dkc_12 (.head _)
theorem dX0_takeSide_31 : decode cX0_takeSide 31 = .ok (.putfield 110, 3) := dk_of dkc_12 (.tail _ (.head _))
theorem dX0_takeSide_34 : decode cX0_takeSide 34 = .ok (.aload_n 0, 1) := dk_of dkc_12 (.tail _ (.tail _ (.head _)))
theorem dX0_takeSide_35 : decode cX0_takeSide 35 = .ok (.aload_n 0, 1) := dk_of dkc_12 (.tail _ (.tail _ (.tail _ (.head _))))
theorem dX0_takeSide_36 : decode cX0_takeSide 36 = .ok (.getfield 104, 3) := dk_of dkc_12 (.tail _ (.tail _ (.tail _ (.tail _ (.head _)))))
theorem dX0_takeSide_39 : decode cX0_takeSide 39 = .ok (.ifCond .ne 7, 3) := dk_of dkc_12 (.tail _ (.tail _ (.tail _ (.tail _ (.tail _ (.head _))))))
theorem dX0_takeSide_42 : decode cX0_takeSide 42 = .ok (.iconst 0, 1) := dk_of dkc_12 (.tail _ (.tail _ (.tail _ (.tail _ (.tail _ (.tail _ (.head _)))))))
theorem dX0_takeSide_43 : decode cX0_takeSide 43 = .ok (.goto 13, 3) := dk_of dkc_12 (.tail _ (.tail _ (.tail _ (.tail _ (.tail _ (.tail _ (.tail _ (.head _))))))))
theorem dX0_takeSide_46 : decode cX0_takeSide 46 = .ok (.aload_n 1, 1) := dk_of dkc_12 (.tail _ (.tail _ (.tail _ (.tail _ (.tail _ (.tail _ (.tail _ (.tail _ (.head _)))))))))
theorem dX0_takeSide_47 : decode cX0_takeSide 47 = .ok (.iload_n 2, 1) := dk_of dkc_12 (.tail _ (.tail _ (.tail _ (.tail _ (.tail _ (.tail _ (.tail _ (.tail _ (.tail _ (.head _))))))))))
theorem dX0_takeSide_48 : decode cX0_takeSide 48 = .ok (.invokevirtual 113, 3) := dk_of dkc_12 (.tail _ (.tail _ (.tail _ (.tail _ (.tail _ (.tail _ (.tail _ (.tail _ (.tail _ (.tail _ (.head _)))))))))))
theorem dX0_takeSide_51 : decode cX0_takeSide 51 = .ok (.aload_n 0, 1) := dk_of dkc_12 (.tail _ (.tail _ (.tail _ (.tail _ (.tail _ (.tail _ (.tail _ (.tail _ (.tail _ (.tail _ (.tail _ (.head _))))))))))))
theorem dX0_takeSide_52 : decode cX0_takeSide 52 = .ok (.getfield 104, 3) := dk_of dkc_12 (.tail _ (.tail _ (.tail _ (.tail _ (.tail _ (.tail _ (.tail _ (.tail _ (.tail _ (.tail _ (.tail _ (.tail _ (.head _)))))))))))))
theorem dX0_takeSide_55 : decode cX0_takeSide 55 = .ok (.idiv, 1) := dk_of dkc_12 (.tail _ (.tail _ (.tail _ (.tail _ (.tail _ (.tail _ (.tail _ (.tail _ (.tail _ (.tail _ (.tail _ (.tail _ (.tail _ (.head _))))))))))))))
theorem dX0_takeSide_56 : decode cX0_takeSide 56 = .ok (.putfield 116, 3) := dk_of dkc_12 (.tail _ (.tail _ (.tail _ (.tail _ (.tail _ (.tail _ (.tail _ (.tail _ (.tail _ (.tail _ (.tail _ (.tail _ (.tail _ (.tail _ (.head _)))))))))))))))
theorem dX0_takeSide_59 : decode cX0_takeSide 59 = .ok (.return_, 1) := dk_of dkc_12 (.tail _ (.tail _ (.tail _ (.tail _ (.tail _ (.tail _ (.tail _ (.tail _ (.tail _ (.tail _ (.tail _ (.tail _ (.tail _ (.tail _ (.tail _ (.head _))))))))))))))))
def dkl_13 : List (Nat × Instr × Nat) := [(0, (.aload_n 0, 1)), (1, (.aload_n 1, 1)), (2, (.invokevirtual 119, 3)), (5, (.putfield 123, 3)), (8, (.aload_n 0, 1)), (9, (.aload_n 1, 1)), (10, (.invokevirtual 126, 3)), (13, (.putfield 129, 3)), (16, (.aload_n 0, 1)), (17, (.aload_n 1, 1)), (18, (.invokevirtual 131, 3)), (21, (.aload_n 0, 1)), (22, (.getfield 123, 3)), (25, (.isub, 1)), (26, (.iconst 1, 1)), (27, (.iadd, 1))]
theorem dkc_13 : ck9 ((bl9 cX0_frame).drop 0) 0 dkl_13 = true := by decide +kernel
theorem dX0_frame_0 : decode cX0_frame 0 = .ok (.aload_n 0, 1) := dk_of dkc_13 (.head _)
theorem dX0_frame_1 : decode cX0_frame 1 = .ok (.aload_n 1, 1) := dk_of dkc_13 (.tail _ (.head _))
theorem dX0_frame_2 : decode cX0_frame 2 = .ok (.invokevirtual 119, 3) := dk_of dkc_13 (.tail _ (.tail _ (.head _)))
theorem dX0_frame_5 : decode cX0_frame 5 = .ok (.putfield 123, 3) := dk_of dkc_13 (.tail _ (.tail _ (.tail _ (.head _))))
theorem dX0_frame_8 : decode cX0_frame 8 = .ok (.aload_n 0, 1) := dk_of dkc_13 (.tail _ (.tail _ (.tail _ (.tail _ (.head _)))))
theorem dX0_frame_9 : decode cX0_frame 9 = .ok (.aload_n 1, 1) := dk_of dkc_13 (.tail _ (.tail _ (.tail _ (.tail _ (.tail _ (.head _))))))
theorem dX0_frame_10 : decode cX0_frame 10 = .ok (.invokevirtual 126, 3) := dk_of dkc_13 (.tail _ (.tail _ (.tail _ (.tail _ (.tail _ (.tail _ (.head _)))))))
theorem dX0_frame_13 : decode cX0_frame 13 = .ok (.putfield 129, 3) := dk_of dkc_13 (.tail _ (.tail _ (.tail _ (.tail _ (.tail _ (.tail _ (.tail _ (.head _))))))))
theorem dX0_frame_16 : decode cX0_frame 16 = .ok (.aload_n 0, 1) := dk_of dkc_13 (.tail _ (.tail _ (.tail _ (.tail _ (.tail _ (.tail _ (.tail _ (.tail _ (.head _)))))))))
theorem dX0_frame_17 : decode cX0_frame 17 = .ok (.aload_n 1, 1) := dk_of dkc_13 (.tail _ (.tail _ (.tail _ (.tail _ (.tail _ (.tail _ (.tail _ (.tail _ (.tail _ (.head _))))))))))
theorem dX0_frame_18 : decode cX0_frame 18 = .ok (.invokevirtual 131, 3) := dk_of dkc_13 (.tail _ (.tail _ (.tail _ (.tail _ (.tail _ (.tail _ (.tail _ (.tail _ (.tail _ (.tail _ (.head _)))))))))))
theorem dX0_frame_21 : decode cX0_frame 21 = .ok (.aload_n 0, 1) := dk_of dkc_13 (.tail _ (.tail _ (.tail _ (.tail _ (.tail _ (.tail _ (.tail _ (.tail _ (.tail _ (.tail _ (.tail _ (.head _))))))))))))
theorem dX0_frame_22 : decode cX0_frame 22 = .ok (.getfield 123, 3) := dk_of dkc_13 (.tail _ (.tail _ (.tail _ (.tail _ (.tail _ (.tail _ (.tail _ (.tail _ (.tail _ (.tail _ (.tail _ (.tail _ (.head _)))))))))))))
theorem dX0_frame_25 : decode cX0_frame 25 = .ok (.isub, 1) := dk_of dkc_13 (.tail _ (.tail _ (.tail _ (.tail _ (.tail _ (.tail _ (.tail _ (.tail _ (.tail _ (.tail _ (.tail _ (.tail _ (.tail _ (.head _))))))))))))))
theorem dX0_frame_26 : decode cX0_frame 26 = .ok (.iconst 1, 1) := dk_of dkc_13 (.tail _ (.tail _ (.tail _ (.tail _ (.tail _ (.tail _ (.tail _ (.tail _ (.tail _ (.tail _ (.tail _ (.tail _ (.tail _ (.tail _ (.head _)))))))))))))))
theorem dX0_frame_27 : decode cX0_frame 27 = .ok (.iadd, 1) := dk_of dkc_13 (.tail _ (.tail _ (.tail _ (.tail _ (.tail _ (.tail _ (.tail _ (.tail _ (.tail _ (.tail _ (.tail _ (.tail _ (.tail _ (.tail _ (.tail _ (.head _))))))))))))))))
def dkl_14 : List (Nat × Instr × Nat) := [(28, (.putfield 134, 3)), (31, (.aload_n 0, 1)), (32, (.aload_n 1, 1)), (33, (.invokevirtual 137, 3)), (36, (.aload_n 0, 1)), (37, (.getfield 129, 3)), (40, (.isub, 1)), (41, (.iconst 1, 1)), (42, (.iadd, 1)), (43, (.putfield 140, 3)), (46, (.return_, 1))]
theorem dkc_14 : ck9 ((bl9 cX0_frame).drop 28) 28 dkl_14 = true := by decide +kernel
theorem dX0_frame_28 : decode cX0_frame 28 = .ok (.putfield 134, 3) := dk_of dkc_14 (.head _)
theorem dX0_frame_31 : decode cX0_frame 31 = .ok (.aload_n 0, 1) := dk_of dkc_14 (.tail _ (.head _))
theorem dX0_frame_32 : decode cX0_frame 32 = .ok (.aload_n 1, 1) := dk_of dkc_14 (.tail _ (.tail _ (.head _)))
theorem dX0_frame_33 : decode cX0_frame 33 = .ok (.invokevirtual 137, 3) := dk_of dkc_14 (.tail _ (.tail _ (.tail _ (.head _))))
theorem dX0_frame_36 : decode cX0_frame 36 = .ok (.aload_n 0, 1) := dk_of dkc_14 (.tail _ (.tail _ (.tail _ (.tail _ (.head _)))))
theorem dX0_frame_37 : decode cX0_frame 37 = .ok (.getfield 129, 3) := dk_of dkc_14 (.tail _ (.tail _ (.tail _ (.tail _ (.tail _ (.head _))))))
theorem dX0_frame_40 : decode cX0_frame 40 = .ok (.isub, 1) := dk_of dkc_14 (.tail _ (.tail _ (.tail _ (.tail _ (.tail _ (.tail _ (.head _)))))))
theorem dX0_frame_41 : decode cX0_frame 41 = .ok (.iconst 1, 1) := dk_of dkc_14 (.tail _ (.tail _ (.tail _ (.tail _ (.tail _ (.tail _ (.tail _ (.head _))))))))
theorem dX0_frame_42 : decode cX0_frame 42 = .ok (.iadd, 1) := dk_of dkc_14 (.tail _ (.tail _ (.tail _ (.tail _ (.tail _ (.tail _ (.tail _ (.tail _ (.head _)))))))))
theorem dX0_frame_43 : decode cX0_frame 43 = .ok (.putfield 140, 3) := dk_of dkc_14 (.tail _ (.tail _ (.tail _ (.tail _ (.tail _ (.tail _ (.tail _ (.tail _ (.tail _ (.head _))))))))))
theorem dX0_frame_46 : decode cX0_frame 46 = .ok (.return_, 1) := dk_of dkc_14 (.tail _ (.tail _ (.tail _ (.tail _ (.tail _ (.tail _ (.tail _ (.tail _ (.tail _ (.tail _ (.head _)))))))))))
def dkl_15 : List (Nat × Instr × Nat) := [(0, (.iload_n 1, 1)), (1, (.aload_n 0, 1)), (2, (.getfield 123, 3)), (5, (.isub, 1)), (6, (.istore_n 3, 1)), (7, (.iload_n 2, 1)), (8, (.aload_n 0, 1)), (9, (.getfield 129, 3)), (12, (.isub, 1)), (13, (.istore 4, 2)), (15, (.iload_n 3, 1)), (16, (.ifCond .lt 25, 3)), (19, (.iload_n 3, 1)), (20, (.aload_n 0, 1)), (21, (.getfield 134, 3)), (24, (.if_icmp .ge 17, 3))]
theorem dkc_15 : ck9 ((bl9 cX0_cell).drop 0) 0 dkl_15 = true := by decide +kernel
theorem dX0_cell_0 : decode cX0_cell 0 = .ok (.iload_n 1, 1) := dk_of dkc_15 (.head _)
theorem dX0_cell_1 : decode cX0_cell 1 = .ok (.aload_n 0, 1) := dk_of dkc_15 (.tail _ (.head _))
theorem dX0_cell_2 : decode cX0_cell 2 = .ok (.getfield 123, 3) := dk_of dkc_15 (.tail _ (.tail _ (.head _)))
theorem dX0_cell_5 : decode cX0_cell 5 = .ok (.isub, 1) := dk_of dkc_15 (.tail _ (.tail _ (.tail _ (.head _))))
theorem dX0_cell_6 : decode cX0_cell 6 = .ok (.istore_n 3, 1) := dk_of dkc_15 (.tail _ (.tail _ (.tail _ (.tail _ (.head _)))))
theorem dX0_cell_7 : decode cX0_cell 7 = .ok (.iload_n 2, 1) := dk_of dkc_15 (.tail _ (.tail _ (.tail _ (.tail _ (.tail _ (.head _))))))
theorem dX0_cell_8 : decode cX0_cell 8 = .ok (.aload_n 0, 1) := dk_of dkc_15 (.tail _ (.tail _ (.tail _ (.tail _ (.tail _ (.tail _ (.head _)))))))
theorem dX0_cell_9 : decode cX0_cell 9 = .ok (.getfield 129, 3) := dk_of dkc_15 (.tail _ (.tail _ (.tail _ (.tail _ (.tail _ (.tail _ (.tail _ (.head _))))))))
theorem dX0_cell_12 : decode cX0_cell 12 = .ok (.isub, 1) := dk_of dkc_15 (.tail _ (.tail _ (.tail _ (.tail _ (.tail _ (.tail _ (.tail _ (.tail _ (.head _)))))))))
theorem dX0_cell_13 : decode cX0_cell 13 = .ok (.istore 4, 2) := dk_of dkc_15 (.tail _ (.tail _ (.tail _ (.tail _ (.tail _ (.tail _ (.tail _ (.tail _ (.tail _ (.head _))))))))))
theorem dX0_cell_15 : decode cX0_cell 15 = .ok (.iload_n 3, 1) := dk_of dkc_15 (.tail _ (.tail _ (.tail _ (.tail _ (.tail _ (.tail _ (.tail _ (.tail _ (.tail _ (.tail _ (.head _)))))))))))
theorem dX0_cell_16 : decode cX0_cell 16 = .ok (.ifCond .lt 25, 3) := dk_of dkc_15 (.tail _ (.tail _ (.tail _ (.tail _ (.tail _ (.tail _ (.tail _ (.tail _ (.tail _ (.tail _ (.tail _ (.head _))))))))))))
theorem dX0_cell_19 : decode cX0_cell 19 = .ok (.iload_n 3, 1) := dk_of dkc_15 (.tail _ (.tail _ (.tail _ (.tail _ (.tail _ (.tail _ (.tail _ (.tail _ (.tail _ (.tail _ (.tail _ (.tail _ (.head _)))))))))))))
theorem dX0_cell_20 : decode cX0_cell 20 = .ok (.aload_n 0, 1) := dk_of dkc_15 (.tail _ (.tail _ (.tail _ (.tail _ (.tail _ (.tail _ (.tail _ (.tail _ (.tail _ (.tail _ (.tail _ (.tail _ (.tail _ (.head _))))))))))))))
theorem dX0_cell_21 : decode cX0_cell 21 = .ok (.getfield 134, 3) := dk_of dkc_15 (.tail _ (.tail _ (.tail _ (.tail _ (.tail _ (.tail _ (.tail _ (.tail _ (.tail _ (.tail _ (.tail _ (.tail _ (.tail _ (.tail _ (.head _)))))))))))))))
theorem dX0_cell_24 : decode cX0_cell 24 = .ok (.if_icmp .ge 17, 3) := dk_of dkc_15 (.tail _ (.tail _ (.tail _ (.tail _ (.tail _ (.tail _ (.tail _ (.tail _ (.tail _ (.tail _ (.tail _ (.tail _ (.tail _ (.tail _ (.tail _ (.head _))))))))))))))))
def dkl_16 : List (Nat × Instr × Nat) := [(27, (.iload 4, 2)), (29, (.ifCond .lt 12, 3)), (32, (.iload 4, 2)), (34, (.aload_n 0, 1)), (35, (.getfield 140, 3)), (38, (.if_icmp .lt 5, 3)), (41, (.iconst (-1), 1)), (42, (.ireturn, 1)), (43, (.iload_n 3, 1)), (44, (.aload_n 0, 1)), (45, (.getfield 140, 3)), (48, (.imul, 1)), (49, (.iload 4, 2)), (51, (.iadd, 1)), (52, (.istore 5, 2)), (54, (.iload 5, 2))]
theorem dkc_16 : ck9 ((bl9 cX0_cell).drop 27) 27 dkl_16 = true := by decide +kernel
theorem dX0_cell_27 : decode cX0_cell 27 = .ok (.iload 4, 2) := dk_of dkc_16 (.head _)
theorem dX0_cell_29 : decode cX0_cell 29 = .ok (.ifCond .lt 12, 3) := dk_of dkc_16 (.tail _ (.head _))
theorem dX0_cell_32 : decode cX0_cell 32 = .ok (.iload 4, 2) := dk_of dkc_16 (.tail _ (.tail _ (.head _)))
theorem dX0_cell_34 : decode cX0_cell 34 = .ok (.aload_n 0, 1) := dk_of dkc_16 (.tail _ (.tail _ (.tail _ (.head _))))
theorem dX0_cell_35 : decode cX0_cell 35 = .ok (.getfield 140, 3) := dk_of dkc_16 (.tail _ (.tail _ (.tail _ (.tail _ (.head _)))))
theorem dX0_cell_38 : decode cX0_cell 38 = .ok (.if_icmp .lt 5, 3) := dk_of dkc_16 (.tail _ (.tail _ (.tail _ (.tail _ (.tail _ (.head _))))))
theorem dX0_cell_41 : decode cX0_cell 41 = .ok (.iconst (-1), 1) := dk_of dkc_16 (.tail _ (.tail _ (.tail _ (.tail _ (.tail _ (.tail _ (.head _)))))))
theorem dX0_cell_42 : decode cX0_cell 42 = .ok (.ireturn, 1) := dk_of dkc_16 (.tail _ (.tail _ (.tail _ (.tail _ (.tail _ (.tail _ (.tail _ (.head _))))))))
theorem dX0_cell_43 : decode cX0_cell 43 = .ok (.iload_n 3, 1) := dk_of dkc_16 (.tail _ (.tail _ (.tail _ (.tail _ (.tail _ (.tail _ (.tail _ (.tail _ (.head _)))))))))
theorem dX0_cell_44 : decode cX0_cell 44 = .ok (.aload_n 0, 1) := dk_of dkc_16 (.tail _ (.tail _ (.tail _ (.tail _ (.tail _ (.tail _ (.tail _ (.tail _ (.tail _ (.head _))))))))))
theorem dX0_cell_45 : decode cX0_cell 45 = .ok (.getfield 140, 3) := dk_of dkc_16 (.tail _ (.tail _ (.tail _ (.tail _ (.tail _ (.tail _ (.tail _ (.tail _ (.tail _ (.tail _ (.head _)))))))))))
theorem dX0_cell_48 : decode cX0_cell 48 = .ok (.imul, 1) := dk_of dkc_16 (.tail _ (.tail _ (.tail _ (.tail _ (.tail _ (.tail _ (.tail _ (.tail _ (.tail _ (.tail _ (.tail _ (.head _))))))))))))
theorem dX0_cell_49 : decode cX0_cell 49 = .ok (.iload 4, 2) := dk_of dkc_16 (.tail _ (.tail _ (.tail _ (.tail _ (.tail _ (.tail _ (.tail _ (.tail _ (.tail _ (.tail _ (.tail _ (.tail _ (.head _)))))))))))))
theorem dX0_cell_51 : decode cX0_cell 51 = .ok (.iadd, 1) := dk_of dkc_16 (.tail _ (.tail _ (.tail _ (.tail _ (.tail _ (.tail _ (.tail _ (.tail _ (.tail _ (.tail _ (.tail _ (.tail _ (.tail _ (.head _))))))))))))))
theorem dX0_cell_52 : decode cX0_cell 52 = .ok (.istore 5, 2) := dk_of dkc_16 (.tail _ (.tail _ (.tail _ (.tail _ (.tail _ (.tail _ (.tail _ (.tail _ (.tail _ (.tail _ (.tail _ (.tail _ (.tail _ (.tail _ (.head _)))))))))))))))
theorem dX0_cell_54 : decode cX0_cell 54 = .ok (.iload 5, 2) := dk_of dkc_16 (.tail _ (.tail _ (.tail _ (.tail _ (.tail _ (.tail _ (.tail _ (.tail _ (.tail _ (.tail _ (.tail _ (.tail _ (.tail _ (.tail _ (.tail _ (.head _))))))))))))))))
def dkl_17 : List (Nat × Instr × Nat) := [(56, (.sipush 6561, 3)), (59, (.if_icmp .ge 8, 3)), (62, (.iload 5, 2)), (64, (.goto 4, 3)), (67, (.iconst (-1), 1)), (68, (.ireturn, 1))]
theorem dkc_17 : ck9 ((bl9 cX0_cell).drop 56) 56 dkl_17 = true := by decide +kernel
theorem dX0_cell_56 : decode cX0_cell 56 = .ok (.sipush 6561, 3) := dk_of dkc_17 (.head _)
theorem dX0_cell_59 : decode cX0_cell 59 = .ok (.if_icmp .ge 8, 3) := dk_of dkc_17 (.tail _ (.head _))
theorem dX0_cell_62 : decode cX0_cell 62 = .ok (.iload 5, 2) := dk_of dkc_17 (.tail _ (.tail _ (.head _)))
theorem dX0_cell_64 : decode cX0_cell 64 = .ok (.goto 4, 3) := dk_of dkc_17 (.tail _ (.tail _ (.tail _ (.head _))))
theorem dX0_cell_67 : decode cX0_cell 67 = .ok (.iconst (-1), 1) := dk_of dkc_17 (.tail _ (.tail _ (.tail _ (.tail _ (.head _)))))
theorem dX0_cell_68 : decode cX0_cell 68 = .ok (.ireturn, 1) := dk_of dkc_17 (.tail _ (.tail _ (.tail _ (.tail _ (.tail _ (.head _))))))
def dkl_18 : List (Nat × Instr × Nat) := [(0, (.aload_n 0, 1)), (1, (.iload_n 2, 1)), (2, (.iload_n 3, 1)), (3, (.invokevirtual 49, 3)), (6, (.istore 4, 2)), (8, (.iload 4, 2)), (10, (.ifCond .lt 17, 3)), (13, (.iload 4, 2)), (15, (.aload_n 1, 1)), (16, (.arraylength, 1)), (17, (.if_icmp .ge 10, 3)), (20, (.aload_n 1, 1)), (21, (.iload 4, 2)), (23, (.laload, 1)), (24, (.goto 4, 3)), (27, (.lconst 0, 1))]
theorem dkc_18 : ck9 ((bl9 cX0_waysTo).drop 0) 0 dkl_18 = true := by decide +kernel
theorem dX0_waysTo_0 : decode cX0_waysTo 0 = .ok (.aload_n 0, 1) := dk_of dkc_18 (.head _)
theorem dX0_waysTo_1 : decode cX0_waysTo 1 = .ok (.iload_n 2, 1) := dk_of dkc_18 (.tail _ (.head _))
theorem dX0_waysTo_2 : decode cX0_waysTo 2 = .ok (.iload_n 3, 1) := dk_of dkc_18 (.tail _ (.tail _ (.head _)))
theorem dX0_waysTo_3 : decode cX0_waysTo 3 = .ok (.invokevirtual 49, 3) := dk_of dkc_18 (.tail _ (.tail _ (.tail _ (.head _))))
theorem dX0_waysTo_6 : decode cX0_waysTo 6 = .ok (.istore 4, 2) := dk_of dkc_18 (.tail _ (.tail _ (.tail _ (.tail _ (.head _)))))
theorem dX0_waysTo_8 : decode cX0_waysTo 8 = .ok (.iload 4, 2) := dk_of dkc_18 (.tail _ (.tail _ (.tail _ (.tail _ (.tail _ (.head _))))))
theorem dX0_waysTo_10 : decode cX0_waysTo 10 = .ok (.ifCond .lt 17, 3) := dk_of dkc_18 (.tail _ (.tail _ (.tail _ (.tail _ (.tail _ (.tail _ (.head _)))))))
theorem dX0_waysTo_13 : decode cX0_waysTo 13 = .ok (.iload 4, 2) := dk_of dkc_18 (.tail _ (.tail _ (.tail _ (.tail _ (.tail _ (.tail _ (.tail _ (.head _))))))))
theorem dX0_waysTo_15 : decode cX0_waysTo 15 = .ok (.aload_n 1, 1) := dk_of dkc_18 (.tail _ (.tail _ (.tail _ (.tail _ (.tail _ (.tail _ (.tail _ (.tail _ (.head _)))))))))
theorem dX0_waysTo_16 : decode cX0_waysTo 16 = .ok (.arraylength, 1) := dk_of dkc_18 (.tail _ (.tail _ (.tail _ (.tail _ (.tail _ (.tail _ (.tail _ (.tail _ (.tail _ (.head _))))))))))
theorem dX0_waysTo_17 : decode cX0_waysTo 17 = .ok (.if_icmp .ge 10, 3) := dk_of dkc_18 (.tail _ (.tail _ (.tail _ (.tail _ (.tail _ (.tail _ (.tail _ (.tail _ (.tail _ (.tail _ (.head _)))))))))))
theorem dX0_waysTo_20 : decode cX0_waysTo 20 = .ok (.aload_n 1, 1) := dk_of dkc_18 (.tail _ (.tail _ (.tail _ (.tail _ (.tail _ (.tail _ (.tail _ (.tail _ (.tail _ (.tail _ (.tail _ (.head _))))))))))))
theorem dX0_waysTo_21 : decode cX0_waysTo 21 = .ok (.iload 4, 2) := dk_of dkc_18 (.tail _ (.tail _ (.tail _ (.tail _ (.tail _ (.tail _ (.tail _ (.tail _ (.tail _ (.tail _ (.tail _ (.tail _ (.head _)))))))))))))
theorem dX0_waysTo_23 : decode cX0_waysTo 23 = .ok (.laload, 1) := dk_of dkc_18 (.tail _ (.tail _ (.tail _ (.tail _ (.tail _ (.tail _ (.tail _ (.tail _ (.tail _ (.tail _ (.tail _ (.tail _ (.tail _ (.head _))))))))))))))
theorem dX0_waysTo_24 : decode cX0_waysTo 24 = .ok (.goto 4, 3) := dk_of dkc_18 (.tail _ (.tail _ (.tail _ (.tail _ (.tail _ (.tail _ (.tail _ (.tail _ (.tail _ (.tail _ (.tail _ (.tail _ (.tail _ (.tail _ (.head _)))))))))))))))
theorem dX0_waysTo_27 : decode cX0_waysTo 27 = .ok (.lconst 0, 1) := dk_of dkc_18 (.tail _ (.tail _ (.tail _ (.tail _ (.tail _ (.tail _ (.tail _ (.tail _ (.tail _ (.tail _ (.tail _ (.tail _ (.tail _ (.tail _ (.tail _ (.head _))))))))))))))))
def dkl_19 : List (Nat × Instr × Nat) := [(28, (.lreturn, 1))]
theorem dkc_19 : ck9 ((bl9 cX0_waysTo).drop 28) 28 dkl_19 = true := by decide +kernel
theorem dX0_waysTo_28 : decode cX0_waysTo 28 = .ok (.lreturn, 1) := dk_of dkc_19 (.head _)
def dkl_20 : List (Nat × Instr × Nat) := [(0, (.aload_n 0, 1)), (1, (.getfield 110, 3)), (4, (.ifCond .gt 17, 3)), (7, (.aload_n 0, 1)), (8, (.getfield 110, 3)), (11, (.ifCond .ne 14, 3)), (14, (.aload_n 0, 1)), (15, (.getfield 116, 3)), (18, (.ifCond .le 7, 3)), (21, (.iconst 1, 1)), (22, (.goto 4, 3)), (25, (.iconst 0, 1)), (26, (.istore_n 1, 1)), (27, (.iconst 0, 1)), (28, (.istore_n 2, 1)), (29, (.iload_n 2, 1))]
theorem dkc_20 : ck9 ((bl9 cX0_spread).drop 0) 0 dkl_20 = true := by decide +kernel
theorem dX0_spread_0 : decode cX0_spread 0 = .ok (.aload_n 0, 1) := dk_of dkc_20 (.head _)
theorem dX0_spread_1 : decode cX0_spread 1 = .ok (.getfield 110, 3) := dk_of dkc_20 (.tail _ (.head _))
theorem dX0_spread_4 : decode cX0_spread 4 = .ok (.ifCond .gt 17, 3) := dk_of dkc_20 (.tail _ (.tail _ (.head _)))
theorem dX0_spread_7 : decode cX0_spread 7 = .ok (.aload_n 0, 1) := dk_of dkc_20 (.tail _ (.tail _ (.tail _ (.head _))))
theorem dX0_spread_8 : decode cX0_spread 8 = .ok (.getfield 110, 3) := dk_of dkc_20 (.tail _ (.tail _ (.tail _ (.tail _ (.head _)))))
theorem dX0_spread_11 : decode cX0_spread 11 = .ok (.ifCond .ne 14, 3) := dk_of dkc_20 (.tail _ (.tail _ (.tail _ (.tail _ (.tail _ (.head _))))))
theorem dX0_spread_14 : decode cX0_spread 14 = .ok (.aload_n 0, 1) := dk_of dkc_20 (.tail _ (.tail _ (.tail _ (.tail _ (.tail _ (.tail _ (.head _)))))))
theorem dX0_spread_15 : decode cX0_spread 15 = .ok (.getfield 116, 3) := dk_of dkc_20 (.tail _ (.tail _ (.tail _ (.tail _ (.tail _ (.tail _ (.tail _ (.head _))))))))
theorem dX0_spread_18 : decode cX0_spread 18 = .ok (.ifCond .le 7, 3) := dk_of dkc_20 (.tail _ (.tail _ (.tail _ (.tail _ (.tail _ (.tail _ (.tail _ (.tail _ (.head _)))))))))
theorem dX0_spread_21 : decode cX0_spread 21 = .ok (.iconst 1, 1) := dk_of dkc_20 (.tail _ (.tail _ (.tail _ (.tail _ (.tail _ (.tail _ (.tail _ (.tail _ (.tail _ (.head _))))))))))
theorem dX0_spread_22 : decode cX0_spread 22 = .ok (.goto 4, 3) := dk_of dkc_20 (.tail _ (.tail _ (.tail _ (.tail _ (.tail _ (.tail _ (.tail _ (.tail _ (.tail _ (.tail _ (.head _)))))))))))
theorem dX0_spread_25 : decode cX0_spread 25 = .ok (.iconst 0, 1) := dk_of dkc_20 (.tail _ (.tail _ (.tail _ (.tail _ (.tail _ (.tail _ (.tail _ (.tail _ (.tail _ (.tail _ (.tail _ (.head _))))))))))))
theorem dX0_spread_26 : decode cX0_spread 26 = .ok (.istore_n 1, 1) := dk_of dkc_20 (.tail _ (.tail _ (.tail _ (.tail _ (.tail _ (.tail _ (.tail _ (.tail _ (.tail _ (.tail _ (.tail _ (.tail _ (.head _)))))))))))))
theorem dX0_spread_27 : decode cX0_spread 27 = .ok (.iconst 0, 1) := dk_of dkc_20 (.tail _ (.tail _ (.tail _ (.tail _ (.tail _ (.tail _ (.tail _ (.tail _ (.tail _ (.tail _ (.tail _ (.tail _ (.tail _ (.head _))))))))))))))
theorem dX0_spread_28 : decode cX0_spread 28 = .ok (.istore_n 2, 1) := dk_of dkc_20 (.tail _ (.tail _ (.tail _ (.tail _ (.tail _ (.tail _ (.tail _ (.tail _ (.tail _ (.tail _ (.tail _ (.tail _ (.tail _ (.tail _ (.head _)))))))))))))))
theorem dX0_spread_29 : decode cX0_spread 29 = .ok (.iload_n 2, 1) := dk_of dkc_20 (.tail _ (.tail _ (.tail _ (.tail _ (.tail _ (.tail _ (.tail _ (.tail _ (.tail _ (.tail _ (.tail _ (.tail _ (.tail _ (.tail _ (.tail _ (.head _))))))))))))))))
def dkl_21 : List (Nat × Instr × Nat) := [(30, (.aload_n 0, 1)), (31, (.getfield 134, 3)), (34, (.if_icmp .ge 160, 3)), (37, (.aload_n 0, 1)), (38, (.getfield 123, 3)), (41, (.iload_n 1, 1)), (42, (.ifCond .eq 7, 3)), (45, (.iload_n 2, 1)), (46, (.goto 11, 3)), (49, (.aload_n 0, 1)), (50, (.getfield 134, 3)), (53, (.iconst 1, 1)), (54, (.isub, 1)), (55, (.iload_n 2, 1)), (56, (.isub, 1)), (57, (.iadd, 1))]
theorem dkc_21 : ck9 ((bl9 cX0_spread).drop 30) 30 dkl_21 = true := by decide +kernel
theorem dX0_spread_30 : decode cX0_spread 30 = .ok (.aload_n 0, 1) := dk_of dkc_21 (.head _)
theorem dX0_spread_31 : decode cX0_spread 31 = .ok (.getfield 134, 3) := dk_of dkc_21 (.tail _ (.head _))
theorem dX0_spread_34 : decode cX0_spread 34 = .ok (.if_icmp .ge 160, 3) := dk_of dkc_21 (.tail _ (.tail _ (.head _)))
theorem dX0_spread_37 : decode cX0_spread 37 = .ok (.aload_n 0, 1) := dk_of dkc_21 (.tail _ (.tail _ (.tail _ (.head _))))
theorem dX0_spread_38 : decode cX0_spread 38 = .ok (.getfield 123, 3) := dk_of dkc_21 (.tail _ (.tail _ (.tail _ (.tail _ (.head _)))))
theorem dX0_spread_41 : decode cX0_spread 41 = .ok (.iload_n 1, 1) := dk_of dkc_21 (.tail _ (.tail _ (.tail _ (.tail _ (.tail _ (.head _))))))
theorem dX0_spread_42 : decode cX0_spread 42 = .ok (.ifCond .eq 7, 3) := dk_of dkc_21 (.tail _ (.tail _ (.tail _ (.tail _ (.tail _ (.tail _ (.head _)))))))
theorem dX0_spread_45 : decode cX0_spread 45 = .ok (.iload_n 2, 1) := dk_of dkc_21 (.tail _ (.tail _ (.tail _ (.tail _ (.tail _ (.tail _ (.tail _ (.head _))))))))
theorem dX0_spread_46 : decode cX0_spread 46 = .ok (.goto 11, 3) := dk_of dkc_21 (.tail _ (.tail _ (.tail _ (.tail _ (.tail _ (.tail _ (.tail _ (.tail _ (.head _)))))))))
theorem dX0_spread_49 : decode cX0_spread 49 = .ok (.aload_n 0, 1) := dk_of dkc_21 (.tail _ (.tail _ (.tail _ (.tail _ (.tail _ (.tail _ (.tail _ (.tail _ (.tail _ (.head _))))))))))
theorem dX0_spread_50 : decode cX0_spread 50 = .ok (.getfield 134, 3) := dk_of dkc_21 (.tail _ (.tail _ (.tail _ (.tail _ (.tail _ (.tail _ (.tail _ (.tail _ (.tail _ (.tail _ (.head _)))))))))))
theorem dX0_spread_53 : decode cX0_spread 53 = .ok (.iconst 1, 1) := dk_of dkc_21 (.tail _ (.tail _ (.tail _ (.tail _ (.tail _ (.tail _ (.tail _ (.tail _ (.tail _ (.tail _ (.tail _ (.head _))))))))))))
theorem dX0_spread_54 : decode cX0_spread 54 = .ok (.isub, 1) := dk_of dkc_21 (.tail _ (.tail _ (.tail _ (.tail _ (.tail _ (.tail _ (.tail _ (.tail _ (.tail _ (.tail _ (.tail _ (.tail _ (.head _)))))))))))))
theorem dX0_spread_55 : decode cX0_spread 55 = .ok (.iload_n 2, 1) := dk_of dkc_21 (.tail _ (.tail _ (.tail _ (.tail _ (.tail _ (.tail _ (.tail _ (.tail _ (.tail _ (.tail _ (.tail _ (.tail _ (.tail _ (.head _))))))))))))))
theorem dX0_spread_56 : decode cX0_spread 56 = .ok (.isub, 1) := dk_of dkc_21 (.tail _ (.tail _ (.tail _ (.tail _ (.tail _ (.tail _ (.tail _ (.tail _ (.tail _ (.tail _ (.tail _ (.tail _ (.tail _ (.tail _ (.head _)))))))))))))))
theorem dX0_spread_57 : decode cX0_spread 57 = .ok (.iadd, 1) := dk_of dkc_21 (.tail _ (.tail _ (.tail _ (.tail _ (.tail _ (.tail _ (.tail _ (.tail _ (.tail _ (.tail _ (.tail _ (.tail _ (.tail _ (.tail _ (.tail _ (.head _))))))))))))))))
def dkl_22 : List (Nat × Instr × Nat) := [(58, (.istore_n 3, 1)), (59, (.iconst 0, 1)), (60, (.istore 4, 2)), (62, (.iload 4, 2)), (64, (.aload_n 0, 1)), (65, (.getfield 140, 3)), (68, (.if_icmp .ge 120, 3)), (71, (.aload_n 0, 1)), (72, (.getfield 129, 3)), (75, (.iload_n 1, 1)), (76, (.ifCond .eq 8, 3)), (79, (.iload 4, 2)), (81, (.goto 12, 3)), (84, (.aload_n 0, 1)), (85, (.getfield 140, 3)), (88, (.iconst 1, 1))]
theorem dkc_22 : ck9 ((bl9 cX0_spread).drop 58) 58 dkl_22 = true := by decide +kernel
theorem dX0_spread_58 : decode cX0_spread 58 = .ok (.istore_n 3, 1) := dk_of dkc_22 (.head _)
theorem dX0_spread_59 : decode cX0_spread 59 = .ok (.iconst 0, 1) := dk_of dkc_22 (.tail _ (.head _))
theorem dX0_spread_60 : decode cX0_spread 60 = .ok (.istore 4, 2) := dk_of dkc_22 (.tail _ (.tail _ (.head _)))
theorem dX0_spread_62 : decode cX0_spread 62 = .ok (.iload 4, 2) := dk_of dkc_22 (.tail _ (.tail _ (.tail _ (.head _))))
theorem dX0_spread_64 : decode cX0_spread 64 = .ok (.aload_n 0, 1) := dk_of dkc_22 (.tail _ (.tail _ (.tail _ (.tail _ (.head _)))))
theorem dX0_spread_65 : decode cX0_spread 65 = .ok (.getfield 140, 3) := dk_of dkc_22 (.tail _ (.tail _ (.tail _ (.tail _ (.tail _ (.head _))))))
theorem dX0_spread_68 : decode cX0_spread 68 = .ok (.if_icmp .ge 120, 3) := dk_of dkc_22 (.tail _ (.tail _ (.tail _ (.tail _ (.tail _ (.tail _ (.head _)))))))
theorem dX0_spread_71 : decode cX0_spread 71 = .ok (.aload_n 0, 1) := dk_of dkc_22 (.tail _ (.tail _ (.tail _ (.tail _ (.tail _ (.tail _ (.tail _ (.head _))))))))
theorem dX0_spread_72 : decode cX0_spread 72 = .ok (.getfield 129, 3) := dk_of dkc_22 (.tail _ (.tail _ (.tail _ (.tail _ (.tail _ (.tail _ (.tail _ (.tail _ (.head _)))))))))
theorem dX0_spread_75 : decode cX0_spread 75 = .ok (.iload_n 1, 1) := dk_of dkc_22 (.tail _ (.tail _ (.tail _ (.tail _ (.tail _ (.tail _ (.tail _ (.tail _ (.tail _ (.head _))))))))))
theorem dX0_spread_76 : decode cX0_spread 76 = .ok (.ifCond .eq 8, 3) := dk_of dkc_22 (.tail _ (.tail _ (.tail _ (.tail _ (.tail _ (.tail _ (.tail _ (.tail _ (.tail _ (.tail _ (.head _)))))))))))
theorem dX0_spread_79 : decode cX0_spread 79 = .ok (.iload 4, 2) := dk_of dkc_22 (.tail _ (.tail _ (.tail _ (.tail _ (.tail _ (.tail _ (.tail _ (.tail _ (.tail _ (.tail _ (.tail _ (.head _))))))))))))
theorem dX0_spread_81 : decode cX0_spread 81 = .ok (.goto 12, 3) := dk_of dkc_22 (.tail _ (.tail _ (.tail _ (.tail _ (.tail _ (.tail _ (.tail _ (.tail _ (.tail _ (.tail _ (.tail _ (.tail _ (.head _)))))))))))))
theorem dX0_spread_84 : decode cX0_spread 84 = .ok (.aload_n 0, 1) := dk_of dkc_22 (.tail _ (.tail _ (.tail _ (.tail _ (.tail _ (.tail _ (.tail _ (.tail _ (.tail _ (.tail _ (.tail _ (.tail _ (.tail _ (.head _))))))))))))))
theorem dX0_spread_85 : decode cX0_spread 85 = .ok (.getfield 140, 3) := dk_of dkc_22 (.tail _ (.tail _ (.tail _ (.tail _ (.tail _ (.tail _ (.tail _ (.tail _ (.tail _ (.tail _ (.tail _ (.tail _ (.tail _ (.tail _ (.head _)))))))))))))))
theorem dX0_spread_88 : decode cX0_spread 88 = .ok (.iconst 1, 1) := dk_of dkc_22 (.tail _ (.tail _ (.tail _ (.tail _ (.tail _ (.tail _ (.tail _ (.tail _ (.tail _ (.tail _ (.tail _ (.tail _ (.tail _ (.tail _ (.tail _ (.head _))))))))))))))))
def dkl_23 : List (Nat × Instr × Nat) := [(89, (.isub, 1)), (90, (.iload 4, 2)), (92, (.isub, 1)), (93, (.iadd, 1)), (94, (.istore 5, 2)), (96, (.aload_n 0, 1)), (97, (.iload_n 3, 1)), (98, (.iload 5, 2)), (100, (.invokevirtual 49, 3)), (103, (.istore 6, 2)), (105, (.iload 6, 2)), (107, (.ifCond .lt 75, 3)), (110, (.aload_n 0, 1)), (111, (.getfield 15, 3)), (114, (.iload 6, 2)), (116, (.aload_n 0, 1))]
theorem dkc_23 : ck9 ((bl9 cX0_spread).drop 89) 89 dkl_23 = true := by decide +kernel
theorem dX0_spread_89 : decode cX0_spread 89 = .ok (.isub, 1) := dk_of dkc_23 (.head _)
theorem dX0_spread_90 : decode cX0_spread 90 = .ok (.iload 4, 2) := dk_of dkc_23 (.tail _ (.head _))
theorem dX0_spread_92 : decode cX0_spread 92 = .ok (.isub, 1) := dk_of dkc_23 (.tail _ (.tail _ (.head _)))
theorem dX0_spread_93 : decode cX0_spread 93 = .ok (.iadd, 1) := dk_of dkc_23 (.tail _ (.tail _ (.tail _ (.head _))))
theorem dX0_spread_94 : decode cX0_spread 94 = .ok (.istore 5, 2) := dk_of dkc_23 (.tail _ (.tail _ (.tail _ (.tail _ (.head _)))))
theorem dX0_spread_96 : decode cX0_spread 96 = .ok (.aload_n 0, 1) := dk_of dkc_23 (.tail _ (.tail _ (.tail _ (.tail _ (.tail _ (.head _))))))
theorem dX0_spread_97 : decode cX0_spread 97 = .ok (.iload_n 3, 1) := dk_of dkc_23 (.tail _ (.tail _ (.tail _ (.tail _ (.tail _ (.tail _ (.head _)))))))
theorem dX0_spread_98 : decode cX0_spread 98 = .ok (.iload 5, 2) := dk_of dkc_23 (.tail _ (.tail _ (.tail _ (.tail _ (.tail _ (.tail _ (.tail _ (.head _))))))))
theorem dX0_spread_100 : decode cX0_spread 100 = .ok (.invokevirtual 49, 3) := dk_of dkc_23 (.tail _ (.tail _ (.tail _ (.tail _ (.tail _ (.tail _ (.tail _ (.tail _ (.head _)))))))))
theorem dX0_spread_103 : decode cX0_spread 103 = .ok (.istore 6, 2) := dk_of dkc_23 (.tail _ (.tail _ (.tail _ (.tail _ (.tail _ (.tail _ (.tail _ (.tail _ (.tail _ (.head _))))))))))
theorem dX0_spread_105 : decode cX0_spread 105 = .ok (.iload 6, 2) := dk_of dkc_23 (.tail _ (.tail _ (.tail _ (.tail _ (.tail _ (.tail _ (.tail _ (.tail _ (.tail _ (.tail _ (.head _)))))))))))
theorem dX0_spread_107 : decode cX0_spread 107 = .ok (.ifCond .lt 75, 3) := dk_of dkc_23 (.tail _ (.tail _ (.tail _ (.tail _ (.tail _ (.tail _ (.tail _ (.tail _ (.tail _ (.tail _ (.tail _ (.head _))))))))))))
theorem dX0_spread_110 : decode cX0_spread 110 = .ok (.aload_n 0, 1) := dk_of dkc_23 (.tail _ (.tail _ (.tail _ (.tail _ (.tail _ (.tail _ (.tail _ (.tail _ (.tail _ (.tail _ (.tail _ (.tail _ (.head _)))))))))))))
theorem dX0_spread_111 : decode cX0_spread 111 = .ok (.getfield 15, 3) := dk_of dkc_23 (.tail _ (.tail _ (.tail _ (.tail _ (.tail _ (.tail _ (.tail _ (.tail _ (.tail _ (.tail _ (.tail _ (.tail _ (.tail _ (.head _))))))))))))))
theorem dX0_spread_114 : decode cX0_spread 114 = .ok (.iload 6, 2) := dk_of dkc_23 (.tail _ (.tail _ (.tail _ (.tail _ (.tail _ (.tail _ (.tail _ (.tail _ (.tail _ (.tail _ (.tail _ (.tail _ (.tail _ (.tail _ (.head _)))))))))))))))
theorem dX0_spread_116 : decode cX0_spread 116 = .ok (.aload_n 0, 1) := dk_of dkc_23 (.tail _ (.tail _ (.tail _ (.tail _ (.tail _ (.tail _ (.tail _ (.tail _ (.tail _ (.tail _ (.tail _ (.tail _ (.tail _ (.tail _ (.tail _ (.head _))))))))))))))))
def dkl_24 : List (Nat × Instr × Nat) := [(117, (.getfield 11, 3)), (120, (.iload 6, 2)), (122, (.laload, 1)), (123, (.aload_n 0, 1)), (124, (.aload_n 0, 1)), (125, (.getfield 15, 3)), (128, (.iload_n 3, 1)), (129, (.aload_n 0, 1)), (130, (.getfield 110, 3)), (133, (.isub, 1)), (134, (.iload 5, 2)), (136, (.aload_n 0, 1)), (137, (.getfield 116, 3)), (140, (.isub, 1)), (141, (.invokevirtual 143, 3)), (144, (.ladd, 1))]
theorem dkc_24 : ck9 ((bl9 cX0_spread).drop 117) 117 dkl_24 = true := by decide +kernel
theorem dX0_spread_117 : decode cX0_spread 117 = .ok (.getfield 11, 3) := dk_of dkc_24 (.head _)
theorem dX0_spread_120 : decode cX0_spread 120 = .ok (.iload 6, 2) := dk_of dkc_24 (.tail _ (.head _))
theorem dX0_spread_122 : decode cX0_spread 122 = .ok (.laload, 1) := dk_of dkc_24 (.tail _ (.tail _ (.head _)))
theorem dX0_spread_123 : decode cX0_spread 123 = .ok (.aload_n 0, 1) := dk_of dkc_24 (.tail _ (.tail _ (.tail _ (.head _))))
theorem dX0_spread_124 : decode cX0_spread 124 = .ok (.aload_n 0, 1) := dk_of dkc_24 (.tail _ (.tail _ (.tail _ (.tail _ (.head _)))))
theorem dX0_spread_125 : decode cX0_spread 125 = .ok (.getfield 15, 3) := dk_of dkc_24 (.tail _ (.tail _ (.tail _ (.tail _ (.tail _ (.head _))))))
theorem dX0_spread_128 : decode cX0_spread 128 = .ok (.iload_n 3, 1) := dk_of dkc_24 (.tail _ (.tail _ (.tail _ (.tail _ (.tail _ (.tail _ (.head _)))))))
theorem dX0_spread_129 : decode cX0_spread 129 = .ok (.aload_n 0, 1) := dk_of dkc_24 (.tail _ (.tail _ (.tail _ (.tail _ (.tail _ (.tail _ (.tail _ (.head _))))))))
theorem dX0_spread_130 : decode cX0_spread 130 = .ok (.getfield 110, 3) := dk_of dkc_24 (.tail _ (.tail _ (.tail _ (.tail _ (.tail _ (.tail _ (.tail _ (.tail _ (.head _)))))))))
theorem dX0_spread_133 : decode cX0_spread 133 = .ok (.isub, 1) := dk_of dkc_24 (.tail _ (.tail _ (.tail _ (.tail _ (.tail _ (.tail _ (.tail _ (.tail _ (.tail _ (.head _))))))))))
theorem dX0_spread_134 : decode cX0_spread 134 = .ok (.iload 5, 2) := dk_of dkc_24 (.tail _ (.tail _ (.tail _ (.tail _ (.tail _ (.tail _ (.tail _ (.tail _ (.tail _ (.tail _ (.head _)))))))))))
theorem dX0_spread_136 : decode cX0_spread 136 = .ok (.aload_n 0, 1) := dk_of dkc_24 (.tail _ (.tail _ (.tail _ (.tail _ (.tail _ (.tail _ (.tail _ (.tail _ (.tail _ (.tail _ (.tail _ (.head _))))))))))))
theorem dX0_spread_137 : decode cX0_spread 137 = .ok (.getfield 116, 3) := dk_of dkc_24 (.tail _ (.tail _ (.tail _ (.tail _ (.tail _ (.tail _ (.tail _ (.tail _ (.tail _ (.tail _ (.tail _ (.tail _ (.head _)))))))))))))
theorem dX0_spread_140 : decode cX0_spread 140 = .ok (.isub, 1) := dk_of dkc_24 (.tail _ (.tail _ (.tail _ (.tail _ (.tail _ (.tail _ (.tail _ (.tail _ (.tail _ (.tail _ (.tail _ (.tail _ (.tail _ (.head _))))))))))))))
theorem dX0_spread_141 : decode cX0_spread 141 = .ok (.invokevirtual 143, 3) := dk_of dkc_24 (.tail _ (.tail _ (.tail _ (.tail _ (.tail _ (.tail _ (.tail _ (.tail _ (.tail _ (.tail _ (.tail _ (.tail _ (.tail _ (.tail _ (.head _)))))))))))))))
theorem dX0_spread_144 : decode cX0_spread 144 = .ok (.ladd, 1) := dk_of dkc_24 (.tail _ (.tail _ (.tail _ (.tail _ (.tail _ (.tail _ (.tail _ (.tail _ (.tail _ (.tail _ (.tail _ (.tail _ (.tail _ (.tail _ (.tail _ (.head _))))))))))))))))
def dkl_25 : List (Nat × Instr × Nat) := [(145, (.aload_n 0, 1)), (146, (.aload_n 0, 1)), (147, (.getfield 11, 3)), (150, (.iload_n 3, 1)), (151, (.aload_n 0, 1)), (152, (.getfield 104, 3)), (155, (.iconst 1, 1)), (156, (.iadd, 1)), (157, (.aload_n 0, 1)), (158, (.getfield 110, 3)), (161, (.imul, 1)), (162, (.isub, 1)), (163, (.iload 5, 2)), (165, (.aload_n 0, 1)), (166, (.getfield 104, 3)), (169, (.iconst 1, 1))]
theorem dkc_25 : ck9 ((bl9 cX0_spread).drop 145) 145 dkl_25 = true := by decide +kernel
theorem dX0_spread_145 : decode cX0_spread 145 = .ok (.aload_n 0, 1) := dk_of dkc_25 (.head _)
theorem dX0_spread_146 : decode cX0_spread 146 = .ok (.aload_n 0, 1) := dk_of dkc_25 (.tail _ (.head _))
theorem dX0_spread_147 : decode cX0_spread 147 = .ok (.getfield 11, 3) := dk_of dkc_25 (.tail _ (.tail _ (.head _)))
theorem dX0_spread_150 : decode cX0_spread 150 = .ok (.iload_n 3, 1) := dk_of dkc_25 (.tail _ (.tail _ (.tail _ (.head _))))
theorem dX0_spread_151 : decode cX0_spread 151 = .ok (.aload_n 0, 1) := dk_of dkc_25 (.tail _ (.tail _ (.tail _ (.tail _ (.head _)))))
theorem dX0_spread_152 : decode cX0_spread 152 = .ok (.getfield 104, 3) := dk_of dkc_25 (.tail _ (.tail _ (.tail _ (.tail _ (.tail _ (.head _))))))
theorem dX0_spread_155 : decode cX0_spread 155 = .ok (.iconst 1, 1) := dk_of dkc_25 (.tail _ (.tail _ (.tail _ (.tail _ (.tail _ (.tail _ (.head _)))))))
theorem dX0_spread_156 : decode cX0_spread 156 = .ok (.iadd, 1) := dk_of dkc_25 (.tail _ (.tail _ (.tail _ (.tail _ (.tail _ (.tail _ (.tail _ (.head _))))))))
theorem dX0_spread_157 : decode cX0_spread 157 = .ok (.aload_n 0, 1) := dk_of dkc_25 (.tail _ (.tail _ (.tail _ (.tail _ (.tail _ (.tail _ (.tail _ (.tail _ (.head _)))))))))
theorem dX0_spread_158 : decode cX0_spread 158 = .ok (.getfield 110, 3) := dk_of dkc_25 (.tail _ (.tail _ (.tail _ (.tail _ (.tail _ (.tail _ (.tail _ (.tail _ (.tail _ (.head _))))))))))
theorem dX0_spread_161 : decode cX0_spread 161 = .ok (.imul, 1) := dk_of dkc_25 (.tail _ (.tail _ (.tail _ (.tail _ (.tail _ (.tail _ (.tail _ (.tail _ (.tail _ (.tail _ (.head _)))))))))))
theorem dX0_spread_162 : decode cX0_spread 162 = .ok (.isub, 1) := dk_of dkc_25 (.tail _ (.tail _ (.tail _ (.tail _ (.tail _ (.tail _ (.tail _ (.tail _ (.tail _ (.tail _ (.tail _ (.head _))))))))))))
theorem dX0_spread_163 : decode cX0_spread 163 = .ok (.iload 5, 2) := dk_of dkc_25 (.tail _ (.tail _ (.tail _ (.tail _ (.tail _ (.tail _ (.tail _ (.tail _ (.tail _ (.tail _ (.tail _ (.tail _ (.head _)))))))))))))
theorem dX0_spread_165 : decode cX0_spread 165 = .ok (.aload_n 0, 1) := dk_of dkc_25 (.tail _ (.tail _ (.tail _ (.tail _ (.tail _ (.tail _ (.tail _ (.tail _ (.tail _ (.tail _ (.tail _ (.tail _ (.tail _ (.head _))))))))))))))
theorem dX0_spread_166 : decode cX0_spread 166 = .ok (.getfield 104, 3) := dk_of dkc_25 (.tail _ (.tail _ (.tail _ (.tail _ (.tail _ (.tail _ (.tail _ (.tail _ (.tail _ (.tail _ (.tail _ (.tail _ (.tail _ (.tail _ (.head _)))))))))))))))
theorem dX0_spread_169 : decode cX0_spread 169 = .ok (.iconst 1, 1) := dk_of dkc_25 (.tail _ (.tail _ (.tail _ (.tail _ (.tail _ (.tail _ (.tail _ (.tail _ (.tail _ (.tail _ (.tail _ (.tail _ (.tail _ (.tail _ (.tail _ (.head _))))))))))))))))
def dkl_26 : List (Nat × Instr × Nat) := [(170, (.iadd, 1)), (171, (.aload_n 0, 1)), (172, (.getfield 116, 3)), (175, (.imul, 1)), (176, (.isub, 1)), (177, (.invokevirtual 143, 3)), (180, (.lsub, 1)), (181, (.lastore, 1)), (182, (.iinc 4 1, 3)), (185, (.goto (-123), 3)), (188, (.iinc 2 1, 3)), (191, (.goto (-162), 3)), (194, (.return_, 1))]
theorem dkc_26 : ck9 ((bl9 cX0_spread).drop 170) 170 dkl_26 = true := by decide +kernel
theorem dX0_spread_170 : decode cX0_spread 170 = .ok (.iadd, 1) := dk_of dkc_26 (.head _)
theorem dX0_spread_171 : decode cX0_spread 171 = .ok (.aload_n 0, 1) := dk_of dkc_26 (.tail _ (.head _))
theorem dX0_spread_172 : decode cX0_spread 172 = .ok (.getfield 116, 3) := dk_of dkc_26 (.tail _ (.tail _ (.head _)))
theorem dX0_spread_175 : decode cX0_spread 175 = .ok (.imul, 1) := dk_of dkc_26 (.tail _ (.tail _ (.tail _ (.head _))))
theorem dX0_spread_176 : decode cX0_spread 176 = .ok (.isub, 1) := dk_of dkc_26 (.tail _ (.tail _ (.tail _ (.tail _ (.head _)))))
theorem dX0_spread_177 : decode cX0_spread 177 = .ok (.invokevirtual 143, 3) := dk_of dkc_26 (.tail _ (.tail _ (.tail _ (.tail _ (.tail _ (.head _))))))
theorem dX0_spread_180 : decode cX0_spread 180 = .ok (.lsub, 1) := dk_of dkc_26 (.tail _ (.tail _ (.tail _ (.tail _ (.tail _ (.tail _ (.head _)))))))
theorem dX0_spread_181 : decode cX0_spread 181 = .ok (.lastore, 1) := dk_of dkc_26 (.tail _ (.tail _ (.tail _ (.tail _ (.tail _ (.tail _ (.tail _ (.head _))))))))
theorem dX0_spread_182 : decode cX0_spread 182 = .ok (.iinc 4 1, 3) := dk_of dkc_26 (.tail _ (.tail _ (.tail _ (.tail _ (.tail _ (.tail _ (.tail _ (.tail _ (.head _)))))))))
theorem dX0_spread_185 : decode cX0_spread 185 = .ok (.goto (-123), 3) := dk_of dkc_26 (.tail _ (.tail _ (.tail _ (.tail _ (.tail _ (.tail _ (.tail _ (.tail _ (.tail _ (.head _))))))))))
theorem dX0_spread_188 : decode cX0_spread 188 = .ok (.iinc 2 1, 3) := dk_of dkc_26 (.tail _ (.tail _ (.tail _ (.tail _ (.tail _ (.tail _ (.tail _ (.tail _ (.tail _ (.tail _ (.head _)))))))))))
theorem dX0_spread_191 : decode cX0_spread 191 = .ok (.goto (-162), 3) := dk_of dkc_26 (.tail _ (.tail _ (.tail _ (.tail _ (.tail _ (.tail _ (.tail _ (.tail _ (.tail _ (.tail _ (.tail _ (.head _))))))))))))
theorem dX0_spread_194 : decode cX0_spread 194 = .ok (.return_, 1) := dk_of dkc_26 (.tail _ (.tail _ (.tail _ (.tail _ (.tail _ (.tail _ (.tail _ (.tail _ (.tail _ (.tail _ (.tail _ (.tail _ (.head _)))))))))))))
def dkl_27 : List (Nat × Instr × Nat) := [(0, (.aload_n 0, 1)), (1, (.iload_n 1, 1)), (2, (.aload_n 0, 1)), (3, (.iload_n 2, 1)), (4, (.iload_n 3, 1)), (5, (.invokevirtual 49, 3)), (8, (.invokevirtual 147, 3)), (11, (.ireturn, 1))]
theorem dkc_27 : ck9 ((bl9 cX0_fewestFrom).drop 0) 0 dkl_27 = true := by decide +kernel
theorem dX0_fewestFrom_0 : decode cX0_fewestFrom 0 = .ok (.aload_n 0, 1) := dk_of dkc_27 (.head _)
theorem dX0_fewestFrom_1 : decode cX0_fewestFrom 1 = .ok (.iload_n 1, 1) := dk_of dkc_27 (.tail _ (.head _))
theorem dX0_fewestFrom_2 : decode cX0_fewestFrom 2 = .ok (.aload_n 0, 1) := dk_of dkc_27 (.tail _ (.tail _ (.head _)))
theorem dX0_fewestFrom_3 : decode cX0_fewestFrom 3 = .ok (.iload_n 2, 1) := dk_of dkc_27 (.tail _ (.tail _ (.tail _ (.head _))))
theorem dX0_fewestFrom_4 : decode cX0_fewestFrom 4 = .ok (.iload_n 3, 1) := dk_of dkc_27 (.tail _ (.tail _ (.tail _ (.tail _ (.head _)))))
theorem dX0_fewestFrom_5 : decode cX0_fewestFrom 5 = .ok (.invokevirtual 49, 3) := dk_of dkc_27 (.tail _ (.tail _ (.tail _ (.tail _ (.tail _ (.head _))))))
theorem dX0_fewestFrom_8 : decode cX0_fewestFrom 8 = .ok (.invokevirtual 147, 3) := dk_of dkc_27 (.tail _ (.tail _ (.tail _ (.tail _ (.tail _ (.tail _ (.head _)))))))
theorem dX0_fewestFrom_11 : decode cX0_fewestFrom 11 = .ok (.ireturn, 1) := dk_of dkc_27 (.tail _ (.tail _ (.tail _ (.tail _ (.tail _ (.tail _ (.tail _ (.head _))))))))
def dkl_28 : List (Nat × Instr × Nat) := [(0, (.iload_n 2, 1)), (1, (.ifCond .lt 20, 3)), (4, (.iload_n 2, 1)), (5, (.sipush 6561, 3)), (8, (.if_icmp .ge 13, 3)), (11, (.iload_n 1, 1)), (12, (.ifCond .lt 9, 3)), (15, (.iload_n 1, 1)), (16, (.bipush 24, 2)), (18, (.if_icmp .le 8, 3)), (21, (.ldc 81, 2)), (23, (.goto 15, 3)), (26, (.aload_n 0, 1)), (27, (.getfield 19, 3)), (30, (.iload_n 1, 1)), (31, (.sipush 6561, 3))]
theorem dkc_28 : ck9 ((bl9 cX0_fewestAt).drop 0) 0 dkl_28 = true := by decide +kernel
theorem dX0_fewestAt_0 : decode cX0_fewestAt 0 = .ok (.iload_n 2, 1) := dk_of dkc_28 (.head _)
theorem dX0_fewestAt_1 : decode cX0_fewestAt 1 = .ok (.ifCond .lt 20, 3) := dk_of dkc_28 (.tail _ (.head _))
theorem dX0_fewestAt_4 : decode cX0_fewestAt 4 = .ok (.iload_n 2, 1) := dk_of dkc_28 (.tail _ (.tail _ (.head _)))
theorem dX0_fewestAt_5 : decode cX0_fewestAt 5 = .ok (.sipush 6561, 3) := dk_of dkc_28 (.tail _ (.tail _ (.tail _ (.head _))))
theorem dX0_fewestAt_8 : decode cX0_fewestAt 8 = .ok (.if_icmp .ge 13, 3) := dk_of dkc_28 (.tail _ (.tail _ (.tail _ (.tail _ (.head _)))))
theorem dX0_fewestAt_11 : decode cX0_fewestAt 11 = .ok (.iload_n 1, 1) := dk_of dkc_28 (.tail _ (.tail _ (.tail _ (.tail _ (.tail _ (.head _))))))
theorem dX0_fewestAt_12 : decode cX0_fewestAt 12 = .ok (.ifCond .lt 9, 3) := dk_of dkc_28 (.tail _ (.tail _ (.tail _ (.tail _ (.tail _ (.tail _ (.head _)))))))
theorem dX0_fewestAt_15 : decode cX0_fewestAt 15 = .ok (.iload_n 1, 1) := dk_of dkc_28 (.tail _ (.tail _ (.tail _ (.tail _ (.tail _ (.tail _ (.tail _ (.head _))))))))
theorem dX0_fewestAt_16 : decode cX0_fewestAt 16 = .ok (.bipush 24, 2) := dk_of dkc_28 (.tail _ (.tail _ (.tail _ (.tail _ (.tail _ (.tail _ (.tail _ (.tail _ (.head _)))))))))
theorem dX0_fewestAt_18 : decode cX0_fewestAt 18 = .ok (.if_icmp .le 8, 3) := dk_of dkc_28 (.tail _ (.tail _ (.tail _ (.tail _ (.tail _ (.tail _ (.tail _ (.tail _ (.tail _ (.head _))))))))))
theorem dX0_fewestAt_21 : decode cX0_fewestAt 21 = .ok (.ldc 81, 2) := dk_of dkc_28 (.tail _ (.tail _ (.tail _ (.tail _ (.tail _ (.tail _ (.tail _ (.tail _ (.tail _ (.tail _ (.head _)))))))))))
theorem dX0_fewestAt_23 : decode cX0_fewestAt 23 = .ok (.goto 15, 3) := dk_of dkc_28 (.tail _ (.tail _ (.tail _ (.tail _ (.tail _ (.tail _ (.tail _ (.tail _ (.tail _ (.tail _ (.tail _ (.head _))))))))))))
theorem dX0_fewestAt_26 : decode cX0_fewestAt 26 = .ok (.aload_n 0, 1) := dk_of dkc_28 (.tail _ (.tail _ (.tail _ (.tail _ (.tail _ (.tail _ (.tail _ (.tail _ (.tail _ (.tail _ (.tail _ (.tail _ (.head _)))))))))))))
theorem dX0_fewestAt_27 : decode cX0_fewestAt 27 = .ok (.getfield 19, 3) := dk_of dkc_28 (.tail _ (.tail _ (.tail _ (.tail _ (.tail _ (.tail _ (.tail _ (.tail _ (.tail _ (.tail _ (.tail _ (.tail _ (.tail _ (.head _))))))))))))))
theorem dX0_fewestAt_30 : decode cX0_fewestAt 30 = .ok (.iload_n 1, 1) := dk_of dkc_28 (.tail _ (.tail _ (.tail _ (.tail _ (.tail _ (.tail _ (.tail _ (.tail _ (.tail _ (.tail _ (.tail _ (.tail _ (.tail _ (.tail _ (.head _)))))))))))))))
theorem dX0_fewestAt_31 : decode cX0_fewestAt 31 = .ok (.sipush 6561, 3) := dk_of dkc_28 (.tail _ (.tail _ (.tail _ (.tail _ (.tail _ (.tail _ (.tail _ (.tail _ (.tail _ (.tail _ (.tail _ (.tail _ (.tail _ (.tail _ (.tail _ (.head _))))))))))))))))
def dkl_29 : List (Nat × Instr × Nat) := [(34, (.imul, 1)), (35, (.iload_n 2, 1)), (36, (.iadd, 1)), (37, (.iaload, 1)), (38, (.ireturn, 1))]
theorem dkc_29 : ck9 ((bl9 cX0_fewestAt).drop 34) 34 dkl_29 = true := by decide +kernel
theorem dX0_fewestAt_34 : decode cX0_fewestAt 34 = .ok (.imul, 1) := dk_of dkc_29 (.head _)
theorem dX0_fewestAt_35 : decode cX0_fewestAt 35 = .ok (.iload_n 2, 1) := dk_of dkc_29 (.tail _ (.head _))
theorem dX0_fewestAt_36 : decode cX0_fewestAt 36 = .ok (.iadd, 1) := dk_of dkc_29 (.tail _ (.tail _ (.head _)))
theorem dX0_fewestAt_37 : decode cX0_fewestAt 37 = .ok (.iaload, 1) := dk_of dkc_29 (.tail _ (.tail _ (.tail _ (.head _))))
theorem dX0_fewestAt_38 : decode cX0_fewestAt 38 = .ok (.ireturn, 1) := dk_of dkc_29 (.tail _ (.tail _ (.tail _ (.tail _ (.head _)))))
def dkl_30 : List (Nat × Instr × Nat) := [(0, (.aload_n 0, 1)), (1, (.iload_n 2, 1)), (2, (.iload_n 3, 1)), (3, (.invokevirtual 49, 3)), (6, (.istore 5, 2)), (8, (.iload 5, 2)), (10, (.ifCond .lt 28, 3)), (13, (.iload_n 1, 1)), (14, (.ifCond .lt 24, 3)), (17, (.iload_n 1, 1)), (18, (.bipush 24, 2)), (20, (.if_icmp .gt 18, 3)), (23, (.aload_n 0, 1)), (24, (.getfield 19, 3)), (27, (.iload_n 1, 1)), (28, (.sipush 6561, 3))]
theorem dkc_30 : ck9 ((bl9 cX0_setFewest).drop 0) 0 dkl_30 = true := by decide +kernel
theorem dX0_setFewest_0 : decode cX0_setFewest 0 = .ok (.aload_n 0, 1) := dk_of dkc_30 (.head _)
theorem dX0_setFewest_1 : decode cX0_setFewest 1 = .ok (.iload_n 2, 1) := dk_of dkc_30 (.tail _ (.head _))
theorem dX0_setFewest_2 : decode cX0_setFewest 2 = .ok (.iload_n 3, 1) := dk_of dkc_30 (.tail _ (.tail _ (.head _)))
theorem dX0_setFewest_3 : decode cX0_setFewest 3 = .ok (.invokevirtual 49, 3) := dk_of dkc_30 (.tail _ (.tail _ (.tail _ (.head _))))
theorem dX0_setFewest_6 : decode cX0_setFewest 6 = .ok (.istore 5, 2) := dk_of dkc_30 (.tail _ (.tail _ (.tail _ (.tail _ (.head _)))))
theorem dX0_setFewest_8 : decode cX0_setFewest 8 = .ok (.iload 5, 2) := dk_of dkc_30 (.tail _ (.tail _ (.tail _ (.tail _ (.tail _ (.head _))))))
theorem dX0_setFewest_10 : decode cX0_setFewest 10 = .ok (.ifCond .lt 28, 3) := dk_of dkc_30 (.tail _ (.tail _ (.tail _ (.tail _ (.tail _ (.tail _ (.head _)))))))
theorem dX0_setFewest_13 : decode cX0_setFewest 13 = .ok (.iload_n 1, 1) := dk_of dkc_30 (.tail _ (.tail _ (.tail _ (.tail _ (.tail _ (.tail _ (.tail _ (.head _))))))))
theorem dX0_setFewest_14 : decode cX0_setFewest 14 = .ok (.ifCond .lt 24, 3) := dk_of dkc_30 (.tail _ (.tail _ (.tail _ (.tail _ (.tail _ (.tail _ (.tail _ (.tail _ (.head _)))))))))
theorem dX0_setFewest_17 : decode cX0_setFewest 17 = .ok (.iload_n 1, 1) := dk_of dkc_30 (.tail _ (.tail _ (.tail _ (.tail _ (.tail _ (.tail _ (.tail _ (.tail _ (.tail _ (.head _))))))))))
theorem dX0_setFewest_18 : decode cX0_setFewest 18 = .ok (.bipush 24, 2) := dk_of dkc_30 (.tail _ (.tail _ (.tail _ (.tail _ (.tail _ (.tail _ (.tail _ (.tail _ (.tail _ (.tail _ (.head _)))))))))))
theorem dX0_setFewest_20 : decode cX0_setFewest 20 = .ok (.if_icmp .gt 18, 3) := dk_of dkc_30 (.tail _ (.tail _ (.tail _ (.tail _ (.tail _ (.tail _ (.tail _ (.tail _ (.tail _ (.tail _ (.tail _ (.head _))))))))))))
theorem dX0_setFewest_23 : decode cX0_setFewest 23 = .ok (.aload_n 0, 1) := dk_of dkc_30 (.tail _ (.tail _ (.tail _ (.tail _ (.tail _ (.tail _ (.tail _ (.tail _ (.tail _ (.tail _ (.tail _ (.tail _ (.head _)))))))))))))
theorem dX0_setFewest_24 : decode cX0_setFewest 24 = .ok (.getfield 19, 3) := dk_of dkc_30 (.tail _ (.tail _ (.tail _ (.tail _ (.tail _ (.tail _ (.tail _ (.tail _ (.tail _ (.tail _ (.tail _ (.tail _ (.tail _ (.head _))))))))))))))
theorem dX0_setFewest_27 : decode cX0_setFewest 27 = .ok (.iload_n 1, 1) := dk_of dkc_30 (.tail _ (.tail _ (.tail _ (.tail _ (.tail _ (.tail _ (.tail _ (.tail _ (.tail _ (.tail _ (.tail _ (.tail _ (.tail _ (.tail _ (.head _)))))))))))))))
theorem dX0_setFewest_28 : decode cX0_setFewest 28 = .ok (.sipush 6561, 3) := dk_of dkc_30 (.tail _ (.tail _ (.tail _ (.tail _ (.tail _ (.tail _ (.tail _ (.tail _ (.tail _ (.tail _ (.tail _ (.tail _ (.tail _ (.tail _ (.tail _ (.head _))))))))))))))))
def dkl_31 : List (Nat × Instr × Nat) := [(31, (.imul, 1)), (32, (.iload 5, 2)), (34, (.iadd, 1)), (35, (.iload 4, 2)), (37, (.iastore, 1)), (38, (.return_, 1))]
theorem dkc_31 : ck9 ((bl9 cX0_setFewest).drop 31) 31 dkl_31 = true := by decide +kernel
theorem dX0_setFewest_31 : decode cX0_setFewest 31 = .ok (.imul, 1) := dk_of dkc_31 (.head _)
theorem dX0_setFewest_32 : decode cX0_setFewest 32 = .ok (.iload 5, 2) := dk_of dkc_31 (.tail _ (.head _))
theorem dX0_setFewest_34 : decode cX0_setFewest 34 = .ok (.iadd, 1) := dk_of dkc_31 (.tail _ (.tail _ (.head _)))
theorem dX0_setFewest_35 : decode cX0_setFewest 35 = .ok (.iload 4, 2) := dk_of dkc_31 (.tail _ (.tail _ (.tail _ (.head _))))
theorem dX0_setFewest_37 : decode cX0_setFewest 37 = .ok (.iastore, 1) := dk_of dkc_31 (.tail _ (.tail _ (.tail _ (.tail _ (.head _)))))
theorem dX0_setFewest_38 : decode cX0_setFewest 38 = .ok (.return_, 1) := dk_of dkc_31 (.tail _ (.tail _ (.tail _ (.tail _ (.tail _ (.head _))))))
def dkl_32 : List (Nat × Instr × Nat) := [(0, (.aload_n 0, 1)), (1, (.getfield 123, 3)), (4, (.istore_n 2, 1)), (5, (.iload_n 2, 1)), (6, (.aload_n 0, 1)), (7, (.getfield 123, 3)), (10, (.aload_n 0, 1)), (11, (.getfield 134, 3)), (14, (.iadd, 1)), (15, (.if_icmp .ge 45, 3)), (18, (.aload_n 0, 1)), (19, (.getfield 129, 3)), (22, (.istore_n 3, 1)), (23, (.iload_n 3, 1)), (24, (.aload_n 0, 1)), (25, (.getfield 129, 3))]
theorem dkc_32 : ck9 ((bl9 cX0_lastRow).drop 0) 0 dkl_32 = true := by decide +kernel
theorem dX0_lastRow_0 : decode cX0_lastRow 0 = .ok (.aload_n 0, 1) := dk_of dkc_32 (.head _)
theorem dX0_lastRow_1 : decode cX0_lastRow 1 = .ok (.getfield 123, 3) := dk_of dkc_32 (.tail _ (.head _))
theorem dX0_lastRow_4 : decode cX0_lastRow 4 = .ok (.istore_n 2, 1) := dk_of dkc_32 (.tail _ (.tail _ (.head _)))
theorem dX0_lastRow_5 : decode cX0_lastRow 5 = .ok (.iload_n 2, 1) := dk_of dkc_32 (.tail _ (.tail _ (.tail _ (.head _))))
theorem dX0_lastRow_6 : decode cX0_lastRow 6 = .ok (.aload_n 0, 1) := dk_of dkc_32 (.tail _ (.tail _ (.tail _ (.tail _ (.head _)))))
theorem dX0_lastRow_7 : decode cX0_lastRow 7 = .ok (.getfield 123, 3) := dk_of dkc_32 (.tail _ (.tail _ (.tail _ (.tail _ (.tail _ (.head _))))))
theorem dX0_lastRow_10 : decode cX0_lastRow 10 = .ok (.aload_n 0, 1) := dk_of dkc_32 (.tail _ (.tail _ (.tail _ (.tail _ (.tail _ (.tail _ (.head _)))))))
theorem dX0_lastRow_11 : decode cX0_lastRow 11 = .ok (.getfield 134, 3) := dk_of dkc_32 (.tail _ (.tail _ (.tail _ (.tail _ (.tail _ (.tail _ (.tail _ (.head _))))))))
theorem dX0_lastRow_14 : decode cX0_lastRow 14 = .ok (.iadd, 1) := dk_of dkc_32 (.tail _ (.tail _ (.tail _ (.tail _ (.tail _ (.tail _ (.tail _ (.tail _ (.head _)))))))))
theorem dX0_lastRow_15 : decode cX0_lastRow 15 = .ok (.if_icmp .ge 45, 3) := dk_of dkc_32 (.tail _ (.tail _ (.tail _ (.tail _ (.tail _ (.tail _ (.tail _ (.tail _ (.tail _ (.head _))))))))))
theorem dX0_lastRow_18 : decode cX0_lastRow 18 = .ok (.aload_n 0, 1) := dk_of dkc_32 (.tail _ (.tail _ (.tail _ (.tail _ (.tail _ (.tail _ (.tail _ (.tail _ (.tail _ (.tail _ (.head _)))))))))))
theorem dX0_lastRow_19 : decode cX0_lastRow 19 = .ok (.getfield 129, 3) := dk_of dkc_32 (.tail _ (.tail _ (.tail _ (.tail _ (.tail _ (.tail _ (.tail _ (.tail _ (.tail _ (.tail _ (.tail _ (.head _))))))))))))
theorem dX0_lastRow_22 : decode cX0_lastRow 22 = .ok (.istore_n 3, 1) := dk_of dkc_32 (.tail _ (.tail _ (.tail _ (.tail _ (.tail _ (.tail _ (.tail _ (.tail _ (.tail _ (.tail _ (.tail _ (.tail _ (.head _)))))))))))))
theorem dX0_lastRow_23 : decode cX0_lastRow 23 = .ok (.iload_n 3, 1) := dk_of dkc_32 (.tail _ (.tail _ (.tail _ (.tail _ (.tail _ (.tail _ (.tail _ (.tail _ (.tail _ (.tail _ (.tail _ (.tail _ (.tail _ (.head _))))))))))))))
theorem dX0_lastRow_24 : decode cX0_lastRow 24 = .ok (.aload_n 0, 1) := dk_of dkc_32 (.tail _ (.tail _ (.tail _ (.tail _ (.tail _ (.tail _ (.tail _ (.tail _ (.tail _ (.tail _ (.tail _ (.tail _ (.tail _ (.tail _ (.head _)))))))))))))))
theorem dX0_lastRow_25 : decode cX0_lastRow 25 = .ok (.getfield 129, 3) := dk_of dkc_32 (.tail _ (.tail _ (.tail _ (.tail _ (.tail _ (.tail _ (.tail _ (.tail _ (.tail _ (.tail _ (.tail _ (.tail _ (.tail _ (.tail _ (.tail _ (.head _))))))))))))))))
def dkl_33 : List (Nat × Instr × Nat) := [(28, (.aload_n 0, 1)), (29, (.getfield 140, 3)), (32, (.iadd, 1)), (33, (.if_icmp .ge 21, 3)), (36, (.aload_n 0, 1)), (37, (.aload_n 1, 1)), (38, (.getfield 53, 3)), (41, (.iload_n 2, 1)), (42, (.iload_n 3, 1)), (43, (.ldc 81, 2)), (45, (.invokevirtual 150, 3)), (48, (.iinc 3 1, 3)), (51, (.goto (-28), 3)), (54, (.iinc 2 1, 3)), (57, (.goto (-52), 3)), (60, (.aload_n 0, 1))]
theorem dkc_33 : ck9 ((bl9 cX0_lastRow).drop 28) 28 dkl_33 = true := by decide +kernel
theorem dX0_lastRow_28 : decode cX0_lastRow 28 = .ok (.aload_n 0, 1) := dk_of dkc_33 (.head _)
theorem dX0_lastRow_29 : decode cX0_lastRow 29 = .ok (.getfield 140, 3) := dk_of dkc_33 (.tail _ (.head _))
theorem dX0_lastRow_32 : decode cX0_lastRow 32 = .ok (.iadd, 1) := dk_of dkc_33 (.tail _ (.tail _ (.head _)))
theorem dX0_lastRow_33 : decode cX0_lastRow 33 = .ok (.if_icmp .ge 21, 3) := dk_of dkc_33 (.tail _ (.tail _ (.tail _ (.head _))))
theorem dX0_lastRow_36 : decode cX0_lastRow 36 = .ok (.aload_n 0, 1) := dk_of dkc_33 (.tail _ (.tail _ (.tail _ (.tail _ (.head _)))))
theorem dX0_lastRow_37 : decode cX0_lastRow 37 = .ok (.aload_n 1, 1) := dk_of dkc_33 (.tail _ (.tail _ (.tail _ (.tail _ (.tail _ (.head _))))))
theorem dX0_lastRow_38 : decode cX0_lastRow 38 = .ok (.getfield 53, 3) := dk_of dkc_33 (.tail _ (.tail _ (.tail _ (.tail _ (.tail _ (.tail _ (.head _)))))))
theorem dX0_lastRow_41 : decode cX0_lastRow 41 = .ok (.iload_n 2, 1) := dk_of dkc_33 (.tail _ (.tail _ (.tail _ (.tail _ (.tail _ (.tail _ (.tail _ (.head _))))))))
theorem dX0_lastRow_42 : decode cX0_lastRow 42 = .ok (.iload_n 3, 1) := dk_of dkc_33 (.tail _ (.tail _ (.tail _ (.tail _ (.tail _ (.tail _ (.tail _ (.tail _ (.head _)))))))))
theorem dX0_lastRow_43 : decode cX0_lastRow 43 = .ok (.ldc 81, 2) := dk_of dkc_33 (.tail _ (.tail _ (.tail _ (.tail _ (.tail _ (.tail _ (.tail _ (.tail _ (.tail _ (.head _))))))))))
theorem dX0_lastRow_45 : decode cX0_lastRow 45 = .ok (.invokevirtual 150, 3) := dk_of dkc_33 (.tail _ (.tail _ (.tail _ (.tail _ (.tail _ (.tail _ (.tail _ (.tail _ (.tail _ (.tail _ (.head _)))))))))))
theorem dX0_lastRow_48 : decode cX0_lastRow 48 = .ok (.iinc 3 1, 3) := dk_of dkc_33 (.tail _ (.tail _ (.tail _ (.tail _ (.tail _ (.tail _ (.tail _ (.tail _ (.tail _ (.tail _ (.tail _ (.head _))))))))))))
theorem dX0_lastRow_51 : decode cX0_lastRow 51 = .ok (.goto (-28), 3) := dk_of dkc_33 (.tail _ (.tail _ (.tail _ (.tail _ (.tail _ (.tail _ (.tail _ (.tail _ (.tail _ (.tail _ (.tail _ (.tail _ (.head _)))))))))))))
theorem dX0_lastRow_54 : decode cX0_lastRow 54 = .ok (.iinc 2 1, 3) := dk_of dkc_33 (.tail _ (.tail _ (.tail _ (.tail _ (.tail _ (.tail _ (.tail _ (.tail _ (.tail _ (.tail _ (.tail _ (.tail _ (.tail _ (.head _))))))))))))))
theorem dX0_lastRow_57 : decode cX0_lastRow 57 = .ok (.goto (-52), 3) := dk_of dkc_33 (.tail _ (.tail _ (.tail _ (.tail _ (.tail _ (.tail _ (.tail _ (.tail _ (.tail _ (.tail _ (.tail _ (.tail _ (.tail _ (.tail _ (.head _)))))))))))))))
theorem dX0_lastRow_60 : decode cX0_lastRow 60 = .ok (.aload_n 0, 1) := dk_of dkc_33 (.tail _ (.tail _ (.tail _ (.tail _ (.tail _ (.tail _ (.tail _ (.tail _ (.tail _ (.tail _ (.tail _ (.tail _ (.tail _ (.tail _ (.tail _ (.head _))))))))))))))))
def dkl_34 : List (Nat × Instr × Nat) := [(61, (.aload_n 1, 1)), (62, (.getfield 53, 3)), (65, (.aload_n 1, 1)), (66, (.iconst 0, 1)), (67, (.invokevirtual 40, 3)), (70, (.aload_n 1, 1)), (71, (.iconst 0, 1)), (72, (.invokevirtual 46, 3)), (75, (.iconst 0, 1)), (76, (.invokevirtual 150, 3)), (79, (.return_, 1))]
theorem dkc_34 : ck9 ((bl9 cX0_lastRow).drop 61) 61 dkl_34 = true := by decide +kernel
theorem dX0_lastRow_61 : decode cX0_lastRow 61 = .ok (.aload_n 1, 1) := dk_of dkc_34 (.head _)
theorem dX0_lastRow_62 : decode cX0_lastRow 62 = .ok (.getfield 53, 3) := dk_of dkc_34 (.tail _ (.head _))
theorem dX0_lastRow_65 : decode cX0_lastRow 65 = .ok (.aload_n 1, 1) := dk_of dkc_34 (.tail _ (.tail _ (.head _)))
theorem dX0_lastRow_66 : decode cX0_lastRow 66 = .ok (.iconst 0, 1) := dk_of dkc_34 (.tail _ (.tail _ (.tail _ (.head _))))
theorem dX0_lastRow_67 : decode cX0_lastRow 67 = .ok (.invokevirtual 40, 3) := dk_of dkc_34 (.tail _ (.tail _ (.tail _ (.tail _ (.head _)))))
theorem dX0_lastRow_70 : decode cX0_lastRow 70 = .ok (.aload_n 1, 1) := dk_of dkc_34 (.tail _ (.tail _ (.tail _ (.tail _ (.tail _ (.head _))))))
theorem dX0_lastRow_71 : decode cX0_lastRow 71 = .ok (.iconst 0, 1) := dk_of dkc_34 (.tail _ (.tail _ (.tail _ (.tail _ (.tail _ (.tail _ (.head _)))))))
theorem dX0_lastRow_72 : decode cX0_lastRow 72 = .ok (.invokevirtual 46, 3) := dk_of dkc_34 (.tail _ (.tail _ (.tail _ (.tail _ (.tail _ (.tail _ (.tail _ (.head _))))))))
theorem dX0_lastRow_75 : decode cX0_lastRow 75 = .ok (.iconst 0, 1) := dk_of dkc_34 (.tail _ (.tail _ (.tail _ (.tail _ (.tail _ (.tail _ (.tail _ (.tail _ (.head _)))))))))
theorem dX0_lastRow_76 : decode cX0_lastRow 76 = .ok (.invokevirtual 150, 3) := dk_of dkc_34 (.tail _ (.tail _ (.tail _ (.tail _ (.tail _ (.tail _ (.tail _ (.tail _ (.tail _ (.head _))))))))))
theorem dX0_lastRow_79 : decode cX0_lastRow 79 = .ok (.return_, 1) := dk_of dkc_34 (.tail _ (.tail _ (.tail _ (.tail _ (.tail _ (.tail _ (.tail _ (.tail _ (.tail _ (.tail _ (.head _)))))))))))
def dkl_35 : List (Nat × Instr × Nat) := [(0, (.aload_n 0, 1)), (1, (.getfield 123, 3)), (4, (.istore_n 2, 1)), (5, (.iload_n 2, 1)), (6, (.aload_n 0, 1)), (7, (.getfield 123, 3)), (10, (.aload_n 0, 1)), (11, (.getfield 134, 3)), (14, (.iadd, 1)), (15, (.if_icmp .ge 47, 3)), (18, (.aload_n 0, 1)), (19, (.getfield 129, 3)), (22, (.istore_n 3, 1)), (23, (.iload_n 3, 1)), (24, (.aload_n 0, 1)), (25, (.getfield 129, 3))]
theorem dkc_35 : ck9 ((bl9 cX0_fillRow).drop 0) 0 dkl_35 = true := by decide +kernel
theorem dX0_fillRow_0 : decode cX0_fillRow 0 = .ok (.aload_n 0, 1) := dk_of dkc_35 (.head _)
theorem dX0_fillRow_1 : decode cX0_fillRow 1 = .ok (.getfield 123, 3) := dk_of dkc_35 (.tail _ (.head _))
theorem dX0_fillRow_4 : decode cX0_fillRow 4 = .ok (.istore_n 2, 1) := dk_of dkc_35 (.tail _ (.tail _ (.head _)))
theorem dX0_fillRow_5 : decode cX0_fillRow 5 = .ok (.iload_n 2, 1) := dk_of dkc_35 (.tail _ (.tail _ (.tail _ (.head _))))
theorem dX0_fillRow_6 : decode cX0_fillRow 6 = .ok (.aload_n 0, 1) := dk_of dkc_35 (.tail _ (.tail _ (.tail _ (.tail _ (.head _)))))
theorem dX0_fillRow_7 : decode cX0_fillRow 7 = .ok (.getfield 123, 3) := dk_of dkc_35 (.tail _ (.tail _ (.tail _ (.tail _ (.tail _ (.head _))))))
theorem dX0_fillRow_10 : decode cX0_fillRow 10 = .ok (.aload_n 0, 1) := dk_of dkc_35 (.tail _ (.tail _ (.tail _ (.tail _ (.tail _ (.tail _ (.head _)))))))
theorem dX0_fillRow_11 : decode cX0_fillRow 11 = .ok (.getfield 134, 3) := dk_of dkc_35 (.tail _ (.tail _ (.tail _ (.tail _ (.tail _ (.tail _ (.tail _ (.head _))))))))
theorem dX0_fillRow_14 : decode cX0_fillRow 14 = .ok (.iadd, 1) := dk_of dkc_35 (.tail _ (.tail _ (.tail _ (.tail _ (.tail _ (.tail _ (.tail _ (.tail _ (.head _)))))))))
theorem dX0_fillRow_15 : decode cX0_fillRow 15 = .ok (.if_icmp .ge 47, 3) := dk_of dkc_35 (.tail _ (.tail _ (.tail _ (.tail _ (.tail _ (.tail _ (.tail _ (.tail _ (.tail _ (.head _))))))))))
theorem dX0_fillRow_18 : decode cX0_fillRow 18 = .ok (.aload_n 0, 1) := dk_of dkc_35 (.tail _ (.tail _ (.tail _ (.tail _ (.tail _ (.tail _ (.tail _ (.tail _ (.tail _ (.tail _ (.head _)))))))))))
theorem dX0_fillRow_19 : decode cX0_fillRow 19 = .ok (.getfield 129, 3) := dk_of dkc_35 (.tail _ (.tail _ (.tail _ (.tail _ (.tail _ (.tail _ (.tail _ (.tail _ (.tail _ (.tail _ (.tail _ (.head _))))))))))))
theorem dX0_fillRow_22 : decode cX0_fillRow 22 = .ok (.istore_n 3, 1) := dk_of dkc_35 (.tail _ (.tail _ (.tail _ (.tail _ (.tail _ (.tail _ (.tail _ (.tail _ (.tail _ (.tail _ (.tail _ (.tail _ (.head _)))))))))))))
theorem dX0_fillRow_23 : decode cX0_fillRow 23 = .ok (.iload_n 3, 1) := dk_of dkc_35 (.tail _ (.tail _ (.tail _ (.tail _ (.tail _ (.tail _ (.tail _ (.tail _ (.tail _ (.tail _ (.tail _ (.tail _ (.tail _ (.head _))))))))))))))
theorem dX0_fillRow_24 : decode cX0_fillRow 24 = .ok (.aload_n 0, 1) := dk_of dkc_35 (.tail _ (.tail _ (.tail _ (.tail _ (.tail _ (.tail _ (.tail _ (.tail _ (.tail _ (.tail _ (.tail _ (.tail _ (.tail _ (.tail _ (.head _)))))))))))))))
theorem dX0_fillRow_25 : decode cX0_fillRow 25 = .ok (.getfield 129, 3) := dk_of dkc_35 (.tail _ (.tail _ (.tail _ (.tail _ (.tail _ (.tail _ (.tail _ (.tail _ (.tail _ (.tail _ (.tail _ (.tail _ (.tail _ (.tail _ (.tail _ (.head _))))))))))))))))
def dkl_36 : List (Nat × Instr × Nat) := [(28, (.aload_n 0, 1)), (29, (.getfield 140, 3)), (32, (.iadd, 1)), (33, (.if_icmp .ge 23, 3)), (36, (.aload_n 0, 1)), (37, (.iload_n 1, 1)), (38, (.iload_n 2, 1)), (39, (.iload_n 3, 1)), (40, (.aload_n 0, 1)), (41, (.iload_n 1, 1)), (42, (.iload_n 2, 1)), (43, (.iload_n 3, 1)), (44, (.invokevirtual 154, 3)), (47, (.invokevirtual 150, 3)), (50, (.iinc 3 1, 3)), (53, (.goto (-30), 3))]
theorem dkc_36 : ck9 ((bl9 cX0_fillRow).drop 28) 28 dkl_36 = true := by decide +kernel
theorem dX0_fillRow_28 : decode cX0_fillRow 28 = .ok (.aload_n 0, 1) := dk_of dkc_36 (.head _)
theorem dX0_fillRow_29 : decode cX0_fillRow 29 = .ok (.getfield 140, 3) := dk_of dkc_36 (.tail _ (.head _))
theorem dX0_fillRow_32 : decode cX0_fillRow 32 = .ok (.iadd, 1) := dk_of dkc_36 (.tail _ (.tail _ (.head _)))
theorem dX0_fillRow_33 : decode cX0_fillRow 33 = .ok (.if_icmp .ge 23, 3) := dk_of dkc_36 (.tail _ (.tail _ (.tail _ (.head _))))
theorem dX0_fillRow_36 : decode cX0_fillRow 36 = .ok (.aload_n 0, 1) := dk_of dkc_36 (.tail _ (.tail _ (.tail _ (.tail _ (.head _)))))
theorem dX0_fillRow_37 : decode cX0_fillRow 37 = .ok (.iload_n 1, 1) := dk_of dkc_36 (.tail _ (.tail _ (.tail _ (.tail _ (.tail _ (.head _))))))
theorem dX0_fillRow_38 : decode cX0_fillRow 38 = .ok (.iload_n 2, 1) := dk_of dkc_36 (.tail _ (.tail _ (.tail _ (.tail _ (.tail _ (.tail _ (.head _)))))))
theorem dX0_fillRow_39 : decode cX0_fillRow 39 = .ok (.iload_n 3, 1) := dk_of dkc_36 (.tail _ (.tail _ (.tail _ (.tail _ (.tail _ (.tail _ (.tail _ (.head _))))))))
theorem dX0_fillRow_40 : decode cX0_fillRow 40 = .ok (.aload_n 0, 1) := dk_of dkc_36 (.tail _ (.tail _ (.tail _ (.tail _ (.tail _ (.tail _ (.tail _ (.tail _ (.head _)))))))))
theorem dX0_fillRow_41 : decode cX0_fillRow 41 = .ok (.iload_n 1, 1) := dk_of dkc_36 (.tail _ (.tail _ (.tail _ (.tail _ (.tail _ (.tail _ (.tail _ (.tail _ (.tail _ (.head _))))))))))
theorem dX0_fillRow_42 : decode cX0_fillRow 42 = .ok (.iload_n 2, 1) := dk_of dkc_36 (.tail _ (.tail _ (.tail _ (.tail _ (.tail _ (.tail _ (.tail _ (.tail _ (.tail _ (.tail _ (.head _)))))))))))
theorem dX0_fillRow_43 : decode cX0_fillRow 43 = .ok (.iload_n 3, 1) := dk_of dkc_36 (.tail _ (.tail _ (.tail _ (.tail _ (.tail _ (.tail _ (.tail _ (.tail _ (.tail _ (.tail _ (.tail _ (.head _))))))))))))
theorem dX0_fillRow_44 : decode cX0_fillRow 44 = .ok (.invokevirtual 154, 3) := dk_of dkc_36 (.tail _ (.tail _ (.tail _ (.tail _ (.tail _ (.tail _ (.tail _ (.tail _ (.tail _ (.tail _ (.tail _ (.tail _ (.head _)))))))))))))
theorem dX0_fillRow_47 : decode cX0_fillRow 47 = .ok (.invokevirtual 150, 3) := dk_of dkc_36 (.tail _ (.tail _ (.tail _ (.tail _ (.tail _ (.tail _ (.tail _ (.tail _ (.tail _ (.tail _ (.tail _ (.tail _ (.tail _ (.head _))))))))))))))
theorem dX0_fillRow_50 : decode cX0_fillRow 50 = .ok (.iinc 3 1, 3) := dk_of dkc_36 (.tail _ (.tail _ (.tail _ (.tail _ (.tail _ (.tail _ (.tail _ (.tail _ (.tail _ (.tail _ (.tail _ (.tail _ (.tail _ (.tail _ (.head _)))))))))))))))
theorem dX0_fillRow_53 : decode cX0_fillRow 53 = .ok (.goto (-30), 3) := dk_of dkc_36 (.tail _ (.tail _ (.tail _ (.tail _ (.tail _ (.tail _ (.tail _ (.tail _ (.tail _ (.tail _ (.tail _ (.tail _ (.tail _ (.tail _ (.tail _ (.head _))))))))))))))))
def dkl_37 : List (Nat × Instr × Nat) := [(56, (.iinc 2 1, 3)), (59, (.goto (-54), 3)), (62, (.return_, 1))]
theorem dkc_37 : ck9 ((bl9 cX0_fillRow).drop 56) 56 dkl_37 = true := by decide +kernel
theorem dX0_fillRow_56 : decode cX0_fillRow 56 = .ok (.iinc 2 1, 3) := dk_of dkc_37 (.head _)
theorem dX0_fillRow_59 : decode cX0_fillRow 59 = .ok (.goto (-54), 3) := dk_of dkc_37 (.tail _ (.head _))
theorem dX0_fillRow_62 : decode cX0_fillRow 62 = .ok (.return_, 1) := dk_of dkc_37 (.tail _ (.tail _ (.head _)))
def dkl_38 : List (Nat × Instr × Nat) := [(0, (.ldc 81, 2)), (2, (.istore 4, 2)), (4, (.iconst 0, 1)), (5, (.istore 5, 2)), (7, (.iload 5, 2)), (9, (.aload_n 0, 1)), (10, (.getfield 104, 3)), (13, (.if_icmp .gt 67, 3)), (16, (.iload 5, 2)), (18, (.iload 4, 2)), (20, (.if_icmp .ge 60, 3)), (23, (.aload_n 0, 1)), (24, (.iload_n 2, 1)), (25, (.iload 5, 2)), (27, (.aload_n 0, 1)), (28, (.getfield 110, 3))]
theorem dkc_38 : ck9 ((bl9 cX0_bestFrom).drop 0) 0 dkl_38 = true := by decide +kernel
theorem dX0_bestFrom_0 : decode cX0_bestFrom 0 = .ok (.ldc 81, 2) := dk_of dkc_38 (.head _)
theorem dX0_bestFrom_2 : decode cX0_bestFrom 2 = .ok (.istore 4, 2) := dk_of dkc_38 (.tail _ (.head _))
theorem dX0_bestFrom_4 : decode cX0_bestFrom 4 = .ok (.iconst 0, 1) := dk_of dkc_38 (.tail _ (.tail _ (.head _)))
theorem dX0_bestFrom_5 : decode cX0_bestFrom 5 = .ok (.istore 5, 2) := dk_of dkc_38 (.tail _ (.tail _ (.tail _ (.head _))))
theorem dX0_bestFrom_7 : decode cX0_bestFrom 7 = .ok (.iload 5, 2) := dk_of dkc_38 (.tail _ (.tail _ (.tail _ (.tail _ (.head _)))))
theorem dX0_bestFrom_9 : decode cX0_bestFrom 9 = .ok (.aload_n 0, 1) := dk_of dkc_38 (.tail _ (.tail _ (.tail _ (.tail _ (.tail _ (.head _))))))
theorem dX0_bestFrom_10 : decode cX0_bestFrom 10 = .ok (.getfield 104, 3) := dk_of dkc_38 (.tail _ (.tail _ (.tail _ (.tail _ (.tail _ (.tail _ (.head _)))))))
theorem dX0_bestFrom_13 : decode cX0_bestFrom 13 = .ok (.if_icmp .gt 67, 3) := dk_of dkc_38 (.tail _ (.tail _ (.tail _ (.tail _ (.tail _ (.tail _ (.tail _ (.head _))))))))
theorem dX0_bestFrom_16 : decode cX0_bestFrom 16 = .ok (.iload 5, 2) := dk_of dkc_38 (.tail _ (.tail _ (.tail _ (.tail _ (.tail _ (.tail _ (.tail _ (.tail _ (.head _)))))))))
theorem dX0_bestFrom_18 : decode cX0_bestFrom 18 = .ok (.iload 4, 2) := dk_of dkc_38 (.tail _ (.tail _ (.tail _ (.tail _ (.tail _ (.tail _ (.tail _ (.tail _ (.tail _ (.head _))))))))))
theorem dX0_bestFrom_20 : decode cX0_bestFrom 20 = .ok (.if_icmp .ge 60, 3) := dk_of dkc_38 (.tail _ (.tail _ (.tail _ (.tail _ (.tail _ (.tail _ (.tail _ (.tail _ (.tail _ (.tail _ (.head _)))))))))))
theorem dX0_bestFrom_23 : decode cX0_bestFrom 23 = .ok (.aload_n 0, 1) := dk_of dkc_38 (.tail _ (.tail _ (.tail _ (.tail _ (.tail _ (.tail _ (.tail _ (.tail _ (.tail _ (.tail _ (.tail _ (.head _))))))))))))
theorem dX0_bestFrom_24 : decode cX0_bestFrom 24 = .ok (.iload_n 2, 1) := dk_of dkc_38 (.tail _ (.tail _ (.tail _ (.tail _ (.tail _ (.tail _ (.tail _ (.tail _ (.tail _ (.tail _ (.tail _ (.tail _ (.head _)))))))))))))
theorem dX0_bestFrom_25 : decode cX0_bestFrom 25 = .ok (.iload 5, 2) := dk_of dkc_38 (.tail _ (.tail _ (.tail _ (.tail _ (.tail _ (.tail _ (.tail _ (.tail _ (.tail _ (.tail _ (.tail _ (.tail _ (.tail _ (.head _))))))))))))))
theorem dX0_bestFrom_27 : decode cX0_bestFrom 27 = .ok (.aload_n 0, 1) := dk_of dkc_38 (.tail _ (.tail _ (.tail _ (.tail _ (.tail _ (.tail _ (.tail _ (.tail _ (.tail _ (.tail _ (.tail _ (.tail _ (.tail _ (.tail _ (.head _)))))))))))))))
theorem dX0_bestFrom_28 : decode cX0_bestFrom 28 = .ok (.getfield 110, 3) := dk_of dkc_38 (.tail _ (.tail _ (.tail _ (.tail _ (.tail _ (.tail _ (.tail _ (.tail _ (.tail _ (.tail _ (.tail _ (.tail _ (.tail _ (.tail _ (.tail _ (.head _))))))))))))))))
def dkl_39 : List (Nat × Instr × Nat) := [(31, (.imul, 1)), (32, (.iadd, 1)), (33, (.iload_n 3, 1)), (34, (.iload 5, 2)), (36, (.aload_n 0, 1)), (37, (.getfield 116, 3)), (40, (.imul, 1)), (41, (.iadd, 1)), (42, (.invokevirtual 49, 3)), (45, (.istore 6, 2)), (47, (.iload 6, 2)), (49, (.ifCond .ge 6, 3)), (52, (.iload 4, 2)), (54, (.ireturn, 1)), (55, (.iload 4, 2)), (57, (.iload 5, 2))]
theorem dkc_39 : ck9 ((bl9 cX0_bestFrom).drop 31) 31 dkl_39 = true := by decide +kernel
theorem dX0_bestFrom_31 : decode cX0_bestFrom 31 = .ok (.imul, 1) := dk_of dkc_39 (.head _)
theorem dX0_bestFrom_32 : decode cX0_bestFrom 32 = .ok (.iadd, 1) := dk_of dkc_39 (.tail _ (.head _))
theorem dX0_bestFrom_33 : decode cX0_bestFrom 33 = .ok (.iload_n 3, 1) := dk_of dkc_39 (.tail _ (.tail _ (.head _)))
theorem dX0_bestFrom_34 : decode cX0_bestFrom 34 = .ok (.iload 5, 2) := dk_of dkc_39 (.tail _ (.tail _ (.tail _ (.head _))))
theorem dX0_bestFrom_36 : decode cX0_bestFrom 36 = .ok (.aload_n 0, 1) := dk_of dkc_39 (.tail _ (.tail _ (.tail _ (.tail _ (.head _)))))
theorem dX0_bestFrom_37 : decode cX0_bestFrom 37 = .ok (.getfield 116, 3) := dk_of dkc_39 (.tail _ (.tail _ (.tail _ (.tail _ (.tail _ (.head _))))))
theorem dX0_bestFrom_40 : decode cX0_bestFrom 40 = .ok (.imul, 1) := dk_of dkc_39 (.tail _ (.tail _ (.tail _ (.tail _ (.tail _ (.tail _ (.head _)))))))
theorem dX0_bestFrom_41 : decode cX0_bestFrom 41 = .ok (.iadd, 1) := dk_of dkc_39 (.tail _ (.tail _ (.tail _ (.tail _ (.tail _ (.tail _ (.tail _ (.head _))))))))
theorem dX0_bestFrom_42 : decode cX0_bestFrom 42 = .ok (.invokevirtual 49, 3) := dk_of dkc_39 (.tail _ (.tail _ (.tail _ (.tail _ (.tail _ (.tail _ (.tail _ (.tail _ (.head _)))))))))
theorem dX0_bestFrom_45 : decode cX0_bestFrom 45 = .ok (.istore 6, 2) := dk_of dkc_39 (.tail _ (.tail _ (.tail _ (.tail _ (.tail _ (.tail _ (.tail _ (.tail _ (.tail _ (.head _))))))))))
theorem dX0_bestFrom_47 : decode cX0_bestFrom 47 = .ok (.iload 6, 2) := dk_of dkc_39 (.tail _ (.tail _ (.tail _ (.tail _ (.tail _ (.tail _ (.tail _ (.tail _ (.tail _ (.tail _ (.head _)))))))))))
theorem dX0_bestFrom_49 : decode cX0_bestFrom 49 = .ok (.ifCond .ge 6, 3) := dk_of dkc_39 (.tail _ (.tail _ (.tail _ (.tail _ (.tail _ (.tail _ (.tail _ (.tail _ (.tail _ (.tail _ (.tail _ (.head _))))))))))))
theorem dX0_bestFrom_52 : decode cX0_bestFrom 52 = .ok (.iload 4, 2) := dk_of dkc_39 (.tail _ (.tail _ (.tail _ (.tail _ (.tail _ (.tail _ (.tail _ (.tail _ (.tail _ (.tail _ (.tail _ (.tail _ (.head _)))))))))))))
theorem dX0_bestFrom_54 : decode cX0_bestFrom 54 = .ok (.ireturn, 1) := dk_of dkc_39 (.tail _ (.tail _ (.tail _ (.tail _ (.tail _ (.tail _ (.tail _ (.tail _ (.tail _ (.tail _ (.tail _ (.tail _ (.tail _ (.head _))))))))))))))
theorem dX0_bestFrom_55 : decode cX0_bestFrom 55 = .ok (.iload 4, 2) := dk_of dkc_39 (.tail _ (.tail _ (.tail _ (.tail _ (.tail _ (.tail _ (.tail _ (.tail _ (.tail _ (.tail _ (.tail _ (.tail _ (.tail _ (.tail _ (.head _)))))))))))))))
theorem dX0_bestFrom_57 : decode cX0_bestFrom 57 = .ok (.iload 5, 2) := dk_of dkc_39 (.tail _ (.tail _ (.tail _ (.tail _ (.tail _ (.tail _ (.tail _ (.tail _ (.tail _ (.tail _ (.tail _ (.tail _ (.tail _ (.tail _ (.tail _ (.head _))))))))))))))))
def dkl_40 : List (Nat × Instr × Nat) := [(59, (.aload_n 0, 1)), (60, (.iload_n 1, 1)), (61, (.iconst 1, 1)), (62, (.iadd, 1)), (63, (.iload 6, 2)), (65, (.invokevirtual 147, 3)), (68, (.iadd, 1)), (69, (.invokestatic 158, 3)), (72, (.istore 4, 2)), (74, (.iinc 5 1, 3)), (77, (.goto (-70), 3)), (80, (.iload 4, 2)), (82, (.ireturn, 1))]
theorem dkc_40 : ck9 ((bl9 cX0_bestFrom).drop 59) 59 dkl_40 = true := by decide +kernel
theorem dX0_bestFrom_59 : decode cX0_bestFrom 59 = .ok (.aload_n 0, 1) := dk_of dkc_40 (.head _)
theorem dX0_bestFrom_60 : decode cX0_bestFrom 60 = .ok (.iload_n 1, 1) := dk_of dkc_40 (.tail _ (.head _))
theorem dX0_bestFrom_61 : decode cX0_bestFrom 61 = .ok (.iconst 1, 1) := dk_of dkc_40 (.tail _ (.tail _ (.head _)))
theorem dX0_bestFrom_62 : decode cX0_bestFrom 62 = .ok (.iadd, 1) := dk_of dkc_40 (.tail _ (.tail _ (.tail _ (.head _))))
theorem dX0_bestFrom_63 : decode cX0_bestFrom 63 = .ok (.iload 6, 2) := dk_of dkc_40 (.tail _ (.tail _ (.tail _ (.tail _ (.head _)))))
theorem dX0_bestFrom_65 : decode cX0_bestFrom 65 = .ok (.invokevirtual 147, 3) := dk_of dkc_40 (.tail _ (.tail _ (.tail _ (.tail _ (.tail _ (.head _))))))
theorem dX0_bestFrom_68 : decode cX0_bestFrom 68 = .ok (.iadd, 1) := dk_of dkc_40 (.tail _ (.tail _ (.tail _ (.tail _ (.tail _ (.tail _ (.head _)))))))
theorem dX0_bestFrom_69 : decode cX0_bestFrom 69 = .ok (.invokestatic 158, 3) := dk_of dkc_40 (.tail _ (.tail _ (.tail _ (.tail _ (.tail _ (.tail _ (.tail _ (.head _))))))))
theorem dX0_bestFrom_72 : decode cX0_bestFrom 72 = .ok (.istore 4, 2) := dk_of dkc_40 (.tail _ (.tail _ (.tail _ (.tail _ (.tail _ (.tail _ (.tail _ (.tail _ (.head _)))))))))
theorem dX0_bestFrom_74 : decode cX0_bestFrom 74 = .ok (.iinc 5 1, 3) := dk_of dkc_40 (.tail _ (.tail _ (.tail _ (.tail _ (.tail _ (.tail _ (.tail _ (.tail _ (.tail _ (.head _))))))))))
theorem dX0_bestFrom_77 : decode cX0_bestFrom 77 = .ok (.goto (-70), 3) := dk_of dkc_40 (.tail _ (.tail _ (.tail _ (.tail _ (.tail _ (.tail _ (.tail _ (.tail _ (.tail _ (.tail _ (.head _)))))))))))
theorem dX0_bestFrom_80 : decode cX0_bestFrom 80 = .ok (.iload 4, 2) := dk_of dkc_40 (.tail _ (.tail _ (.tail _ (.tail _ (.tail _ (.tail _ (.tail _ (.tail _ (.tail _ (.tail _ (.tail _ (.head _))))))))))))
theorem dX0_bestFrom_82 : decode cX0_bestFrom 82 = .ok (.ireturn, 1) := dk_of dkc_40 (.tail _ (.tail _ (.tail _ (.tail _ (.tail _ (.tail _ (.tail _ (.tail _ (.tail _ (.tail _ (.tail _ (.tail _ (.head _)))))))))))))
def dkl_41 : List (Nat × Instr × Nat) := [(0, (.iload_n 2, 1)), (1, (.ifCond .lt 12, 3)), (4, (.iload_n 2, 1)), (5, (.aload_n 0, 1)), (6, (.getfield 23, 3)), (9, (.arraylength, 1)), (10, (.if_icmp .lt 4, 3)), (13, (.return_, 1)), (14, (.iconst 1, 1)), (15, (.istore_n 3, 1)), (16, (.iload_n 3, 1)), (17, (.aload_n 0, 1)), (18, (.getfield 104, 3)), (21, (.if_icmp .gt 71, 3)), (24, (.iload_n 3, 1)), (25, (.aload_n 0, 1))]
theorem dkc_41 : ck9 ((bl9 cX0_beginAt).drop 0) 0 dkl_41 = true := by decide +kernel
theorem dX0_beginAt_0 : decode cX0_beginAt 0 = .ok (.iload_n 2, 1) := dk_of dkc_41 (.head _)
theorem dX0_beginAt_1 : decode cX0_beginAt 1 = .ok (.ifCond .lt 12, 3) := dk_of dkc_41 (.tail _ (.head _))
theorem dX0_beginAt_4 : decode cX0_beginAt 4 = .ok (.iload_n 2, 1) := dk_of dkc_41 (.tail _ (.tail _ (.head _)))
theorem dX0_beginAt_5 : decode cX0_beginAt 5 = .ok (.aload_n 0, 1) := dk_of dkc_41 (.tail _ (.tail _ (.tail _ (.head _))))
theorem dX0_beginAt_6 : decode cX0_beginAt 6 = .ok (.getfield 23, 3) := dk_of dkc_41 (.tail _ (.tail _ (.tail _ (.tail _ (.head _)))))
theorem dX0_beginAt_9 : decode cX0_beginAt 9 = .ok (.arraylength, 1) := dk_of dkc_41 (.tail _ (.tail _ (.tail _ (.tail _ (.tail _ (.head _))))))
theorem dX0_beginAt_10 : decode cX0_beginAt 10 = .ok (.if_icmp .lt 4, 3) := dk_of dkc_41 (.tail _ (.tail _ (.tail _ (.tail _ (.tail _ (.tail _ (.head _)))))))
theorem dX0_beginAt_13 : decode cX0_beginAt 13 = .ok (.return_, 1) := dk_of dkc_41 (.tail _ (.tail _ (.tail _ (.tail _ (.tail _ (.tail _ (.tail _ (.head _))))))))
theorem dX0_beginAt_14 : decode cX0_beginAt 14 = .ok (.iconst 1, 1) := dk_of dkc_41 (.tail _ (.tail _ (.tail _ (.tail _ (.tail _ (.tail _ (.tail _ (.tail _ (.head _)))))))))
theorem dX0_beginAt_15 : decode cX0_beginAt 15 = .ok (.istore_n 3, 1) := dk_of dkc_41 (.tail _ (.tail _ (.tail _ (.tail _ (.tail _ (.tail _ (.tail _ (.tail _ (.tail _ (.head _))))))))))
theorem dX0_beginAt_16 : decode cX0_beginAt 16 = .ok (.iload_n 3, 1) := dk_of dkc_41 (.tail _ (.tail _ (.tail _ (.tail _ (.tail _ (.tail _ (.tail _ (.tail _ (.tail _ (.tail _ (.head _)))))))))))
theorem dX0_beginAt_17 : decode cX0_beginAt 17 = .ok (.aload_n 0, 1) := dk_of dkc_41 (.tail _ (.tail _ (.tail _ (.tail _ (.tail _ (.tail _ (.tail _ (.tail _ (.tail _ (.tail _ (.tail _ (.head _))))))))))))
theorem dX0_beginAt_18 : decode cX0_beginAt 18 = .ok (.getfield 104, 3) := dk_of dkc_41 (.tail _ (.tail _ (.tail _ (.tail _ (.tail _ (.tail _ (.tail _ (.tail _ (.tail _ (.tail _ (.tail _ (.tail _ (.head _)))))))))))))
theorem dX0_beginAt_21 : decode cX0_beginAt 21 = .ok (.if_icmp .gt 71, 3) := dk_of dkc_41 (.tail _ (.tail _ (.tail _ (.tail _ (.tail _ (.tail _ (.tail _ (.tail _ (.tail _ (.tail _ (.tail _ (.tail _ (.tail _ (.head _))))))))))))))
theorem dX0_beginAt_24 : decode cX0_beginAt 24 = .ok (.iload_n 3, 1) := dk_of dkc_41 (.tail _ (.tail _ (.tail _ (.tail _ (.tail _ (.tail _ (.tail _ (.tail _ (.tail _ (.tail _ (.tail _ (.tail _ (.tail _ (.tail _ (.head _)))))))))))))))
theorem dX0_beginAt_25 : decode cX0_beginAt 25 = .ok (.aload_n 0, 1) := dk_of dkc_41 (.tail _ (.tail _ (.tail _ (.tail _ (.tail _ (.tail _ (.tail _ (.tail _ (.tail _ (.tail _ (.tail _ (.tail _ (.tail _ (.tail _ (.tail _ (.head _))))))))))))))))
def dkl_42 : List (Nat × Instr × Nat) := [(26, (.iload_n 2, 1)), (27, (.iconst 1, 1)), (28, (.iadd, 1)), (29, (.aload_n 1, 1)), (30, (.iconst 0, 1)), (31, (.invokevirtual 40, 3)), (34, (.iload_n 3, 1)), (35, (.aload_n 0, 1)), (36, (.getfield 110, 3)), (39, (.imul, 1)), (40, (.iadd, 1)), (41, (.aload_n 1, 1)), (42, (.iconst 0, 1)), (43, (.invokevirtual 46, 3)), (46, (.iload_n 3, 1)), (47, (.aload_n 0, 1))]
theorem dkc_42 : ck9 ((bl9 cX0_beginAt).drop 26) 26 dkl_42 = true := by decide +kernel
theorem dX0_beginAt_26 : decode cX0_beginAt 26 = .ok (.iload_n 2, 1) := dk_of dkc_42 (.head _)
theorem dX0_beginAt_27 : decode cX0_beginAt 27 = .ok (.iconst 1, 1) := dk_of dkc_42 (.tail _ (.head _))
theorem dX0_beginAt_28 : decode cX0_beginAt 28 = .ok (.iadd, 1) := dk_of dkc_42 (.tail _ (.tail _ (.head _)))
theorem dX0_beginAt_29 : decode cX0_beginAt 29 = .ok (.aload_n 1, 1) := dk_of dkc_42 (.tail _ (.tail _ (.tail _ (.head _))))
theorem dX0_beginAt_30 : decode cX0_beginAt 30 = .ok (.iconst 0, 1) := dk_of dkc_42 (.tail _ (.tail _ (.tail _ (.tail _ (.head _)))))
theorem dX0_beginAt_31 : decode cX0_beginAt 31 = .ok (.invokevirtual 40, 3) := dk_of dkc_42 (.tail _ (.tail _ (.tail _ (.tail _ (.tail _ (.head _))))))
theorem dX0_beginAt_34 : decode cX0_beginAt 34 = .ok (.iload_n 3, 1) := dk_of dkc_42 (.tail _ (.tail _ (.tail _ (.tail _ (.tail _ (.tail _ (.head _)))))))
theorem dX0_beginAt_35 : decode cX0_beginAt 35 = .ok (.aload_n 0, 1) := dk_of dkc_42 (.tail _ (.tail _ (.tail _ (.tail _ (.tail _ (.tail _ (.tail _ (.head _))))))))
theorem dX0_beginAt_36 : decode cX0_beginAt 36 = .ok (.getfield 110, 3) := dk_of dkc_42 (.tail _ (.tail _ (.tail _ (.tail _ (.tail _ (.tail _ (.tail _ (.tail _ (.head _)))))))))
theorem dX0_beginAt_39 : decode cX0_beginAt 39 = .ok (.imul, 1) := dk_of dkc_42 (.tail _ (.tail _ (.tail _ (.tail _ (.tail _ (.tail _ (.tail _ (.tail _ (.tail _ (.head _))))))))))
theorem dX0_beginAt_40 : decode cX0_beginAt 40 = .ok (.iadd, 1) := dk_of dkc_42 (.tail _ (.tail _ (.tail _ (.tail _ (.tail _ (.tail _ (.tail _ (.tail _ (.tail _ (.tail _ (.head _)))))))))))
theorem dX0_beginAt_41 : decode cX0_beginAt 41 = .ok (.aload_n 1, 1) := dk_of dkc_42 (.tail _ (.tail _ (.tail _ (.tail _ (.tail _ (.tail _ (.tail _ (.tail _ (.tail _ (.tail _ (.tail _ (.head _))))))))))))
theorem dX0_beginAt_42 : decode cX0_beginAt 42 = .ok (.iconst 0, 1) := dk_of dkc_42 (.tail _ (.tail _ (.tail _ (.tail _ (.tail _ (.tail _ (.tail _ (.tail _ (.tail _ (.tail _ (.tail _ (.tail _ (.head _)))))))))))))
theorem dX0_beginAt_43 : decode cX0_beginAt 43 = .ok (.invokevirtual 46, 3) := dk_of dkc_42 (.tail _ (.tail _ (.tail _ (.tail _ (.tail _ (.tail _ (.tail _ (.tail _ (.tail _ (.tail _ (.tail _ (.tail _ (.tail _ (.head _))))))))))))))
theorem dX0_beginAt_46 : decode cX0_beginAt 46 = .ok (.iload_n 3, 1) := dk_of dkc_42 (.tail _ (.tail _ (.tail _ (.tail _ (.tail _ (.tail _ (.tail _ (.tail _ (.tail _ (.tail _ (.tail _ (.tail _ (.tail _ (.tail _ (.head _)))))))))))))))
theorem dX0_beginAt_47 : decode cX0_beginAt 47 = .ok (.aload_n 0, 1) := dk_of dkc_42 (.tail _ (.tail _ (.tail _ (.tail _ (.tail _ (.tail _ (.tail _ (.tail _ (.tail _ (.tail _ (.tail _ (.tail _ (.tail _ (.tail _ (.tail _ (.head _))))))))))))))))
def dkl_43 : List (Nat × Instr × Nat) := [(48, (.getfield 116, 3)), (51, (.imul, 1)), (52, (.iadd, 1)), (53, (.invokevirtual 163, 3)), (56, (.iadd, 1)), (57, (.istore 4, 2)), (59, (.iload 4, 2)), (61, (.aload_n 0, 1)), (62, (.getfield 82, 3)), (65, (.if_icmp .ge 21, 3)), (68, (.aload_n 0, 1)), (69, (.iload 4, 2)), (71, (.putfield 82, 3)), (74, (.aload_n 0, 1)), (75, (.iload_n 2, 1)), (76, (.putfield 85, 3))]
theorem dkc_43 : ck9 ((bl9 cX0_beginAt).drop 48) 48 dkl_43 = true := by decide +kernel
theorem dX0_beginAt_48 : decode cX0_beginAt 48 = .ok (.getfield 116, 3) := dk_of dkc_43 (.head _)
theorem dX0_beginAt_51 : decode cX0_beginAt 51 = .ok (.imul, 1) := dk_of dkc_43 (.tail _ (.head _))
theorem dX0_beginAt_52 : decode cX0_beginAt 52 = .ok (.iadd, 1) := dk_of dkc_43 (.tail _ (.tail _ (.head _)))
theorem dX0_beginAt_53 : decode cX0_beginAt 53 = .ok (.invokevirtual 163, 3) := dk_of dkc_43 (.tail _ (.tail _ (.tail _ (.head _))))
theorem dX0_beginAt_56 : decode cX0_beginAt 56 = .ok (.iadd, 1) := dk_of dkc_43 (.tail _ (.tail _ (.tail _ (.tail _ (.head _)))))
theorem dX0_beginAt_57 : decode cX0_beginAt 57 = .ok (.istore 4, 2) := dk_of dkc_43 (.tail _ (.tail _ (.tail _ (.tail _ (.tail _ (.head _))))))
theorem dX0_beginAt_59 : decode cX0_beginAt 59 = .ok (.iload 4, 2) := dk_of dkc_43 (.tail _ (.tail _ (.tail _ (.tail _ (.tail _ (.tail _ (.head _)))))))
theorem dX0_beginAt_61 : decode cX0_beginAt 61 = .ok (.aload_n 0, 1) := dk_of dkc_43 (.tail _ (.tail _ (.tail _ (.tail _ (.tail _ (.tail _ (.tail _ (.head _))))))))
theorem dX0_beginAt_62 : decode cX0_beginAt 62 = .ok (.getfield 82, 3) := dk_of dkc_43 (.tail _ (.tail _ (.tail _ (.tail _ (.tail _ (.tail _ (.tail _ (.tail _ (.head _)))))))))
theorem dX0_beginAt_65 : decode cX0_beginAt 65 = .ok (.if_icmp .ge 21, 3) := dk_of dkc_43 (.tail _ (.tail _ (.tail _ (.tail _ (.tail _ (.tail _ (.tail _ (.tail _ (.tail _ (.head _))))))))))
theorem dX0_beginAt_68 : decode cX0_beginAt 68 = .ok (.aload_n 0, 1) := dk_of dkc_43 (.tail _ (.tail _ (.tail _ (.tail _ (.tail _ (.tail _ (.tail _ (.tail _ (.tail _ (.tail _ (.head _)))))))))))
theorem dX0_beginAt_69 : decode cX0_beginAt 69 = .ok (.iload 4, 2) := dk_of dkc_43 (.tail _ (.tail _ (.tail _ (.tail _ (.tail _ (.tail _ (.tail _ (.tail _ (.tail _ (.tail _ (.tail _ (.head _))))))))))))
theorem dX0_beginAt_71 : decode cX0_beginAt 71 = .ok (.putfield 82, 3) := dk_of dkc_43 (.tail _ (.tail _ (.tail _ (.tail _ (.tail _ (.tail _ (.tail _ (.tail _ (.tail _ (.tail _ (.tail _ (.tail _ (.head _)))))))))))))
theorem dX0_beginAt_74 : decode cX0_beginAt 74 = .ok (.aload_n 0, 1) := dk_of dkc_43 (.tail _ (.tail _ (.tail _ (.tail _ (.tail _ (.tail _ (.tail _ (.tail _ (.tail _ (.tail _ (.tail _ (.tail _ (.tail _ (.head _))))))))))))))
theorem dX0_beginAt_75 : decode cX0_beginAt 75 = .ok (.iload_n 2, 1) := dk_of dkc_43 (.tail _ (.tail _ (.tail _ (.tail _ (.tail _ (.tail _ (.tail _ (.tail _ (.tail _ (.tail _ (.tail _ (.tail _ (.tail _ (.tail _ (.head _)))))))))))))))
theorem dX0_beginAt_76 : decode cX0_beginAt 76 = .ok (.putfield 85, 3) := dk_of dkc_43 (.tail _ (.tail _ (.tail _ (.tail _ (.tail _ (.tail _ (.tail _ (.tail _ (.tail _ (.tail _ (.tail _ (.tail _ (.tail _ (.tail _ (.tail _ (.head _))))))))))))))))
def dkl_44 : List (Nat × Instr × Nat) := [(79, (.aload_n 0, 1)), (80, (.getfield 23, 3)), (83, (.iload_n 2, 1)), (84, (.iload_n 3, 1)), (85, (.iastore, 1)), (86, (.iinc 3 1, 3)), (89, (.goto (-73), 3)), (92, (.return_, 1))]
theorem dkc_44 : ck9 ((bl9 cX0_beginAt).drop 79) 79 dkl_44 = true := by decide +kernel
theorem dX0_beginAt_79 : decode cX0_beginAt 79 = .ok (.aload_n 0, 1) := dk_of dkc_44 (.head _)
theorem dX0_beginAt_80 : decode cX0_beginAt 80 = .ok (.getfield 23, 3) := dk_of dkc_44 (.tail _ (.head _))
theorem dX0_beginAt_83 : decode cX0_beginAt 83 = .ok (.iload_n 2, 1) := dk_of dkc_44 (.tail _ (.tail _ (.head _)))
theorem dX0_beginAt_84 : decode cX0_beginAt 84 = .ok (.iload_n 3, 1) := dk_of dkc_44 (.tail _ (.tail _ (.tail _ (.head _))))
theorem dX0_beginAt_85 : decode cX0_beginAt 85 = .ok (.iastore, 1) := dk_of dkc_44 (.tail _ (.tail _ (.tail _ (.tail _ (.head _)))))
theorem dX0_beginAt_86 : decode cX0_beginAt 86 = .ok (.iinc 3 1, 3) := dk_of dkc_44 (.tail _ (.tail _ (.tail _ (.tail _ (.tail _ (.head _))))))
theorem dX0_beginAt_89 : decode cX0_beginAt 89 = .ok (.goto (-73), 3) := dk_of dkc_44 (.tail _ (.tail _ (.tail _ (.tail _ (.tail _ (.tail _ (.head _)))))))
theorem dX0_beginAt_92 : decode cX0_beginAt 92 = .ok (.return_, 1) := dk_of dkc_44 (.tail _ (.tail _ (.tail _ (.tail _ (.tail _ (.tail _ (.tail _ (.head _))))))))
def dkl_45 : List (Nat × Instr × Nat) := [(0, (.aload_n 1, 1)), (1, (.iconst 0, 1)), (2, (.invokevirtual 40, 3)), (5, (.istore_n 2, 1)), (6, (.aload_n 1, 1)), (7, (.iconst 0, 1)), (8, (.invokevirtual 46, 3)), (11, (.istore_n 3, 1)), (12, (.aload_n 0, 1)), (13, (.getfield 85, 3)), (16, (.istore 4, 2)), (18, (.iload 4, 2)), (20, (.aload_n 1, 1)), (21, (.getfield 53, 3)), (24, (.if_icmp .ge 80, 3)), (27, (.iload 4, 2))]
theorem dkc_45 : ck9 ((bl9 cX0_goOn).drop 0) 0 dkl_45 = true := by decide +kernel
theorem dX0_goOn_0 : decode cX0_goOn 0 = .ok (.aload_n 1, 1) := dk_of dkc_45 (.head _)
theorem dX0_goOn_1 : decode cX0_goOn 1 = .ok (.iconst 0, 1) := dk_of dkc_45 (.tail _ (.head _))
theorem dX0_goOn_2 : decode cX0_goOn 2 = .ok (.invokevirtual 40, 3) := dk_of dkc_45 (.tail _ (.tail _ (.head _)))
theorem dX0_goOn_5 : decode cX0_goOn 5 = .ok (.istore_n 2, 1) := dk_of dkc_45 (.tail _ (.tail _ (.tail _ (.head _))))
theorem dX0_goOn_6 : decode cX0_goOn 6 = .ok (.aload_n 1, 1) := dk_of dkc_45 (.tail _ (.tail _ (.tail _ (.tail _ (.head _)))))
theorem dX0_goOn_7 : decode cX0_goOn 7 = .ok (.iconst 0, 1) := dk_of dkc_45 (.tail _ (.tail _ (.tail _ (.tail _ (.tail _ (.head _))))))
theorem dX0_goOn_8 : decode cX0_goOn 8 = .ok (.invokevirtual 46, 3) := dk_of dkc_45 (.tail _ (.tail _ (.tail _ (.tail _ (.tail _ (.tail _ (.head _)))))))
theorem dX0_goOn_11 : decode cX0_goOn 11 = .ok (.istore_n 3, 1) := dk_of dkc_45 (.tail _ (.tail _ (.tail _ (.tail _ (.tail _ (.tail _ (.tail _ (.head _))))))))
theorem dX0_goOn_12 : decode cX0_goOn 12 = .ok (.aload_n 0, 1) := dk_of dkc_45 (.tail _ (.tail _ (.tail _ (.tail _ (.tail _ (.tail _ (.tail _ (.tail _ (.head _)))))))))
theorem dX0_goOn_13 : decode cX0_goOn 13 = .ok (.getfield 85, 3) := dk_of dkc_45 (.tail _ (.tail _ (.tail _ (.tail _ (.tail _ (.tail _ (.tail _ (.tail _ (.tail _ (.head _))))))))))
theorem dX0_goOn_16 : decode cX0_goOn 16 = .ok (.istore 4, 2) := dk_of dkc_45 (.tail _ (.tail _ (.tail _ (.tail _ (.tail _ (.tail _ (.tail _ (.tail _ (.tail _ (.tail _ (.head _)))))))))))
theorem dX0_goOn_18 : decode cX0_goOn 18 = .ok (.iload 4, 2) := dk_of dkc_45 (.tail _ (.tail _ (.tail _ (.tail _ (.tail _ (.tail _ (.tail _ (.tail _ (.tail _ (.tail _ (.tail _ (.head _))))))))))))
theorem dX0_goOn_20 : decode cX0_goOn 20 = .ok (.aload_n 1, 1) := dk_of dkc_45 (.tail _ (.tail _ (.tail _ (.tail _ (.tail _ (.tail _ (.tail _ (.tail _ (.tail _ (.tail _ (.tail _ (.tail _ (.head _)))))))))))))
theorem dX0_goOn_21 : decode cX0_goOn 21 = .ok (.getfield 53, 3) := dk_of dkc_45 (.tail _ (.tail _ (.tail _ (.tail _ (.tail _ (.tail _ (.tail _ (.tail _ (.tail _ (.tail _ (.tail _ (.tail _ (.tail _ (.head _))))))))))))))
theorem dX0_goOn_24 : decode cX0_goOn 24 = .ok (.if_icmp .ge 80, 3) := dk_of dkc_45 (.tail _ (.tail _ (.tail _ (.tail _ (.tail _ (.tail _ (.tail _ (.tail _ (.tail _ (.tail _ (.tail _ (.tail _ (.tail _ (.tail _ (.head _)))))))))))))))
theorem dX0_goOn_27 : decode cX0_goOn 27 = .ok (.iload 4, 2) := dk_of dkc_45 (.tail _ (.tail _ (.tail _ (.tail _ (.tail _ (.tail _ (.tail _ (.tail _ (.tail _ (.tail _ (.tail _ (.tail _ (.tail _ (.tail _ (.tail _ (.head _))))))))))))))))
def dkl_46 : List (Nat × Instr × Nat) := [(29, (.aload_n 0, 1)), (30, (.getfield 23, 3)), (33, (.arraylength, 1)), (34, (.if_icmp .ge 70, 3)), (37, (.aload_n 0, 1)), (38, (.aload_n 1, 1)), (39, (.iload 4, 2)), (41, (.invokevirtual 56, 3)), (44, (.iload 4, 2)), (46, (.aload_n 0, 1)), (47, (.getfield 85, 3)), (50, (.if_icmp .le 18, 3)), (53, (.aload_n 0, 1)), (54, (.getfield 23, 3)), (57, (.iload 4, 2)), (59, (.aload_n 0, 1))]
theorem dkc_46 : ck9 ((bl9 cX0_goOn).drop 29) 29 dkl_46 = true := by decide +kernel
theorem dX0_goOn_29 : decode cX0_goOn 29 = .ok (.aload_n 0, 1) := dk_of dkc_46 (.head _)
theorem dX0_goOn_30 : decode cX0_goOn 30 = .ok (.getfield 23, 3) := dk_of dkc_46 (.tail _ (.head _))
theorem dX0_goOn_33 : decode cX0_goOn 33 = .ok (.arraylength, 1) := dk_of dkc_46 (.tail _ (.tail _ (.head _)))
theorem dX0_goOn_34 : decode cX0_goOn 34 = .ok (.if_icmp .ge 70, 3) := dk_of dkc_46 (.tail _ (.tail _ (.tail _ (.head _))))
theorem dX0_goOn_37 : decode cX0_goOn 37 = .ok (.aload_n 0, 1) := dk_of dkc_46 (.tail _ (.tail _ (.tail _ (.tail _ (.head _)))))
theorem dX0_goOn_38 : decode cX0_goOn 38 = .ok (.aload_n 1, 1) := dk_of dkc_46 (.tail _ (.tail _ (.tail _ (.tail _ (.tail _ (.head _))))))
theorem dX0_goOn_39 : decode cX0_goOn 39 = .ok (.iload 4, 2) := dk_of dkc_46 (.tail _ (.tail _ (.tail _ (.tail _ (.tail _ (.tail _ (.head _)))))))
theorem dX0_goOn_41 : decode cX0_goOn 41 = .ok (.invokevirtual 56, 3) := dk_of dkc_46 (.tail _ (.tail _ (.tail _ (.tail _ (.tail _ (.tail _ (.tail _ (.head _))))))))
theorem dX0_goOn_44 : decode cX0_goOn 44 = .ok (.iload 4, 2) := dk_of dkc_46 (.tail _ (.tail _ (.tail _ (.tail _ (.tail _ (.tail _ (.tail _ (.tail _ (.head _)))))))))
theorem dX0_goOn_46 : decode cX0_goOn 46 = .ok (.aload_n 0, 1) := dk_of dkc_46 (.tail _ (.tail _ (.tail _ (.tail _ (.tail _ (.tail _ (.tail _ (.tail _ (.tail _ (.head _))))))))))
theorem dX0_goOn_47 : decode cX0_goOn 47 = .ok (.getfield 85, 3) := dk_of dkc_46 (.tail _ (.tail _ (.tail _ (.tail _ (.tail _ (.tail _ (.tail _ (.tail _ (.tail _ (.tail _ (.head _)))))))))))
theorem dX0_goOn_50 : decode cX0_goOn 50 = .ok (.if_icmp .le 18, 3) := dk_of dkc_46 (.tail _ (.tail _ (.tail _ (.tail _ (.tail _ (.tail _ (.tail _ (.tail _ (.tail _ (.tail _ (.tail _ (.head _))))))))))))
theorem dX0_goOn_53 : decode cX0_goOn 53 = .ok (.aload_n 0, 1) := dk_of dkc_46 (.tail _ (.tail _ (.tail _ (.tail _ (.tail _ (.tail _ (.tail _ (.tail _ (.tail _ (.tail _ (.tail _ (.tail _ (.head _)))))))))))))
theorem dX0_goOn_54 : decode cX0_goOn 54 = .ok (.getfield 23, 3) := dk_of dkc_46 (.tail _ (.tail _ (.tail _ (.tail _ (.tail _ (.tail _ (.tail _ (.tail _ (.tail _ (.tail _ (.tail _ (.tail _ (.tail _ (.head _))))))))))))))
theorem dX0_goOn_57 : decode cX0_goOn 57 = .ok (.iload 4, 2) := dk_of dkc_46 (.tail _ (.tail _ (.tail _ (.tail _ (.tail _ (.tail _ (.tail _ (.tail _ (.tail _ (.tail _ (.tail _ (.tail _ (.tail _ (.tail _ (.head _)))))))))))))))
theorem dX0_goOn_59 : decode cX0_goOn 59 = .ok (.aload_n 0, 1) := dk_of dkc_46 (.tail _ (.tail _ (.tail _ (.tail _ (.tail _ (.tail _ (.tail _ (.tail _ (.tail _ (.tail _ (.tail _ (.tail _ (.tail _ (.tail _ (.tail _ (.head _))))))))))))))))
def dkl_47 : List (Nat × Instr × Nat) := [(60, (.iload 4, 2)), (62, (.iload_n 2, 1)), (63, (.iload_n 3, 1)), (64, (.invokevirtual 166, 3)), (67, (.iastore, 1)), (68, (.iload_n 2, 1)), (69, (.aload_n 0, 1)), (70, (.getfield 23, 3)), (73, (.iload 4, 2)), (75, (.iaload, 1)), (76, (.aload_n 0, 1)), (77, (.getfield 110, 3)), (80, (.imul, 1)), (81, (.iadd, 1)), (82, (.istore_n 2, 1)), (83, (.iload_n 3, 1))]
theorem dkc_47 : ck9 ((bl9 cX0_goOn).drop 60) 60 dkl_47 = true := by decide +kernel
theorem dX0_goOn_60 : decode cX0_goOn 60 = .ok (.iload 4, 2) := dk_of dkc_47 (.head _)
theorem dX0_goOn_62 : decode cX0_goOn 62 = .ok (.iload_n 2, 1) := dk_of dkc_47 (.tail _ (.head _))
theorem dX0_goOn_63 : decode cX0_goOn 63 = .ok (.iload_n 3, 1) := dk_of dkc_47 (.tail _ (.tail _ (.head _)))
theorem dX0_goOn_64 : decode cX0_goOn 64 = .ok (.invokevirtual 166, 3) := dk_of dkc_47 (.tail _ (.tail _ (.tail _ (.head _))))
theorem dX0_goOn_67 : decode cX0_goOn 67 = .ok (.iastore, 1) := dk_of dkc_47 (.tail _ (.tail _ (.tail _ (.tail _ (.head _)))))
theorem dX0_goOn_68 : decode cX0_goOn 68 = .ok (.iload_n 2, 1) := dk_of dkc_47 (.tail _ (.tail _ (.tail _ (.tail _ (.tail _ (.head _))))))
theorem dX0_goOn_69 : decode cX0_goOn 69 = .ok (.aload_n 0, 1) := dk_of dkc_47 (.tail _ (.tail _ (.tail _ (.tail _ (.tail _ (.tail _ (.head _)))))))
theorem dX0_goOn_70 : decode cX0_goOn 70 = .ok (.getfield 23, 3) := dk_of dkc_47 (.tail _ (.tail _ (.tail _ (.tail _ (.tail _ (.tail _ (.tail _ (.head _))))))))
theorem dX0_goOn_73 : decode cX0_goOn 73 = .ok (.iload 4, 2) := dk_of dkc_47 (.tail _ (.tail _ (.tail _ (.tail _ (.tail _ (.tail _ (.tail _ (.tail _ (.head _)))))))))
theorem dX0_goOn_75 : decode cX0_goOn 75 = .ok (.iaload, 1) := dk_of dkc_47 (.tail _ (.tail _ (.tail _ (.tail _ (.tail _ (.tail _ (.tail _ (.tail _ (.tail _ (.head _))))))))))
theorem dX0_goOn_76 : decode cX0_goOn 76 = .ok (.aload_n 0, 1) := dk_of dkc_47 (.tail _ (.tail _ (.tail _ (.tail _ (.tail _ (.tail _ (.tail _ (.tail _ (.tail _ (.tail _ (.head _)))))))))))
theorem dX0_goOn_77 : decode cX0_goOn 77 = .ok (.getfield 110, 3) := dk_of dkc_47 (.tail _ (.tail _ (.tail _ (.tail _ (.tail _ (.tail _ (.tail _ (.tail _ (.tail _ (.tail _ (.tail _ (.head _))))))))))))
theorem dX0_goOn_80 : decode cX0_goOn 80 = .ok (.imul, 1) := dk_of dkc_47 (.tail _ (.tail _ (.tail _ (.tail _ (.tail _ (.tail _ (.tail _ (.tail _ (.tail _ (.tail _ (.tail _ (.tail _ (.head _)))))))))))))
theorem dX0_goOn_81 : decode cX0_goOn 81 = .ok (.iadd, 1) := dk_of dkc_47 (.tail _ (.tail _ (.tail _ (.tail _ (.tail _ (.tail _ (.tail _ (.tail _ (.tail _ (.tail _ (.tail _ (.tail _ (.tail _ (.head _))))))))))))))
theorem dX0_goOn_82 : decode cX0_goOn 82 = .ok (.istore_n 2, 1) := dk_of dkc_47 (.tail _ (.tail _ (.tail _ (.tail _ (.tail _ (.tail _ (.tail _ (.tail _ (.tail _ (.tail _ (.tail _ (.tail _ (.tail _ (.tail _ (.head _)))))))))))))))
theorem dX0_goOn_83 : decode cX0_goOn 83 = .ok (.iload_n 3, 1) := dk_of dkc_47 (.tail _ (.tail _ (.tail _ (.tail _ (.tail _ (.tail _ (.tail _ (.tail _ (.tail _ (.tail _ (.tail _ (.tail _ (.tail _ (.tail _ (.tail _ (.head _))))))))))))))))
def dkl_48 : List (Nat × Instr × Nat) := [(84, (.aload_n 0, 1)), (85, (.getfield 23, 3)), (88, (.iload 4, 2)), (90, (.iaload, 1)), (91, (.aload_n 0, 1)), (92, (.getfield 116, 3)), (95, (.imul, 1)), (96, (.iadd, 1)), (97, (.istore_n 3, 1)), (98, (.iinc 4 1, 3)), (101, (.goto (-83), 3)), (104, (.return_, 1))]
theorem dkc_48 : ck9 ((bl9 cX0_goOn).drop 84) 84 dkl_48 = true := by decide +kernel
theorem dX0_goOn_84 : decode cX0_goOn 84 = .ok (.aload_n 0, 1) := dk_of dkc_48 (.head _)
theorem dX0_goOn_85 : decode cX0_goOn 85 = .ok (.getfield 23, 3) := dk_of dkc_48 (.tail _ (.head _))
theorem dX0_goOn_88 : decode cX0_goOn 88 = .ok (.iload 4, 2) := dk_of dkc_48 (.tail _ (.tail _ (.head _)))
theorem dX0_goOn_90 : decode cX0_goOn 90 = .ok (.iaload, 1) := dk_of dkc_48 (.tail _ (.tail _ (.tail _ (.head _))))
theorem dX0_goOn_91 : decode cX0_goOn 91 = .ok (.aload_n 0, 1) := dk_of dkc_48 (.tail _ (.tail _ (.tail _ (.tail _ (.head _)))))
theorem dX0_goOn_92 : decode cX0_goOn 92 = .ok (.getfield 116, 3) := dk_of dkc_48 (.tail _ (.tail _ (.tail _ (.tail _ (.tail _ (.head _))))))
theorem dX0_goOn_95 : decode cX0_goOn 95 = .ok (.imul, 1) := dk_of dkc_48 (.tail _ (.tail _ (.tail _ (.tail _ (.tail _ (.tail _ (.head _)))))))
theorem dX0_goOn_96 : decode cX0_goOn 96 = .ok (.iadd, 1) := dk_of dkc_48 (.tail _ (.tail _ (.tail _ (.tail _ (.tail _ (.tail _ (.tail _ (.head _))))))))
theorem dX0_goOn_97 : decode cX0_goOn 97 = .ok (.istore_n 3, 1) := dk_of dkc_48 (.tail _ (.tail _ (.tail _ (.tail _ (.tail _ (.tail _ (.tail _ (.tail _ (.head _)))))))))
theorem dX0_goOn_98 : decode cX0_goOn 98 = .ok (.iinc 4 1, 3) := dk_of dkc_48 (.tail _ (.tail _ (.tail _ (.tail _ (.tail _ (.tail _ (.tail _ (.tail _ (.tail _ (.head _))))))))))
theorem dX0_goOn_101 : decode cX0_goOn 101 = .ok (.goto (-83), 3) := dk_of dkc_48 (.tail _ (.tail _ (.tail _ (.tail _ (.tail _ (.tail _ (.tail _ (.tail _ (.tail _ (.tail _ (.head _)))))))))))
theorem dX0_goOn_104 : decode cX0_goOn 104 = .ok (.return_, 1) := dk_of dkc_48 (.tail _ (.tail _ (.tail _ (.tail _ (.tail _ (.tail _ (.tail _ (.tail _ (.tail _ (.tail _ (.tail _ (.head _))))))))))))
def dkl_49 : List (Nat × Instr × Nat) := [(0, (.aload_n 0, 1)), (1, (.iload_n 1, 1)), (2, (.iload_n 2, 1)), (3, (.iload_n 3, 1)), (4, (.invokevirtual 163, 3)), (7, (.istore 4, 2)), (9, (.iconst 0, 1)), (10, (.istore 5, 2)), (12, (.iload 5, 2)), (14, (.aload_n 0, 1)), (15, (.getfield 104, 3)), (18, (.if_icmp .gt 45, 3)), (21, (.iload 5, 2)), (23, (.aload_n 0, 1)), (24, (.iload_n 1, 1)), (25, (.iconst 1, 1))]
theorem dkc_49 : ck9 ((bl9 cX0_firstBest).drop 0) 0 dkl_49 = true := by decide +kernel
theorem dX0_firstBest_0 : decode cX0_firstBest 0 = .ok (.aload_n 0, 1) := dk_of dkc_49 (.head _)
theorem dX0_firstBest_1 : decode cX0_firstBest 1 = .ok (.iload_n 1, 1) := dk_of dkc_49 (.tail _ (.head _))
theorem dX0_firstBest_2 : decode cX0_firstBest 2 = .ok (.iload_n 2, 1) := dk_of dkc_49 (.tail _ (.tail _ (.head _)))
theorem dX0_firstBest_3 : decode cX0_firstBest 3 = .ok (.iload_n 3, 1) := dk_of dkc_49 (.tail _ (.tail _ (.tail _ (.head _))))
theorem dX0_firstBest_4 : decode cX0_firstBest 4 = .ok (.invokevirtual 163, 3) := dk_of dkc_49 (.tail _ (.tail _ (.tail _ (.tail _ (.head _)))))
theorem dX0_firstBest_7 : decode cX0_firstBest 7 = .ok (.istore 4, 2) := dk_of dkc_49 (.tail _ (.tail _ (.tail _ (.tail _ (.tail _ (.head _))))))
theorem dX0_firstBest_9 : decode cX0_firstBest 9 = .ok (.iconst 0, 1) := dk_of dkc_49 (.tail _ (.tail _ (.tail _ (.tail _ (.tail _ (.tail _ (.head _)))))))
theorem dX0_firstBest_10 : decode cX0_firstBest 10 = .ok (.istore 5, 2) := dk_of dkc_49 (.tail _ (.tail _ (.tail _ (.tail _ (.tail _ (.tail _ (.tail _ (.head _))))))))
theorem dX0_firstBest_12 : decode cX0_firstBest 12 = .ok (.iload 5, 2) := dk_of dkc_49 (.tail _ (.tail _ (.tail _ (.tail _ (.tail _ (.tail _ (.tail _ (.tail _ (.head _)))))))))
theorem dX0_firstBest_14 : decode cX0_firstBest 14 = .ok (.aload_n 0, 1) := dk_of dkc_49 (.tail _ (.tail _ (.tail _ (.tail _ (.tail _ (.tail _ (.tail _ (.tail _ (.tail _ (.head _))))))))))
theorem dX0_firstBest_15 : decode cX0_firstBest 15 = .ok (.getfield 104, 3) := dk_of dkc_49 (.tail _ (.tail _ (.tail _ (.tail _ (.tail _ (.tail _ (.tail _ (.tail _ (.tail _ (.tail _ (.head _)))))))))))
theorem dX0_firstBest_18 : decode cX0_firstBest 18 = .ok (.if_icmp .gt 45, 3) := dk_of dkc_49 (.tail _ (.tail _ (.tail _ (.tail _ (.tail _ (.tail _ (.tail _ (.tail _ (.tail _ (.tail _ (.tail _ (.head _))))))))))))
theorem dX0_firstBest_21 : decode cX0_firstBest 21 = .ok (.iload 5, 2) := dk_of dkc_49 (.tail _ (.tail _ (.tail _ (.tail _ (.tail _ (.tail _ (.tail _ (.tail _ (.tail _ (.tail _ (.tail _ (.tail _ (.head _)))))))))))))
theorem dX0_firstBest_23 : decode cX0_firstBest 23 = .ok (.aload_n 0, 1) := dk_of dkc_49 (.tail _ (.tail _ (.tail _ (.tail _ (.tail _ (.tail _ (.tail _ (.tail _ (.tail _ (.tail _ (.tail _ (.tail _ (.tail _ (.head _))))))))))))))
theorem dX0_firstBest_24 : decode cX0_firstBest 24 = .ok (.iload_n 1, 1) := dk_of dkc_49 (.tail _ (.tail _ (.tail _ (.tail _ (.tail _ (.tail _ (.tail _ (.tail _ (.tail _ (.tail _ (.tail _ (.tail _ (.tail _ (.tail _ (.head _)))))))))))))))
theorem dX0_firstBest_25 : decode cX0_firstBest 25 = .ok (.iconst 1, 1) := dk_of dkc_49 (.tail _ (.tail _ (.tail _ (.tail _ (.tail _ (.tail _ (.tail _ (.tail _ (.tail _ (.tail _ (.tail _ (.tail _ (.tail _ (.tail _ (.tail _ (.head _))))))))))))))))
def dkl_50 : List (Nat × Instr × Nat) := [(26, (.iadd, 1)), (27, (.iload_n 2, 1)), (28, (.iload 5, 2)), (30, (.aload_n 0, 1)), (31, (.getfield 110, 3)), (34, (.imul, 1)), (35, (.iadd, 1)), (36, (.iload_n 3, 1)), (37, (.iload 5, 2)), (39, (.aload_n 0, 1)), (40, (.getfield 116, 3)), (43, (.imul, 1)), (44, (.iadd, 1)), (45, (.invokevirtual 163, 3)), (48, (.iadd, 1)), (49, (.iload 4, 2))]
theorem dkc_50 : ck9 ((bl9 cX0_firstBest).drop 26) 26 dkl_50 = true := by decide +kernel
theorem dX0_firstBest_26 : decode cX0_firstBest 26 = .ok (.iadd, 1) := dk_of dkc_50 (.head _)
theorem dX0_firstBest_27 : decode cX0_firstBest 27 = .ok (.iload_n 2, 1) := dk_of dkc_50 (.tail _ (.head _))
theorem dX0_firstBest_28 : decode cX0_firstBest 28 = .ok (.iload 5, 2) := dk_of dkc_50 (.tail _ (.tail _ (.head _)))
theorem dX0_firstBest_30 : decode cX0_firstBest 30 = .ok (.aload_n 0, 1) := dk_of dkc_50 (.tail _ (.tail _ (.tail _ (.head _))))
theorem dX0_firstBest_31 : decode cX0_firstBest 31 = .ok (.getfield 110, 3) := dk_of dkc_50 (.tail _ (.tail _ (.tail _ (.tail _ (.head _)))))
theorem dX0_firstBest_34 : decode cX0_firstBest 34 = .ok (.imul, 1) := dk_of dkc_50 (.tail _ (.tail _ (.tail _ (.tail _ (.tail _ (.head _))))))
theorem dX0_firstBest_35 : decode cX0_firstBest 35 = .ok (.iadd, 1) := dk_of dkc_50 (.tail _ (.tail _ (.tail _ (.tail _ (.tail _ (.tail _ (.head _)))))))
theorem dX0_firstBest_36 : decode cX0_firstBest 36 = .ok (.iload_n 3, 1) := dk_of dkc_50 (.tail _ (.tail _ (.tail _ (.tail _ (.tail _ (.tail _ (.tail _ (.head _))))))))
theorem dX0_firstBest_37 : decode cX0_firstBest 37 = .ok (.iload 5, 2) := dk_of dkc_50 (.tail _ (.tail _ (.tail _ (.tail _ (.tail _ (.tail _ (.tail _ (.tail _ (.head _)))))))))
theorem dX0_firstBest_39 : decode cX0_firstBest 39 = .ok (.aload_n 0, 1) := dk_of dkc_50 (.tail _ (.tail _ (.tail _ (.tail _ (.tail _ (.tail _ (.tail _ (.tail _ (.tail _ (.head _))))))))))
theorem dX0_firstBest_40 : decode cX0_firstBest 40 = .ok (.getfield 116, 3) := dk_of dkc_50 (.tail _ (.tail _ (.tail _ (.tail _ (.tail _ (.tail _ (.tail _ (.tail _ (.tail _ (.tail _ (.head _)))))))))))
theorem dX0_firstBest_43 : decode cX0_firstBest 43 = .ok (.imul, 1) := dk_of dkc_50 (.tail _ (.tail _ (.tail _ (.tail _ (.tail _ (.tail _ (.tail _ (.tail _ (.tail _ (.tail _ (.tail _ (.head _))))))))))))
theorem dX0_firstBest_44 : decode cX0_firstBest 44 = .ok (.iadd, 1) := dk_of dkc_50 (.tail _ (.tail _ (.tail _ (.tail _ (.tail _ (.tail _ (.tail _ (.tail _ (.tail _ (.tail _ (.tail _ (.tail _ (.head _)))))))))))))
theorem dX0_firstBest_45 : decode cX0_firstBest 45 = .ok (.invokevirtual 163, 3) := dk_of dkc_50 (.tail _ (.tail _ (.tail _ (.tail _ (.tail _ (.tail _ (.tail _ (.tail _ (.tail _ (.tail _ (.tail _ (.tail _ (.tail _ (.head _))))))))))))))
theorem dX0_firstBest_48 : decode cX0_firstBest 48 = .ok (.iadd, 1) := dk_of dkc_50 (.tail _ (.tail _ (.tail _ (.tail _ (.tail _ (.tail _ (.tail _ (.tail _ (.tail _ (.tail _ (.tail _ (.tail _ (.tail _ (.tail _ (.head _)))))))))))))))
theorem dX0_firstBest_49 : decode cX0_firstBest 49 = .ok (.iload 4, 2) := dk_of dkc_50 (.tail _ (.tail _ (.tail _ (.tail _ (.tail _ (.tail _ (.tail _ (.tail _ (.tail _ (.tail _ (.tail _ (.tail _ (.tail _ (.tail _ (.tail _ (.head _))))))))))))))))
def dkl_51 : List (Nat × Instr × Nat) := [(51, (.if_icmp .ne 6, 3)), (54, (.iload 5, 2)), (56, (.ireturn, 1)), (57, (.iinc 5 1, 3)), (60, (.goto (-48), 3)), (63, (.iconst 0, 1)), (64, (.ireturn, 1))]
theorem dkc_51 : ck9 ((bl9 cX0_firstBest).drop 51) 51 dkl_51 = true := by decide +kernel
theorem dX0_firstBest_51 : decode cX0_firstBest 51 = .ok (.if_icmp .ne 6, 3) := dk_of dkc_51 (.head _)
theorem dX0_firstBest_54 : decode cX0_firstBest 54 = .ok (.iload 5, 2) := dk_of dkc_51 (.tail _ (.head _))
theorem dX0_firstBest_56 : decode cX0_firstBest 56 = .ok (.ireturn, 1) := dk_of dkc_51 (.tail _ (.tail _ (.head _)))
theorem dX0_firstBest_57 : decode cX0_firstBest 57 = .ok (.iinc 5 1, 3) := dk_of dkc_51 (.tail _ (.tail _ (.tail _ (.head _))))
theorem dX0_firstBest_60 : decode cX0_firstBest 60 = .ok (.goto (-48), 3) := dk_of dkc_51 (.tail _ (.tail _ (.tail _ (.tail _ (.head _)))))
theorem dX0_firstBest_63 : decode cX0_firstBest 63 = .ok (.iconst 0, 1) := dk_of dkc_51 (.tail _ (.tail _ (.tail _ (.tail _ (.tail _ (.head _))))))
theorem dX0_firstBest_64 : decode cX0_firstBest 64 = .ok (.ireturn, 1) := dk_of dkc_51 (.tail _ (.tail _ (.tail _ (.tail _ (.tail _ (.tail _ (.head _)))))))
def dkl_52 : List (Nat × Instr × Nat) := [(0, (.aload_n 0, 1)), (1, (.invokespecial 3, 3)), (4, (.aload_n 0, 1)), (5, (.new 9, 3)), (8, (.dup, 1)), (9, (.bipush 40, 2)), (11, (.invokespecial 11, 3)), (14, (.putfield 14, 3)), (17, (.aload_n 0, 1)), (18, (.bipush 80, 2)), (20, (.newarray .long, 2)), (22, (.putfield 20, 3)), (25, (.aload_n 0, 1)), (26, (.iconst (-1), 1)), (27, (.putfield 24, 3)), (30, (.return_, 1))]
theorem dkc_52 : ck9 ((bl9 cX1_init).drop 0) 0 dkl_52 = true := by decide +kernel
theorem dX1_init_0 : decode cX1_init 0 = .ok (.aload_n 0, 1) := dk_of dkc_52 (.head _)
theorem dX1_init_1 : decode cX1_init 1 = .ok (.invokespecial 3, 3) := dk_of dkc_52 (.tail _ (.head _))
theorem dX1_init_4 : decode cX1_init 4 = .ok (.aload_n 0, 1) := dk_of dkc_52 (.tail _ (.tail _ (.head _)))
theorem dX1_init_5 : decode cX1_init 5 = .ok (.new 9, 3) := dk_of dkc_52 (.tail _ (.tail _ (.tail _ (.head _))))
theorem dX1_init_8 : decode cX1_init 8 = .ok (.dup, 1) := dk_of dkc_52 (.tail _ (.tail _ (.tail _ (.tail _ (.head _)))))
theorem dX1_init_9 : decode cX1_init 9 = .ok (.bipush 40, 2) := dk_of dkc_52 (.tail _ (.tail _ (.tail _ (.tail _ (.tail _ (.head _))))))
theorem dX1_init_11 : decode cX1_init 11 = .ok (.invokespecial 11, 3) := dk_of dkc_52 (.tail _ (.tail _ (.tail _ (.tail _ (.tail _ (.tail _ (.head _)))))))
theorem dX1_init_14 : decode cX1_init 14 = .ok (.putfield 14, 3) := dk_of dkc_52 (.tail _ (.tail _ (.tail _ (.tail _ (.tail _ (.tail _ (.tail _ (.head _))))))))
theorem dX1_init_17 : decode cX1_init 17 = .ok (.aload_n 0, 1) := dk_of dkc_52 (.tail _ (.tail _ (.tail _ (.tail _ (.tail _ (.tail _ (.tail _ (.tail _ (.head _)))))))))
theorem dX1_init_18 : decode cX1_init 18 = .ok (.bipush 80, 2) := dk_of dkc_52 (.tail _ (.tail _ (.tail _ (.tail _ (.tail _ (.tail _ (.tail _ (.tail _ (.tail _ (.head _))))))))))
theorem dX1_init_20 : decode cX1_init 20 = .ok (.newarray .long, 2) := dk_of dkc_52 (.tail _ (.tail _ (.tail _ (.tail _ (.tail _ (.tail _ (.tail _ (.tail _ (.tail _ (.tail _ (.head _)))))))))))
theorem dX1_init_22 : decode cX1_init 22 = .ok (.putfield 20, 3) := dk_of dkc_52 (.tail _ (.tail _ (.tail _ (.tail _ (.tail _ (.tail _ (.tail _ (.tail _ (.tail _ (.tail _ (.tail _ (.head _))))))))))))
theorem dX1_init_25 : decode cX1_init 25 = .ok (.aload_n 0, 1) := dk_of dkc_52 (.tail _ (.tail _ (.tail _ (.tail _ (.tail _ (.tail _ (.tail _ (.tail _ (.tail _ (.tail _ (.tail _ (.tail _ (.head _)))))))))))))
theorem dX1_init_26 : decode cX1_init 26 = .ok (.iconst (-1), 1) := dk_of dkc_52 (.tail _ (.tail _ (.tail _ (.tail _ (.tail _ (.tail _ (.tail _ (.tail _ (.tail _ (.tail _ (.tail _ (.tail _ (.tail _ (.head _))))))))))))))
theorem dX1_init_27 : decode cX1_init 27 = .ok (.putfield 24, 3) := dk_of dkc_52 (.tail _ (.tail _ (.tail _ (.tail _ (.tail _ (.tail _ (.tail _ (.tail _ (.tail _ (.tail _ (.tail _ (.tail _ (.tail _ (.tail _ (.head _)))))))))))))))
theorem dX1_init_30 : decode cX1_init 30 = .ok (.return_, 1) := dk_of dkc_52 (.tail _ (.tail _ (.tail _ (.tail _ (.tail _ (.tail _ (.tail _ (.tail _ (.tail _ (.tail _ (.tail _ (.tail _ (.tail _ (.tail _ (.tail _ (.head _))))))))))))))))
def dkl_53 : List (Nat × Instr × Nat) := [(0, (.aload_n 0, 1)), (1, (.getfield 24, 3)), (4, (.aload_n 1, 1)), (5, (.getfield 28, 3)), (8, (.if_icmp .ne 4, 3)), (11, (.return_, 1)), (12, (.aload_n 0, 1)), (13, (.aload_n 1, 1)), (14, (.getfield 28, 3)), (17, (.putfield 24, 3)), (20, (.aload_n 0, 1)), (21, (.getfield 14, 3)), (24, (.aload_n 1, 1)), (25, (.getfield 33, 3)), (28, (.invokevirtual 37, 3)), (31, (.aload_n 0, 1))]
theorem dkc_53 : ck9 ((bl9 cX1_build).drop 0) 0 dkl_53 = true := by decide +kernel
theorem dX1_build_0 : decode cX1_build 0 = .ok (.aload_n 0, 1) := dk_of dkc_53 (.head _)
theorem dX1_build_1 : decode cX1_build 1 = .ok (.getfield 24, 3) := dk_of dkc_53 (.tail _ (.head _))
theorem dX1_build_4 : decode cX1_build 4 = .ok (.aload_n 1, 1) := dk_of dkc_53 (.tail _ (.tail _ (.head _)))
theorem dX1_build_5 : decode cX1_build 5 = .ok (.getfield 28, 3) := dk_of dkc_53 (.tail _ (.tail _ (.tail _ (.head _))))
theorem dX1_build_8 : decode cX1_build 8 = .ok (.if_icmp .ne 4, 3) := dk_of dkc_53 (.tail _ (.tail _ (.tail _ (.tail _ (.head _)))))
theorem dX1_build_11 : decode cX1_build 11 = .ok (.return_, 1) := dk_of dkc_53 (.tail _ (.tail _ (.tail _ (.tail _ (.tail _ (.head _))))))
theorem dX1_build_12 : decode cX1_build 12 = .ok (.aload_n 0, 1) := dk_of dkc_53 (.tail _ (.tail _ (.tail _ (.tail _ (.tail _ (.tail _ (.head _)))))))
theorem dX1_build_13 : decode cX1_build 13 = .ok (.aload_n 1, 1) := dk_of dkc_53 (.tail _ (.tail _ (.tail _ (.tail _ (.tail _ (.tail _ (.tail _ (.head _))))))))
theorem dX1_build_14 : decode cX1_build 14 = .ok (.getfield 28, 3) := dk_of dkc_53 (.tail _ (.tail _ (.tail _ (.tail _ (.tail _ (.tail _ (.tail _ (.tail _ (.head _)))))))))
theorem dX1_build_17 : decode cX1_build 17 = .ok (.putfield 24, 3) := dk_of dkc_53 (.tail _ (.tail _ (.tail _ (.tail _ (.tail _ (.tail _ (.tail _ (.tail _ (.tail _ (.head _))))))))))
theorem dX1_build_20 : decode cX1_build 20 = .ok (.aload_n 0, 1) := dk_of dkc_53 (.tail _ (.tail _ (.tail _ (.tail _ (.tail _ (.tail _ (.tail _ (.tail _ (.tail _ (.tail _ (.head _)))))))))))
theorem dX1_build_21 : decode cX1_build 21 = .ok (.getfield 14, 3) := dk_of dkc_53 (.tail _ (.tail _ (.tail _ (.tail _ (.tail _ (.tail _ (.tail _ (.tail _ (.tail _ (.tail _ (.tail _ (.head _))))))))))))
theorem dX1_build_24 : decode cX1_build 24 = .ok (.aload_n 1, 1) := dk_of dkc_53 (.tail _ (.tail _ (.tail _ (.tail _ (.tail _ (.tail _ (.tail _ (.tail _ (.tail _ (.tail _ (.tail _ (.tail _ (.head _)))))))))))))
theorem dX1_build_25 : decode cX1_build 25 = .ok (.getfield 33, 3) := dk_of dkc_53 (.tail _ (.tail _ (.tail _ (.tail _ (.tail _ (.tail _ (.tail _ (.tail _ (.tail _ (.tail _ (.tail _ (.tail _ (.tail _ (.head _))))))))))))))
theorem dX1_build_28 : decode cX1_build 28 = .ok (.invokevirtual 37, 3) := dk_of dkc_53 (.tail _ (.tail _ (.tail _ (.tail _ (.tail _ (.tail _ (.tail _ (.tail _ (.tail _ (.tail _ (.tail _ (.tail _ (.tail _ (.tail _ (.head _)))))))))))))))
theorem dX1_build_31 : decode cX1_build 31 = .ok (.aload_n 0, 1) := dk_of dkc_53 (.tail _ (.tail _ (.tail _ (.tail _ (.tail _ (.tail _ (.tail _ (.tail _ (.tail _ (.tail _ (.tail _ (.tail _ (.tail _ (.tail _ (.tail _ (.head _))))))))))))))))
def dkl_54 : List (Nat × Instr × Nat) := [(32, (.iconst 0, 1)), (33, (.putfield 41, 3)), (36, (.iconst 0, 1)), (37, (.istore_n 2, 1)), (38, (.iload_n 2, 1)), (39, (.aload_n 0, 1)), (40, (.getfield 14, 3)), (43, (.getfield 44, 3)), (46, (.if_icmp .ge 54, 3)), (49, (.iload_n 2, 1)), (50, (.iconst 1, 1)), (51, (.iadd, 1)), (52, (.istore_n 3, 1)), (53, (.iload_n 3, 1)), (54, (.aload_n 0, 1)), (55, (.getfield 14, 3))]
theorem dkc_54 : ck9 ((bl9 cX1_build).drop 32) 32 dkl_54 = true := by decide +kernel
theorem dX1_build_32 : decode cX1_build 32 = .ok (.iconst 0, 1) := dk_of dkc_54 (.head _)
theorem dX1_build_33 : decode cX1_build 33 = .ok (.putfield 41, 3) := dk_of dkc_54 (.tail _ (.head _))
theorem dX1_build_36 : decode cX1_build 36 = .ok (.iconst 0, 1) := dk_of dkc_54 (.tail _ (.tail _ (.head _)))
theorem dX1_build_37 : decode cX1_build 37 = .ok (.istore_n 2, 1) := dk_of dkc_54 (.tail _ (.tail _ (.tail _ (.head _))))
theorem dX1_build_38 : decode cX1_build 38 = .ok (.iload_n 2, 1) := dk_of dkc_54 (.tail _ (.tail _ (.tail _ (.tail _ (.head _)))))
theorem dX1_build_39 : decode cX1_build 39 = .ok (.aload_n 0, 1) := dk_of dkc_54 (.tail _ (.tail _ (.tail _ (.tail _ (.tail _ (.head _))))))
theorem dX1_build_40 : decode cX1_build 40 = .ok (.getfield 14, 3) := dk_of dkc_54 (.tail _ (.tail _ (.tail _ (.tail _ (.tail _ (.tail _ (.head _)))))))
theorem dX1_build_43 : decode cX1_build 43 = .ok (.getfield 44, 3) := dk_of dkc_54 (.tail _ (.tail _ (.tail _ (.tail _ (.tail _ (.tail _ (.tail _ (.head _))))))))
theorem dX1_build_46 : decode cX1_build 46 = .ok (.if_icmp .ge 54, 3) := dk_of dkc_54 (.tail _ (.tail _ (.tail _ (.tail _ (.tail _ (.tail _ (.tail _ (.tail _ (.head _)))))))))
theorem dX1_build_49 : decode cX1_build 49 = .ok (.iload_n 2, 1) := dk_of dkc_54 (.tail _ (.tail _ (.tail _ (.tail _ (.tail _ (.tail _ (.tail _ (.tail _ (.tail _ (.head _))))))))))
theorem dX1_build_50 : decode cX1_build 50 = .ok (.iconst 1, 1) := dk_of dkc_54 (.tail _ (.tail _ (.tail _ (.tail _ (.tail _ (.tail _ (.tail _ (.tail _ (.tail _ (.tail _ (.head _)))))))))))
theorem dX1_build_51 : decode cX1_build 51 = .ok (.iadd, 1) := dk_of dkc_54 (.tail _ (.tail _ (.tail _ (.tail _ (.tail _ (.tail _ (.tail _ (.tail _ (.tail _ (.tail _ (.tail _ (.head _))))))))))))
theorem dX1_build_52 : decode cX1_build 52 = .ok (.istore_n 3, 1) := dk_of dkc_54 (.tail _ (.tail _ (.tail _ (.tail _ (.tail _ (.tail _ (.tail _ (.tail _ (.tail _ (.tail _ (.tail _ (.tail _ (.head _)))))))))))))
theorem dX1_build_53 : decode cX1_build 53 = .ok (.iload_n 3, 1) := dk_of dkc_54 (.tail _ (.tail _ (.tail _ (.tail _ (.tail _ (.tail _ (.tail _ (.tail _ (.tail _ (.tail _ (.tail _ (.tail _ (.tail _ (.head _))))))))))))))
theorem dX1_build_54 : decode cX1_build 54 = .ok (.aload_n 0, 1) := dk_of dkc_54 (.tail _ (.tail _ (.tail _ (.tail _ (.tail _ (.tail _ (.tail _ (.tail _ (.tail _ (.tail _ (.tail _ (.tail _ (.tail _ (.tail _ (.head _)))))))))))))))
theorem dX1_build_55 : decode cX1_build 55 = .ok (.getfield 14, 3) := dk_of dkc_54 (.tail _ (.tail _ (.tail _ (.tail _ (.tail _ (.tail _ (.tail _ (.tail _ (.tail _ (.tail _ (.tail _ (.tail _ (.tail _ (.tail _ (.tail _ (.head _))))))))))))))))
def dkl_55 : List (Nat × Instr × Nat) := [(58, (.getfield 44, 3)), (61, (.if_icmp .ge 33, 3)), (64, (.aload_n 0, 1)), (65, (.aload_n 0, 1)), (66, (.aload_n 1, 1)), (67, (.getfield 45, 3)), (70, (.iload_n 2, 1)), (71, (.iload_n 3, 1)), (72, (.aload_n 0, 1)), (73, (.aload_n 1, 1)), (74, (.getfield 45, 3)), (77, (.iload_n 2, 1)), (78, (.iload_n 3, 1)), (79, (.invokevirtual 49, 3)), (82, (.invokevirtual 53, 3)), (85, (.invokevirtual 57, 3))]
theorem dkc_55 : ck9 ((bl9 cX1_build).drop 58) 58 dkl_55 = true := by decide +kernel
theorem dX1_build_58 : decode cX1_build 58 = .ok (.getfield 44, 3) := dk_of dkc_55 (.head _)
theorem dX1_build_61 : decode cX1_build 61 = .ok (.if_icmp .ge 33, 3) := dk_of dkc_55 (.tail _ (.head _))
theorem dX1_build_64 : decode cX1_build 64 = .ok (.aload_n 0, 1) := dk_of dkc_55 (.tail _ (.tail _ (.head _)))
theorem dX1_build_65 : decode cX1_build 65 = .ok (.aload_n 0, 1) := dk_of dkc_55 (.tail _ (.tail _ (.tail _ (.head _))))
theorem dX1_build_66 : decode cX1_build 66 = .ok (.aload_n 1, 1) := dk_of dkc_55 (.tail _ (.tail _ (.tail _ (.tail _ (.head _)))))
theorem dX1_build_67 : decode cX1_build 67 = .ok (.getfield 45, 3) := dk_of dkc_55 (.tail _ (.tail _ (.tail _ (.tail _ (.tail _ (.head _))))))
theorem dX1_build_70 : decode cX1_build 70 = .ok (.iload_n 2, 1) := dk_of dkc_55 (.tail _ (.tail _ (.tail _ (.tail _ (.tail _ (.tail _ (.head _)))))))
theorem dX1_build_71 : decode cX1_build 71 = .ok (.iload_n 3, 1) := dk_of dkc_55 (.tail _ (.tail _ (.tail _ (.tail _ (.tail _ (.tail _ (.tail _ (.head _))))))))
theorem dX1_build_72 : decode cX1_build 72 = .ok (.aload_n 0, 1) := dk_of dkc_55 (.tail _ (.tail _ (.tail _ (.tail _ (.tail _ (.tail _ (.tail _ (.tail _ (.head _)))))))))
theorem dX1_build_73 : decode cX1_build 73 = .ok (.aload_n 1, 1) := dk_of dkc_55 (.tail _ (.tail _ (.tail _ (.tail _ (.tail _ (.tail _ (.tail _ (.tail _ (.tail _ (.head _))))))))))
theorem dX1_build_74 : decode cX1_build 74 = .ok (.getfield 45, 3) := dk_of dkc_55 (.tail _ (.tail _ (.tail _ (.tail _ (.tail _ (.tail _ (.tail _ (.tail _ (.tail _ (.tail _ (.head _)))))))))))
theorem dX1_build_77 : decode cX1_build 77 = .ok (.iload_n 2, 1) := dk_of dkc_55 (.tail _ (.tail _ (.tail _ (.tail _ (.tail _ (.tail _ (.tail _ (.tail _ (.tail _ (.tail _ (.tail _ (.head _))))))))))))
theorem dX1_build_78 : decode cX1_build 78 = .ok (.iload_n 3, 1) := dk_of dkc_55 (.tail _ (.tail _ (.tail _ (.tail _ (.tail _ (.tail _ (.tail _ (.tail _ (.tail _ (.tail _ (.tail _ (.tail _ (.head _)))))))))))))
theorem dX1_build_79 : decode cX1_build 79 = .ok (.invokevirtual 49, 3) := dk_of dkc_55 (.tail _ (.tail _ (.tail _ (.tail _ (.tail _ (.tail _ (.tail _ (.tail _ (.tail _ (.tail _ (.tail _ (.tail _ (.tail _ (.head _))))))))))))))
theorem dX1_build_82 : decode cX1_build 82 = .ok (.invokevirtual 53, 3) := dk_of dkc_55 (.tail _ (.tail _ (.tail _ (.tail _ (.tail _ (.tail _ (.tail _ (.tail _ (.tail _ (.tail _ (.tail _ (.tail _ (.tail _ (.tail _ (.head _)))))))))))))))
theorem dX1_build_85 : decode cX1_build 85 = .ok (.invokevirtual 57, 3) := dk_of dkc_55 (.tail _ (.tail _ (.tail _ (.tail _ (.tail _ (.tail _ (.tail _ (.tail _ (.tail _ (.tail _ (.tail _ (.tail _ (.tail _ (.tail _ (.tail _ (.head _))))))))))))))))
def dkl_56 : List (Nat × Instr × Nat) := [(88, (.iinc 3 1, 3)), (91, (.goto (-38), 3)), (94, (.iinc 2 1, 3)), (97, (.goto (-59), 3)), (100, (.return_, 1))]
theorem dkc_56 : ck9 ((bl9 cX1_build).drop 88) 88 dkl_56 = true := by decide +kernel
theorem dX1_build_88 : decode cX1_build 88 = .ok (.iinc 3 1, 3) := dk_of dkc_56 (.head _)
theorem dX1_build_91 : decode cX1_build 91 = .ok (.goto (-38), 3) := dk_of dkc_56 (.tail _ (.head _))
theorem dX1_build_94 : decode cX1_build 94 = .ok (.iinc 2 1, 3) := dk_of dkc_56 (.tail _ (.tail _ (.head _)))
theorem dX1_build_97 : decode cX1_build 97 = .ok (.goto (-59), 3) := dk_of dkc_56 (.tail _ (.tail _ (.tail _ (.head _))))
theorem dX1_build_100 : decode cX1_build 100 = .ok (.return_, 1) := dk_of dkc_56 (.tail _ (.tail _ (.tail _ (.tail _ (.head _)))))
def dkl_57 : List (Nat × Instr × Nat) := [(0, (.aload_n 0, 1)), (1, (.iload_n 1, 1)), (2, (.invokevirtual 61, 3)), (5, (.invokestatic 65, 3)), (8, (.ireturn, 1))]
theorem dkc_57 : ck9 ((bl9 cX1_sizeOf).drop 0) 0 dkl_57 = true := by decide +kernel
theorem dX1_sizeOf_0 : decode cX1_sizeOf 0 = .ok (.aload_n 0, 1) := dk_of dkc_57 (.head _)
theorem dX1_sizeOf_1 : decode cX1_sizeOf 1 = .ok (.iload_n 1, 1) := dk_of dkc_57 (.tail _ (.head _))
theorem dX1_sizeOf_2 : decode cX1_sizeOf 2 = .ok (.invokevirtual 61, 3) := dk_of dkc_57 (.tail _ (.tail _ (.head _)))
theorem dX1_sizeOf_5 : decode cX1_sizeOf 5 = .ok (.invokestatic 65, 3) := dk_of dkc_57 (.tail _ (.tail _ (.tail _ (.head _))))
theorem dX1_sizeOf_8 : decode cX1_sizeOf 8 = .ok (.ireturn, 1) := dk_of dkc_57 (.tail _ (.tail _ (.tail _ (.tail _ (.head _)))))
def dkl_58 : List (Nat × Instr × Nat) := [(0, (.iload_n 2, 1)), (1, (.istore_n 3, 1)), (2, (.iconst 0, 1)), (3, (.istore 4, 2)), (5, (.iload 4, 2)), (7, (.aload_n 0, 1)), (8, (.getfield 14, 3)), (11, (.getfield 44, 3)), (14, (.if_icmp .ge 35, 3)), (17, (.aload_n 0, 1)), (18, (.iload_n 1, 1)), (19, (.invokevirtual 61, 3)), (22, (.iload 4, 2)), (24, (.invokestatic 71, 3)), (27, (.land, 1)), (28, (.lconst 0, 1))]
theorem dkc_58 : ck9 ((bl9 cX1_memberOf).drop 0) 0 dkl_58 = true := by decide +kernel
theorem dX1_memberOf_0 : decode cX1_memberOf 0 = .ok (.iload_n 2, 1) := dk_of dkc_58 (.head _)
theorem dX1_memberOf_1 : decode cX1_memberOf 1 = .ok (.istore_n 3, 1) := dk_of dkc_58 (.tail _ (.head _))
theorem dX1_memberOf_2 : decode cX1_memberOf 2 = .ok (.iconst 0, 1) := dk_of dkc_58 (.tail _ (.tail _ (.head _)))
theorem dX1_memberOf_3 : decode cX1_memberOf 3 = .ok (.istore 4, 2) := dk_of dkc_58 (.tail _ (.tail _ (.tail _ (.head _))))
theorem dX1_memberOf_5 : decode cX1_memberOf 5 = .ok (.iload 4, 2) := dk_of dkc_58 (.tail _ (.tail _ (.tail _ (.tail _ (.head _)))))
theorem dX1_memberOf_7 : decode cX1_memberOf 7 = .ok (.aload_n 0, 1) := dk_of dkc_58 (.tail _ (.tail _ (.tail _ (.tail _ (.tail _ (.head _))))))
theorem dX1_memberOf_8 : decode cX1_memberOf 8 = .ok (.getfield 14, 3) := dk_of dkc_58 (.tail _ (.tail _ (.tail _ (.tail _ (.tail _ (.tail _ (.head _)))))))
theorem dX1_memberOf_11 : decode cX1_memberOf 11 = .ok (.getfield 44, 3) := dk_of dkc_58 (.tail _ (.tail _ (.tail _ (.tail _ (.tail _ (.tail _ (.tail _ (.head _))))))))
theorem dX1_memberOf_14 : decode cX1_memberOf 14 = .ok (.if_icmp .ge 35, 3) := dk_of dkc_58 (.tail _ (.tail _ (.tail _ (.tail _ (.tail _ (.tail _ (.tail _ (.tail _ (.head _)))))))))
theorem dX1_memberOf_17 : decode cX1_memberOf 17 = .ok (.aload_n 0, 1) := dk_of dkc_58 (.tail _ (.tail _ (.tail _ (.tail _ (.tail _ (.tail _ (.tail _ (.tail _ (.tail _ (.head _))))))))))
theorem dX1_memberOf_18 : decode cX1_memberOf 18 = .ok (.iload_n 1, 1) := dk_of dkc_58 (.tail _ (.tail _ (.tail _ (.tail _ (.tail _ (.tail _ (.tail _ (.tail _ (.tail _ (.tail _ (.head _)))))))))))
theorem dX1_memberOf_19 : decode cX1_memberOf 19 = .ok (.invokevirtual 61, 3) := dk_of dkc_58 (.tail _ (.tail _ (.tail _ (.tail _ (.tail _ (.tail _ (.tail _ (.tail _ (.tail _ (.tail _ (.tail _ (.head _))))))))))))
theorem dX1_memberOf_22 : decode cX1_memberOf 22 = .ok (.iload 4, 2) := dk_of dkc_58 (.tail _ (.tail _ (.tail _ (.tail _ (.tail _ (.tail _ (.tail _ (.tail _ (.tail _ (.tail _ (.tail _ (.tail _ (.head _)))))))))))))
theorem dX1_memberOf_24 : decode cX1_memberOf 24 = .ok (.invokestatic 71, 3) := dk_of dkc_58 (.tail _ (.tail _ (.tail _ (.tail _ (.tail _ (.tail _ (.tail _ (.tail _ (.tail _ (.tail _ (.tail _ (.tail _ (.tail _ (.head _))))))))))))))
theorem dX1_memberOf_27 : decode cX1_memberOf 27 = .ok (.land, 1) := dk_of dkc_58 (.tail _ (.tail _ (.tail _ (.tail _ (.tail _ (.tail _ (.tail _ (.tail _ (.tail _ (.tail _ (.tail _ (.tail _ (.tail _ (.tail _ (.head _)))))))))))))))
theorem dX1_memberOf_28 : decode cX1_memberOf 28 = .ok (.lconst 0, 1) := dk_of dkc_58 (.tail _ (.tail _ (.tail _ (.tail _ (.tail _ (.tail _ (.tail _ (.tail _ (.tail _ (.tail _ (.tail _ (.tail _ (.tail _ (.tail _ (.tail _ (.head _))))))))))))))))
def dkl_59 : List (Nat × Instr × Nat) := [(29, (.lcmp, 1)), (30, (.ifCond .eq 13, 3)), (33, (.iload_n 3, 1)), (34, (.ifCond .ne 6, 3)), (37, (.iload 4, 2)), (39, (.ireturn, 1)), (40, (.iinc 3 (-1), 3)), (43, (.iinc 4 1, 3)), (46, (.goto (-41), 3)), (49, (.iconst (-1), 1)), (50, (.ireturn, 1))]
theorem dkc_59 : ck9 ((bl9 cX1_memberOf).drop 29) 29 dkl_59 = true := by decide +kernel
theorem dX1_memberOf_29 : decode cX1_memberOf 29 = .ok (.lcmp, 1) := dk_of dkc_59 (.head _)
theorem dX1_memberOf_30 : decode cX1_memberOf 30 = .ok (.ifCond .eq 13, 3) := dk_of dkc_59 (.tail _ (.head _))
theorem dX1_memberOf_33 : decode cX1_memberOf 33 = .ok (.iload_n 3, 1) := dk_of dkc_59 (.tail _ (.tail _ (.head _)))
theorem dX1_memberOf_34 : decode cX1_memberOf 34 = .ok (.ifCond .ne 6, 3) := dk_of dkc_59 (.tail _ (.tail _ (.tail _ (.head _))))
theorem dX1_memberOf_37 : decode cX1_memberOf 37 = .ok (.iload 4, 2) := dk_of dkc_59 (.tail _ (.tail _ (.tail _ (.tail _ (.head _)))))
theorem dX1_memberOf_39 : decode cX1_memberOf 39 = .ok (.ireturn, 1) := dk_of dkc_59 (.tail _ (.tail _ (.tail _ (.tail _ (.tail _ (.head _))))))
theorem dX1_memberOf_40 : decode cX1_memberOf 40 = .ok (.iinc 3 (-1), 3) := dk_of dkc_59 (.tail _ (.tail _ (.tail _ (.tail _ (.tail _ (.tail _ (.head _)))))))
theorem dX1_memberOf_43 : decode cX1_memberOf 43 = .ok (.iinc 4 1, 3) := dk_of dkc_59 (.tail _ (.tail _ (.tail _ (.tail _ (.tail _ (.tail _ (.tail _ (.head _))))))))
theorem dX1_memberOf_46 : decode cX1_memberOf 46 = .ok (.goto (-41), 3) := dk_of dkc_59 (.tail _ (.tail _ (.tail _ (.tail _ (.tail _ (.tail _ (.tail _ (.tail _ (.head _)))))))))
theorem dX1_memberOf_49 : decode cX1_memberOf 49 = .ok (.iconst (-1), 1) := dk_of dkc_59 (.tail _ (.tail _ (.tail _ (.tail _ (.tail _ (.tail _ (.tail _ (.tail _ (.tail _ (.head _))))))))))
theorem dX1_memberOf_50 : decode cX1_memberOf 50 = .ok (.ireturn, 1) := dk_of dkc_59 (.tail _ (.tail _ (.tail _ (.tail _ (.tail _ (.tail _ (.tail _ (.tail _ (.tail _ (.tail _ (.head _)))))))))))
def dkl_60 : List (Nat × Instr × Nat) := [(0, (.lconst 0, 1)), (1, (.lstore_n 1, 1)), (2, (.iconst 0, 1)), (3, (.istore_n 3, 1)), (4, (.iload_n 3, 1)), (5, (.aload_n 0, 1)), (6, (.getfield 41, 3)), (9, (.if_icmp .ge 17, 3)), (12, (.lload_n 1, 1)), (13, (.aload_n 0, 1)), (14, (.iload_n 3, 1)), (15, (.invokevirtual 61, 3)), (18, (.lor, 1)), (19, (.lstore_n 1, 1)), (20, (.iinc 3 1, 3)), (23, (.goto (-19), 3))]
theorem dkc_60 : ck9 ((bl9 cX1_seen).drop 0) 0 dkl_60 = true := by decide +kernel
theorem dX1_seen_0 : decode cX1_seen 0 = .ok (.lconst 0, 1) := dk_of dkc_60 (.head _)
theorem dX1_seen_1 : decode cX1_seen 1 = .ok (.lstore_n 1, 1) := dk_of dkc_60 (.tail _ (.head _))
theorem dX1_seen_2 : decode cX1_seen 2 = .ok (.iconst 0, 1) := dk_of dkc_60 (.tail _ (.tail _ (.head _)))
theorem dX1_seen_3 : decode cX1_seen 3 = .ok (.istore_n 3, 1) := dk_of dkc_60 (.tail _ (.tail _ (.tail _ (.head _))))
theorem dX1_seen_4 : decode cX1_seen 4 = .ok (.iload_n 3, 1) := dk_of dkc_60 (.tail _ (.tail _ (.tail _ (.tail _ (.head _)))))
theorem dX1_seen_5 : decode cX1_seen 5 = .ok (.aload_n 0, 1) := dk_of dkc_60 (.tail _ (.tail _ (.tail _ (.tail _ (.tail _ (.head _))))))
theorem dX1_seen_6 : decode cX1_seen 6 = .ok (.getfield 41, 3) := dk_of dkc_60 (.tail _ (.tail _ (.tail _ (.tail _ (.tail _ (.tail _ (.head _)))))))
theorem dX1_seen_9 : decode cX1_seen 9 = .ok (.if_icmp .ge 17, 3) := dk_of dkc_60 (.tail _ (.tail _ (.tail _ (.tail _ (.tail _ (.tail _ (.tail _ (.head _))))))))
theorem dX1_seen_12 : decode cX1_seen 12 = .ok (.lload_n 1, 1) := dk_of dkc_60 (.tail _ (.tail _ (.tail _ (.tail _ (.tail _ (.tail _ (.tail _ (.tail _ (.head _)))))))))
theorem dX1_seen_13 : decode cX1_seen 13 = .ok (.aload_n 0, 1) := dk_of dkc_60 (.tail _ (.tail _ (.tail _ (.tail _ (.tail _ (.tail _ (.tail _ (.tail _ (.tail _ (.head _))))))))))
theorem dX1_seen_14 : decode cX1_seen 14 = .ok (.iload_n 3, 1) := dk_of dkc_60 (.tail _ (.tail _ (.tail _ (.tail _ (.tail _ (.tail _ (.tail _ (.tail _ (.tail _ (.tail _ (.head _)))))))))))
theorem dX1_seen_15 : decode cX1_seen 15 = .ok (.invokevirtual 61, 3) := dk_of dkc_60 (.tail _ (.tail _ (.tail _ (.tail _ (.tail _ (.tail _ (.tail _ (.tail _ (.tail _ (.tail _ (.tail _ (.head _))))))))))))
theorem dX1_seen_18 : decode cX1_seen 18 = .ok (.lor, 1) := dk_of dkc_60 (.tail _ (.tail _ (.tail _ (.tail _ (.tail _ (.tail _ (.tail _ (.tail _ (.tail _ (.tail _ (.tail _ (.tail _ (.head _)))))))))))))
theorem dX1_seen_19 : decode cX1_seen 19 = .ok (.lstore_n 1, 1) := dk_of dkc_60 (.tail _ (.tail _ (.tail _ (.tail _ (.tail _ (.tail _ (.tail _ (.tail _ (.tail _ (.tail _ (.tail _ (.tail _ (.tail _ (.head _))))))))))))))
theorem dX1_seen_20 : decode cX1_seen 20 = .ok (.iinc 3 1, 3) := dk_of dkc_60 (.tail _ (.tail _ (.tail _ (.tail _ (.tail _ (.tail _ (.tail _ (.tail _ (.tail _ (.tail _ (.tail _ (.tail _ (.tail _ (.tail _ (.head _)))))))))))))))
theorem dX1_seen_23 : decode cX1_seen 23 = .ok (.goto (-19), 3) := dk_of dkc_60 (.tail _ (.tail _ (.tail _ (.tail _ (.tail _ (.tail _ (.tail _ (.tail _ (.tail _ (.tail _ (.tail _ (.tail _ (.tail _ (.tail _ (.tail _ (.head _))))))))))))))))
def dkl_61 : List (Nat × Instr × Nat) := [(26, (.lload_n 1, 1)), (27, (.invokestatic 65, 3)), (30, (.ireturn, 1))]
theorem dkc_61 : ck9 ((bl9 cX1_seen).drop 26) 26 dkl_61 = true := by decide +kernel
theorem dX1_seen_26 : decode cX1_seen 26 = .ok (.lload_n 1, 1) := dk_of dkc_61 (.head _)
theorem dX1_seen_27 : decode cX1_seen 27 = .ok (.invokestatic 65, 3) := dk_of dkc_61 (.tail _ (.head _))
theorem dX1_seen_30 : decode cX1_seen 30 = .ok (.ireturn, 1) := dk_of dkc_61 (.tail _ (.tail _ (.head _)))
def dkl_62 : List (Nat × Instr × Nat) := [(0, (.iconst 0, 1)), (1, (.istore_n 1, 1)), (2, (.iconst 0, 1)), (3, (.istore_n 2, 1)), (4, (.iload_n 2, 1)), (5, (.aload_n 0, 1)), (6, (.getfield 41, 3)), (9, (.if_icmp .ge 53, 3)), (12, (.aload_n 0, 1)), (13, (.iload_n 2, 1)), (14, (.invokevirtual 74, 3)), (17, (.iconst 3, 1)), (18, (.if_icmp .ne 38, 3)), (21, (.aload_n 0, 1)), (22, (.getfield 14, 3)), (25, (.aload_n 0, 1))]
theorem dkc_62 : ck9 ((bl9 cX1_unitTriangles).drop 0) 0 dkl_62 = true := by decide +kernel
theorem dX1_unitTriangles_0 : decode cX1_unitTriangles 0 = .ok (.iconst 0, 1) := dk_of dkc_62 (.head _)
theorem dX1_unitTriangles_1 : decode cX1_unitTriangles 1 = .ok (.istore_n 1, 1) := dk_of dkc_62 (.tail _ (.head _))
theorem dX1_unitTriangles_2 : decode cX1_unitTriangles 2 = .ok (.iconst 0, 1) := dk_of dkc_62 (.tail _ (.tail _ (.head _)))
theorem dX1_unitTriangles_3 : decode cX1_unitTriangles 3 = .ok (.istore_n 2, 1) := dk_of dkc_62 (.tail _ (.tail _ (.tail _ (.head _))))
theorem dX1_unitTriangles_4 : decode cX1_unitTriangles 4 = .ok (.iload_n 2, 1) := dk_of dkc_62 (.tail _ (.tail _ (.tail _ (.tail _ (.head _)))))
theorem dX1_unitTriangles_5 : decode cX1_unitTriangles 5 = .ok (.aload_n 0, 1) := dk_of dkc_62 (.tail _ (.tail _ (.tail _ (.tail _ (.tail _ (.head _))))))
theorem dX1_unitTriangles_6 : decode cX1_unitTriangles 6 = .ok (.getfield 41, 3) := dk_of dkc_62 (.tail _ (.tail _ (.tail _ (.tail _ (.tail _ (.tail _ (.head _)))))))
theorem dX1_unitTriangles_9 : decode cX1_unitTriangles 9 = .ok (.if_icmp .ge 53, 3) := dk_of dkc_62 (.tail _ (.tail _ (.tail _ (.tail _ (.tail _ (.tail _ (.tail _ (.head _))))))))
theorem dX1_unitTriangles_12 : decode cX1_unitTriangles 12 = .ok (.aload_n 0, 1) := dk_of dkc_62 (.tail _ (.tail _ (.tail _ (.tail _ (.tail _ (.tail _ (.tail _ (.tail _ (.head _)))))))))
theorem dX1_unitTriangles_13 : decode cX1_unitTriangles 13 = .ok (.iload_n 2, 1) := dk_of dkc_62 (.tail _ (.tail _ (.tail _ (.tail _ (.tail _ (.tail _ (.tail _ (.tail _ (.tail _ (.head _))))))))))
theorem dX1_unitTriangles_14 : decode cX1_unitTriangles 14 = .ok (.invokevirtual 74, 3) := dk_of dkc_62 (.tail _ (.tail _ (.tail _ (.tail _ (.tail _ (.tail _ (.tail _ (.tail _ (.tail _ (.tail _ (.head _)))))))))))
theorem dX1_unitTriangles_17 : decode cX1_unitTriangles 17 = .ok (.iconst 3, 1) := dk_of dkc_62 (.tail _ (.tail _ (.tail _ (.tail _ (.tail _ (.tail _ (.tail _ (.tail _ (.tail _ (.tail _ (.tail _ (.head _))))))))))))
theorem dX1_unitTriangles_18 : decode cX1_unitTriangles 18 = .ok (.if_icmp .ne 38, 3) := dk_of dkc_62 (.tail _ (.tail _ (.tail _ (.tail _ (.tail _ (.tail _ (.tail _ (.tail _ (.tail _ (.tail _ (.tail _ (.tail _ (.head _)))))))))))))
theorem dX1_unitTriangles_21 : decode cX1_unitTriangles 21 = .ok (.aload_n 0, 1) := dk_of dkc_62 (.tail _ (.tail _ (.tail _ (.tail _ (.tail _ (.tail _ (.tail _ (.tail _ (.tail _ (.tail _ (.tail _ (.tail _ (.tail _ (.head _))))))))))))))
theorem dX1_unitTriangles_22 : decode cX1_unitTriangles 22 = .ok (.getfield 14, 3) := dk_of dkc_62 (.tail _ (.tail _ (.tail _ (.tail _ (.tail _ (.tail _ (.tail _ (.tail _ (.tail _ (.tail _ (.tail _ (.tail _ (.tail _ (.tail _ (.head _)))))))))))))))
theorem dX1_unitTriangles_25 : decode cX1_unitTriangles 25 = .ok (.aload_n 0, 1) := dk_of dkc_62 (.tail _ (.tail _ (.tail _ (.tail _ (.tail _ (.tail _ (.tail _ (.tail _ (.tail _ (.tail _ (.tail _ (.tail _ (.tail _ (.tail _ (.tail _ (.head _))))))))))))))))
def dkl_63 : List (Nat × Instr × Nat) := [(26, (.iload_n 2, 1)), (27, (.iconst 0, 1)), (28, (.invokevirtual 78, 3)), (31, (.aload_n 0, 1)), (32, (.iload_n 2, 1)), (33, (.iconst 1, 1)), (34, (.invokevirtual 78, 3)), (37, (.aload_n 0, 1)), (38, (.iload_n 2, 1)), (39, (.iconst 2, 1)), (40, (.invokevirtual 78, 3)), (43, (.invokevirtual 82, 3)), (46, (.invokestatic 86, 3)), (49, (.iconst 1, 1)), (50, (.if_icmp .ne 6, 3)), (53, (.iinc 1 1, 3))]
theorem dkc_63 : ck9 ((bl9 cX1_unitTriangles).drop 26) 26 dkl_63 = true := by decide +kernel
theorem dX1_unitTriangles_26 : decode cX1_unitTriangles 26 = .ok (.iload_n 2, 1) := dk_of dkc_63 (.head _)
theorem dX1_unitTriangles_27 : decode cX1_unitTriangles 27 = .ok (.iconst 0, 1) := dk_of dkc_63 (.tail _ (.head _))
theorem dX1_unitTriangles_28 : decode cX1_unitTriangles 28 = .ok (.invokevirtual 78, 3) := dk_of dkc_63 (.tail _ (.tail _ (.head _)))
theorem dX1_unitTriangles_31 : decode cX1_unitTriangles 31 = .ok (.aload_n 0, 1) := dk_of dkc_63 (.tail _ (.tail _ (.tail _ (.head _))))
theorem dX1_unitTriangles_32 : decode cX1_unitTriangles 32 = .ok (.iload_n 2, 1) := dk_of dkc_63 (.tail _ (.tail _ (.tail _ (.tail _ (.head _)))))
theorem dX1_unitTriangles_33 : decode cX1_unitTriangles 33 = .ok (.iconst 1, 1) := dk_of dkc_63 (.tail _ (.tail _ (.tail _ (.tail _ (.tail _ (.head _))))))
theorem dX1_unitTriangles_34 : decode cX1_unitTriangles 34 = .ok (.invokevirtual 78, 3) := dk_of dkc_63 (.tail _ (.tail _ (.tail _ (.tail _ (.tail _ (.tail _ (.head _)))))))
theorem dX1_unitTriangles_37 : decode cX1_unitTriangles 37 = .ok (.aload_n 0, 1) := dk_of dkc_63 (.tail _ (.tail _ (.tail _ (.tail _ (.tail _ (.tail _ (.tail _ (.head _))))))))
theorem dX1_unitTriangles_38 : decode cX1_unitTriangles 38 = .ok (.iload_n 2, 1) := dk_of dkc_63 (.tail _ (.tail _ (.tail _ (.tail _ (.tail _ (.tail _ (.tail _ (.tail _ (.head _)))))))))
theorem dX1_unitTriangles_39 : decode cX1_unitTriangles 39 = .ok (.iconst 2, 1) := dk_of dkc_63 (.tail _ (.tail _ (.tail _ (.tail _ (.tail _ (.tail _ (.tail _ (.tail _ (.tail _ (.head _))))))))))
theorem dX1_unitTriangles_40 : decode cX1_unitTriangles 40 = .ok (.invokevirtual 78, 3) := dk_of dkc_63 (.tail _ (.tail _ (.tail _ (.tail _ (.tail _ (.tail _ (.tail _ (.tail _ (.tail _ (.tail _ (.head _)))))))))))
theorem dX1_unitTriangles_43 : decode cX1_unitTriangles 43 = .ok (.invokevirtual 82, 3) := dk_of dkc_63 (.tail _ (.tail _ (.tail _ (.tail _ (.tail _ (.tail _ (.tail _ (.tail _ (.tail _ (.tail _ (.tail _ (.head _))))))))))))
theorem dX1_unitTriangles_46 : decode cX1_unitTriangles 46 = .ok (.invokestatic 86, 3) := dk_of dkc_63 (.tail _ (.tail _ (.tail _ (.tail _ (.tail _ (.tail _ (.tail _ (.tail _ (.tail _ (.tail _ (.tail _ (.tail _ (.head _)))))))))))))
theorem dX1_unitTriangles_49 : decode cX1_unitTriangles 49 = .ok (.iconst 1, 1) := dk_of dkc_63 (.tail _ (.tail _ (.tail _ (.tail _ (.tail _ (.tail _ (.tail _ (.tail _ (.tail _ (.tail _ (.tail _ (.tail _ (.tail _ (.head _))))))))))))))
theorem dX1_unitTriangles_50 : decode cX1_unitTriangles 50 = .ok (.if_icmp .ne 6, 3) := dk_of dkc_63 (.tail _ (.tail _ (.tail _ (.tail _ (.tail _ (.tail _ (.tail _ (.tail _ (.tail _ (.tail _ (.tail _ (.tail _ (.tail _ (.tail _ (.head _)))))))))))))))
theorem dX1_unitTriangles_53 : decode cX1_unitTriangles 53 = .ok (.iinc 1 1, 3) := dk_of dkc_63 (.tail _ (.tail _ (.tail _ (.tail _ (.tail _ (.tail _ (.tail _ (.tail _ (.tail _ (.tail _ (.tail _ (.tail _ (.tail _ (.tail _ (.tail _ (.head _))))))))))))))))
def dkl_64 : List (Nat × Instr × Nat) := [(56, (.iinc 2 1, 3)), (59, (.goto (-55), 3)), (62, (.iload_n 1, 1)), (63, (.ireturn, 1))]
theorem dkc_64 : ck9 ((bl9 cX1_unitTriangles).drop 56) 56 dkl_64 = true := by decide +kernel
theorem dX1_unitTriangles_56 : decode cX1_unitTriangles 56 = .ok (.iinc 2 1, 3) := dk_of dkc_64 (.head _)
theorem dX1_unitTriangles_59 : decode cX1_unitTriangles 59 = .ok (.goto (-55), 3) := dk_of dkc_64 (.tail _ (.head _))
theorem dX1_unitTriangles_62 : decode cX1_unitTriangles 62 = .ok (.iload_n 1, 1) := dk_of dkc_64 (.tail _ (.tail _ (.head _)))
theorem dX1_unitTriangles_63 : decode cX1_unitTriangles 63 = .ok (.ireturn, 1) := dk_of dkc_64 (.tail _ (.tail _ (.tail _ (.head _))))
def dkl_65 : List (Nat × Instr × Nat) := [(0, (.lconst 1, 1)), (1, (.bipush 62, 2)), (3, (.iload_n 0, 1)), (4, (.isub, 1)), (5, (.lshl, 1)), (6, (.lreturn, 1))]
theorem dkc_65 : ck9 ((bl9 cX1_bit).drop 0) 0 dkl_65 = true := by decide +kernel
theorem dX1_bit_0 : decode cX1_bit 0 = .ok (.lconst 1, 1) := dk_of dkc_65 (.head _)
theorem dX1_bit_1 : decode cX1_bit 1 = .ok (.bipush 62, 2) := dk_of dkc_65 (.tail _ (.head _))
theorem dX1_bit_3 : decode cX1_bit 3 = .ok (.iload_n 0, 1) := dk_of dkc_65 (.tail _ (.tail _ (.head _)))
theorem dX1_bit_4 : decode cX1_bit 4 = .ok (.isub, 1) := dk_of dkc_65 (.tail _ (.tail _ (.tail _ (.head _))))
theorem dX1_bit_5 : decode cX1_bit 5 = .ok (.lshl, 1) := dk_of dkc_65 (.tail _ (.tail _ (.tail _ (.tail _ (.head _)))))
theorem dX1_bit_6 : decode cX1_bit 6 = .ok (.lreturn, 1) := dk_of dkc_65 (.tail _ (.tail _ (.tail _ (.tail _ (.tail _ (.head _))))))
def dkl_66 : List (Nat × Instr × Nat) := [(0, (.iload_n 1, 1)), (1, (.ifCond .lt 21, 3)), (4, (.iload_n 1, 1)), (5, (.aload_n 0, 1)), (6, (.getfield 20, 3)), (9, (.arraylength, 1)), (10, (.if_icmp .ge 12, 3)), (13, (.aload_n 0, 1)), (14, (.getfield 20, 3)), (17, (.iload_n 1, 1)), (18, (.laload, 1)), (19, (.goto 4, 3)), (22, (.lconst 0, 1)), (23, (.lreturn, 1))]
theorem dkc_66 : ck9 ((bl9 cX1_setOf).drop 0) 0 dkl_66 = true := by decide +kernel
theorem dX1_setOf_0 : decode cX1_setOf 0 = .ok (.iload_n 1, 1) := dk_of dkc_66 (.head _)
theorem dX1_setOf_1 : decode cX1_setOf 1 = .ok (.ifCond .lt 21, 3) := dk_of dkc_66 (.tail _ (.head _))
theorem dX1_setOf_4 : decode cX1_setOf 4 = .ok (.iload_n 1, 1) := dk_of dkc_66 (.tail _ (.tail _ (.head _)))
theorem dX1_setOf_5 : decode cX1_setOf 5 = .ok (.aload_n 0, 1) := dk_of dkc_66 (.tail _ (.tail _ (.tail _ (.head _))))
theorem dX1_setOf_6 : decode cX1_setOf 6 = .ok (.getfield 20, 3) := dk_of dkc_66 (.tail _ (.tail _ (.tail _ (.tail _ (.head _)))))
theorem dX1_setOf_9 : decode cX1_setOf 9 = .ok (.arraylength, 1) := dk_of dkc_66 (.tail _ (.tail _ (.tail _ (.tail _ (.tail _ (.head _))))))
theorem dX1_setOf_10 : decode cX1_setOf 10 = .ok (.if_icmp .ge 12, 3) := dk_of dkc_66 (.tail _ (.tail _ (.tail _ (.tail _ (.tail _ (.tail _ (.head _)))))))
theorem dX1_setOf_13 : decode cX1_setOf 13 = .ok (.aload_n 0, 1) := dk_of dkc_66 (.tail _ (.tail _ (.tail _ (.tail _ (.tail _ (.tail _ (.tail _ (.head _))))))))
theorem dX1_setOf_14 : decode cX1_setOf 14 = .ok (.getfield 20, 3) := dk_of dkc_66 (.tail _ (.tail _ (.tail _ (.tail _ (.tail _ (.tail _ (.tail _ (.tail _ (.head _)))))))))
theorem dX1_setOf_17 : decode cX1_setOf 17 = .ok (.iload_n 1, 1) := dk_of dkc_66 (.tail _ (.tail _ (.tail _ (.tail _ (.tail _ (.tail _ (.tail _ (.tail _ (.tail _ (.head _))))))))))
theorem dX1_setOf_18 : decode cX1_setOf 18 = .ok (.laload, 1) := dk_of dkc_66 (.tail _ (.tail _ (.tail _ (.tail _ (.tail _ (.tail _ (.tail _ (.tail _ (.tail _ (.tail _ (.head _)))))))))))
theorem dX1_setOf_19 : decode cX1_setOf 19 = .ok (.goto 4, 3) := dk_of dkc_66 (.tail _ (.tail _ (.tail _ (.tail _ (.tail _ (.tail _ (.tail _ (.tail _ (.tail _ (.tail _ (.tail _ (.head _))))))))))))
theorem dX1_setOf_22 : decode cX1_setOf 22 = .ok (.lconst 0, 1) := dk_of dkc_66 (.tail _ (.tail _ (.tail _ (.tail _ (.tail _ (.tail _ (.tail _ (.tail _ (.tail _ (.tail _ (.tail _ (.tail _ (.head _)))))))))))))
theorem dX1_setOf_23 : decode cX1_setOf 23 = .ok (.lreturn, 1) := dk_of dkc_66 (.tail _ (.tail _ (.tail _ (.tail _ (.tail _ (.tail _ (.tail _ (.tail _ (.tail _ (.tail _ (.tail _ (.tail _ (.tail _ (.head _))))))))))))))
def dkl_67 : List (Nat × Instr × Nat) := [(0, (.iconst (-1), 1)), (1, (.istore 4, 2)), (3, (.iconst 0, 1)), (4, (.istore 5, 2)), (6, (.iload 5, 2)), (8, (.aload_n 0, 1)), (9, (.getfield 14, 3)), (12, (.getfield 44, 3)), (15, (.if_icmp .ge 46, 3)), (18, (.aload_n 0, 1)), (19, (.getfield 14, 3)), (22, (.iload_n 2, 1)), (23, (.iload_n 3, 1)), (24, (.iload 5, 2)), (26, (.invokevirtual 82, 3)), (29, (.ifCond .le 26, 3))]
theorem dkc_67 : ck9 ((bl9 cX1_lowestLeft).drop 0) 0 dkl_67 = true := by decide +kernel
theorem dX1_lowestLeft_0 : decode cX1_lowestLeft 0 = .ok (.iconst (-1), 1) := dk_of dkc_67 (.head _)
theorem dX1_lowestLeft_1 : decode cX1_lowestLeft 1 = .ok (.istore 4, 2) := dk_of dkc_67 (.tail _ (.head _))
theorem dX1_lowestLeft_3 : decode cX1_lowestLeft 3 = .ok (.iconst 0, 1) := dk_of dkc_67 (.tail _ (.tail _ (.head _)))
theorem dX1_lowestLeft_4 : decode cX1_lowestLeft 4 = .ok (.istore 5, 2) := dk_of dkc_67 (.tail _ (.tail _ (.tail _ (.head _))))
theorem dX1_lowestLeft_6 : decode cX1_lowestLeft 6 = .ok (.iload 5, 2) := dk_of dkc_67 (.tail _ (.tail _ (.tail _ (.tail _ (.head _)))))
theorem dX1_lowestLeft_8 : decode cX1_lowestLeft 8 = .ok (.aload_n 0, 1) := dk_of dkc_67 (.tail _ (.tail _ (.tail _ (.tail _ (.tail _ (.head _))))))
theorem dX1_lowestLeft_9 : decode cX1_lowestLeft 9 = .ok (.getfield 14, 3) := dk_of dkc_67 (.tail _ (.tail _ (.tail _ (.tail _ (.tail _ (.tail _ (.head _)))))))
theorem dX1_lowestLeft_12 : decode cX1_lowestLeft 12 = .ok (.getfield 44, 3) := dk_of dkc_67 (.tail _ (.tail _ (.tail _ (.tail _ (.tail _ (.tail _ (.tail _ (.head _))))))))
theorem dX1_lowestLeft_15 : decode cX1_lowestLeft 15 = .ok (.if_icmp .ge 46, 3) := dk_of dkc_67 (.tail _ (.tail _ (.tail _ (.tail _ (.tail _ (.tail _ (.tail _ (.tail _ (.head _)))))))))
theorem dX1_lowestLeft_18 : decode cX1_lowestLeft 18 = .ok (.aload_n 0, 1) := dk_of dkc_67 (.tail _ (.tail _ (.tail _ (.tail _ (.tail _ (.tail _ (.tail _ (.tail _ (.tail _ (.head _))))))))))
theorem dX1_lowestLeft_19 : decode cX1_lowestLeft 19 = .ok (.getfield 14, 3) := dk_of dkc_67 (.tail _ (.tail _ (.tail _ (.tail _ (.tail _ (.tail _ (.tail _ (.tail _ (.tail _ (.tail _ (.head _)))))))))))
theorem dX1_lowestLeft_22 : decode cX1_lowestLeft 22 = .ok (.iload_n 2, 1) := dk_of dkc_67 (.tail _ (.tail _ (.tail _ (.tail _ (.tail _ (.tail _ (.tail _ (.tail _ (.tail _ (.tail _ (.tail _ (.head _))))))))))))
theorem dX1_lowestLeft_23 : decode cX1_lowestLeft 23 = .ok (.iload_n 3, 1) := dk_of dkc_67 (.tail _ (.tail _ (.tail _ (.tail _ (.tail _ (.tail _ (.tail _ (.tail _ (.tail _ (.tail _ (.tail _ (.tail _ (.head _)))))))))))))
theorem dX1_lowestLeft_24 : decode cX1_lowestLeft 24 = .ok (.iload 5, 2) := dk_of dkc_67 (.tail _ (.tail _ (.tail _ (.tail _ (.tail _ (.tail _ (.tail _ (.tail _ (.tail _ (.tail _ (.tail _ (.tail _ (.tail _ (.head _))))))))))))))
theorem dX1_lowestLeft_26 : decode cX1_lowestLeft 26 = .ok (.invokevirtual 82, 3) := dk_of dkc_67 (.tail _ (.tail _ (.tail _ (.tail _ (.tail _ (.tail _ (.tail _ (.tail _ (.tail _ (.tail _ (.tail _ (.tail _ (.tail _ (.tail _ (.head _)))))))))))))))
theorem dX1_lowestLeft_29 : decode cX1_lowestLeft 29 = .ok (.ifCond .le 26, 3) := dk_of dkc_67 (.tail _ (.tail _ (.tail _ (.tail _ (.tail _ (.tail _ (.tail _ (.tail _ (.tail _ (.tail _ (.tail _ (.tail _ (.tail _ (.tail _ (.tail _ (.head _))))))))))))))))
def dkl_68 : List (Nat × Instr × Nat) := [(32, (.iload 4, 2)), (34, (.ifCond .lt 17, 3)), (37, (.aload_n 0, 1)), (38, (.aload_n 1, 1)), (39, (.iload_n 2, 1)), (40, (.iload_n 3, 1)), (41, (.iload 4, 2)), (43, (.iload 5, 2)), (45, (.invokevirtual 91, 3)), (48, (.ifCond .ge 7, 3)), (51, (.iload 5, 2)), (53, (.istore 4, 2)), (55, (.iinc 5 1, 3)), (58, (.goto (-52), 3)), (61, (.iload 4, 2)), (63, (.ireturn, 1))]
theorem dkc_68 : ck9 ((bl9 cX1_lowestLeft).drop 32) 32 dkl_68 = true := by decide +kernel
theorem dX1_lowestLeft_32 : decode cX1_lowestLeft 32 = .ok (.iload 4, 2) := dk_of dkc_68 (.head _)
theorem dX1_lowestLeft_34 : decode cX1_lowestLeft 34 = .ok (.ifCond .lt 17, 3) := dk_of dkc_68 (.tail _ (.head _))
theorem dX1_lowestLeft_37 : decode cX1_lowestLeft 37 = .ok (.aload_n 0, 1) := dk_of dkc_68 (.tail _ (.tail _ (.head _)))
theorem dX1_lowestLeft_38 : decode cX1_lowestLeft 38 = .ok (.aload_n 1, 1) := dk_of dkc_68 (.tail _ (.tail _ (.tail _ (.head _))))
theorem dX1_lowestLeft_39 : decode cX1_lowestLeft 39 = .ok (.iload_n 2, 1) := dk_of dkc_68 (.tail _ (.tail _ (.tail _ (.tail _ (.head _)))))
theorem dX1_lowestLeft_40 : decode cX1_lowestLeft 40 = .ok (.iload_n 3, 1) := dk_of dkc_68 (.tail _ (.tail _ (.tail _ (.tail _ (.tail _ (.head _))))))
theorem dX1_lowestLeft_41 : decode cX1_lowestLeft 41 = .ok (.iload 4, 2) := dk_of dkc_68 (.tail _ (.tail _ (.tail _ (.tail _ (.tail _ (.tail _ (.head _)))))))
theorem dX1_lowestLeft_43 : decode cX1_lowestLeft 43 = .ok (.iload 5, 2) := dk_of dkc_68 (.tail _ (.tail _ (.tail _ (.tail _ (.tail _ (.tail _ (.tail _ (.head _))))))))
theorem dX1_lowestLeft_45 : decode cX1_lowestLeft 45 = .ok (.invokevirtual 91, 3) := dk_of dkc_68 (.tail _ (.tail _ (.tail _ (.tail _ (.tail _ (.tail _ (.tail _ (.tail _ (.head _)))))))))
theorem dX1_lowestLeft_48 : decode cX1_lowestLeft 48 = .ok (.ifCond .ge 7, 3) := dk_of dkc_68 (.tail _ (.tail _ (.tail _ (.tail _ (.tail _ (.tail _ (.tail _ (.tail _ (.tail _ (.head _))))))))))
theorem dX1_lowestLeft_51 : decode cX1_lowestLeft 51 = .ok (.iload 5, 2) := dk_of dkc_68 (.tail _ (.tail _ (.tail _ (.tail _ (.tail _ (.tail _ (.tail _ (.tail _ (.tail _ (.tail _ (.head _)))))))))))
theorem dX1_lowestLeft_53 : decode cX1_lowestLeft 53 = .ok (.istore 4, 2) := dk_of dkc_68 (.tail _ (.tail _ (.tail _ (.tail _ (.tail _ (.tail _ (.tail _ (.tail _ (.tail _ (.tail _ (.tail _ (.head _))))))))))))
theorem dX1_lowestLeft_55 : decode cX1_lowestLeft 55 = .ok (.iinc 5 1, 3) := dk_of dkc_68 (.tail _ (.tail _ (.tail _ (.tail _ (.tail _ (.tail _ (.tail _ (.tail _ (.tail _ (.tail _ (.tail _ (.tail _ (.head _)))))))))))))
theorem dX1_lowestLeft_58 : decode cX1_lowestLeft 58 = .ok (.goto (-52), 3) := dk_of dkc_68 (.tail _ (.tail _ (.tail _ (.tail _ (.tail _ (.tail _ (.tail _ (.tail _ (.tail _ (.tail _ (.tail _ (.tail _ (.tail _ (.head _))))))))))))))
theorem dX1_lowestLeft_61 : decode cX1_lowestLeft 61 = .ok (.iload 4, 2) := dk_of dkc_68 (.tail _ (.tail _ (.tail _ (.tail _ (.tail _ (.tail _ (.tail _ (.tail _ (.tail _ (.tail _ (.tail _ (.tail _ (.tail _ (.tail _ (.head _)))))))))))))))
theorem dX1_lowestLeft_63 : decode cX1_lowestLeft 63 = .ok (.ireturn, 1) := dk_of dkc_68 (.tail _ (.tail _ (.tail _ (.tail _ (.tail _ (.tail _ (.tail _ (.tail _ (.tail _ (.tail _ (.tail _ (.tail _ (.tail _ (.tail _ (.tail _ (.head _))))))))))))))))
def dkl_69 : List (Nat × Instr × Nat) := [(0, (.iload_n 2, 1)), (1, (.iload_n 3, 1)), (2, (.invokestatic 95, 3)), (5, (.iload 4, 2)), (7, (.iload 5, 2)), (9, (.invokestatic 95, 3)), (12, (.invokestatic 95, 3)), (15, (.istore 6, 2)), (17, (.iload_n 2, 1)), (18, (.iload_n 3, 1)), (19, (.invokestatic 98, 3)), (22, (.iload 4, 2)), (24, (.iload 5, 2)), (26, (.invokestatic 98, 3)), (29, (.invokestatic 98, 3)), (32, (.istore 7, 2))]
theorem dkc_69 : ck9 ((bl9 cX1_above).drop 0) 0 dkl_69 = true := by decide +kernel
theorem dX1_above_0 : decode cX1_above 0 = .ok (.iload_n 2, 1) := dk_of dkc_69 (.head _)
theorem dX1_above_1 : decode cX1_above 1 = .ok (.iload_n 3, 1) := dk_of dkc_69 (.tail _ (.head _))
theorem dX1_above_2 : decode cX1_above 2 = .ok (.invokestatic 95, 3) := dk_of dkc_69 (.tail _ (.tail _ (.head _)))
theorem dX1_above_5 : decode cX1_above 5 = .ok (.iload 4, 2) := dk_of dkc_69 (.tail _ (.tail _ (.tail _ (.head _))))
theorem dX1_above_7 : decode cX1_above 7 = .ok (.iload 5, 2) := dk_of dkc_69 (.tail _ (.tail _ (.tail _ (.tail _ (.head _)))))
theorem dX1_above_9 : decode cX1_above 9 = .ok (.invokestatic 95, 3) := dk_of dkc_69 (.tail _ (.tail _ (.tail _ (.tail _ (.tail _ (.head _))))))
theorem dX1_above_12 : decode cX1_above 12 = .ok (.invokestatic 95, 3) := dk_of dkc_69 (.tail _ (.tail _ (.tail _ (.tail _ (.tail _ (.tail _ (.head _)))))))
theorem dX1_above_15 : decode cX1_above 15 = .ok (.istore 6, 2) := dk_of dkc_69 (.tail _ (.tail _ (.tail _ (.tail _ (.tail _ (.tail _ (.tail _ (.head _))))))))
theorem dX1_above_17 : decode cX1_above 17 = .ok (.iload_n 2, 1) := dk_of dkc_69 (.tail _ (.tail _ (.tail _ (.tail _ (.tail _ (.tail _ (.tail _ (.tail _ (.head _)))))))))
theorem dX1_above_18 : decode cX1_above 18 = .ok (.iload_n 3, 1) := dk_of dkc_69 (.tail _ (.tail _ (.tail _ (.tail _ (.tail _ (.tail _ (.tail _ (.tail _ (.tail _ (.head _))))))))))
theorem dX1_above_19 : decode cX1_above 19 = .ok (.invokestatic 98, 3) := dk_of dkc_69 (.tail _ (.tail _ (.tail _ (.tail _ (.tail _ (.tail _ (.tail _ (.tail _ (.tail _ (.tail _ (.head _)))))))))))
theorem dX1_above_22 : decode cX1_above 22 = .ok (.iload 4, 2) := dk_of dkc_69 (.tail _ (.tail _ (.tail _ (.tail _ (.tail _ (.tail _ (.tail _ (.tail _ (.tail _ (.tail _ (.tail _ (.head _))))))))))))
theorem dX1_above_24 : decode cX1_above 24 = .ok (.iload 5, 2) := dk_of dkc_69 (.tail _ (.tail _ (.tail _ (.tail _ (.tail _ (.tail _ (.tail _ (.tail _ (.tail _ (.tail _ (.tail _ (.tail _ (.head _)))))))))))))
theorem dX1_above_26 : decode cX1_above 26 = .ok (.invokestatic 98, 3) := dk_of dkc_69 (.tail _ (.tail _ (.tail _ (.tail _ (.tail _ (.tail _ (.tail _ (.tail _ (.tail _ (.tail _ (.tail _ (.tail _ (.tail _ (.head _))))))))))))))
theorem dX1_above_29 : decode cX1_above 29 = .ok (.invokestatic 98, 3) := dk_of dkc_69 (.tail _ (.tail _ (.tail _ (.tail _ (.tail _ (.tail _ (.tail _ (.tail _ (.tail _ (.tail _ (.tail _ (.tail _ (.tail _ (.tail _ (.head _)))))))))))))))
theorem dX1_above_32 : decode cX1_above 32 = .ok (.istore 7, 2) := dk_of dkc_69 (.tail _ (.tail _ (.tail _ (.tail _ (.tail _ (.tail _ (.tail _ (.tail _ (.tail _ (.tail _ (.tail _ (.tail _ (.tail _ (.tail _ (.tail _ (.head _))))))))))))))))
def dkl_70 : List (Nat × Instr × Nat) := [(34, (.iload 7, 2)), (36, (.ifCond .lt 10, 3)), (39, (.iload 6, 2)), (41, (.aload_n 1, 1)), (42, (.arraylength, 1)), (43, (.if_icmp .lt 5, 3)), (46, (.iconst 0, 1)), (47, (.ireturn, 1)), (48, (.aload_n 0, 1)), (49, (.getfield 14, 3)), (52, (.iload_n 2, 1)), (53, (.iload_n 3, 1)), (54, (.iload 4, 2)), (56, (.invokevirtual 82, 3)), (59, (.aload_n 1, 1)), (60, (.iload 5, 2))]
theorem dkc_70 : ck9 ((bl9 cX1_above).drop 34) 34 dkl_70 = true := by decide +kernel
theorem dX1_above_34 : decode cX1_above 34 = .ok (.iload 7, 2) := dk_of dkc_70 (.head _)
theorem dX1_above_36 : decode cX1_above 36 = .ok (.ifCond .lt 10, 3) := dk_of dkc_70 (.tail _ (.head _))
theorem dX1_above_39 : decode cX1_above 39 = .ok (.iload 6, 2) := dk_of dkc_70 (.tail _ (.tail _ (.head _)))
theorem dX1_above_41 : decode cX1_above 41 = .ok (.aload_n 1, 1) := dk_of dkc_70 (.tail _ (.tail _ (.tail _ (.head _))))
theorem dX1_above_42 : decode cX1_above 42 = .ok (.arraylength, 1) := dk_of dkc_70 (.tail _ (.tail _ (.tail _ (.tail _ (.head _)))))
theorem dX1_above_43 : decode cX1_above 43 = .ok (.if_icmp .lt 5, 3) := dk_of dkc_70 (.tail _ (.tail _ (.tail _ (.tail _ (.tail _ (.head _))))))
theorem dX1_above_46 : decode cX1_above 46 = .ok (.iconst 0, 1) := dk_of dkc_70 (.tail _ (.tail _ (.tail _ (.tail _ (.tail _ (.tail _ (.head _)))))))
theorem dX1_above_47 : decode cX1_above 47 = .ok (.ireturn, 1) := dk_of dkc_70 (.tail _ (.tail _ (.tail _ (.tail _ (.tail _ (.tail _ (.tail _ (.head _))))))))
theorem dX1_above_48 : decode cX1_above 48 = .ok (.aload_n 0, 1) := dk_of dkc_70 (.tail _ (.tail _ (.tail _ (.tail _ (.tail _ (.tail _ (.tail _ (.tail _ (.head _)))))))))
theorem dX1_above_49 : decode cX1_above 49 = .ok (.getfield 14, 3) := dk_of dkc_70 (.tail _ (.tail _ (.tail _ (.tail _ (.tail _ (.tail _ (.tail _ (.tail _ (.tail _ (.head _))))))))))
theorem dX1_above_52 : decode cX1_above 52 = .ok (.iload_n 2, 1) := dk_of dkc_70 (.tail _ (.tail _ (.tail _ (.tail _ (.tail _ (.tail _ (.tail _ (.tail _ (.tail _ (.tail _ (.head _)))))))))))
theorem dX1_above_53 : decode cX1_above 53 = .ok (.iload_n 3, 1) := dk_of dkc_70 (.tail _ (.tail _ (.tail _ (.tail _ (.tail _ (.tail _ (.tail _ (.tail _ (.tail _ (.tail _ (.tail _ (.head _))))))))))))
theorem dX1_above_54 : decode cX1_above 54 = .ok (.iload 4, 2) := dk_of dkc_70 (.tail _ (.tail _ (.tail _ (.tail _ (.tail _ (.tail _ (.tail _ (.tail _ (.tail _ (.tail _ (.tail _ (.tail _ (.head _)))))))))))))
theorem dX1_above_56 : decode cX1_above 56 = .ok (.invokevirtual 82, 3) := dk_of dkc_70 (.tail _ (.tail _ (.tail _ (.tail _ (.tail _ (.tail _ (.tail _ (.tail _ (.tail _ (.tail _ (.tail _ (.tail _ (.tail _ (.head _))))))))))))))
theorem dX1_above_59 : decode cX1_above 59 = .ok (.aload_n 1, 1) := dk_of dkc_70 (.tail _ (.tail _ (.tail _ (.tail _ (.tail _ (.tail _ (.tail _ (.tail _ (.tail _ (.tail _ (.tail _ (.tail _ (.tail _ (.tail _ (.head _)))))))))))))))
theorem dX1_above_60 : decode cX1_above 60 = .ok (.iload 5, 2) := dk_of dkc_70 (.tail _ (.tail _ (.tail _ (.tail _ (.tail _ (.tail _ (.tail _ (.tail _ (.tail _ (.tail _ (.tail _ (.tail _ (.tail _ (.tail _ (.tail _ (.head _))))))))))))))))
def dkl_71 : List (Nat × Instr × Nat) := [(62, (.iaload, 1)), (63, (.aload_n 1, 1)), (64, (.iload_n 2, 1)), (65, (.iaload, 1)), (66, (.isub, 1)), (67, (.imul, 1)), (68, (.aload_n 0, 1)), (69, (.getfield 14, 3)), (72, (.iload_n 2, 1)), (73, (.iload 5, 2)), (75, (.iload 4, 2)), (77, (.invokevirtual 82, 3)), (80, (.aload_n 1, 1)), (81, (.iload_n 3, 1)), (82, (.iaload, 1)), (83, (.aload_n 1, 1))]
theorem dkc_71 : ck9 ((bl9 cX1_above).drop 62) 62 dkl_71 = true := by decide +kernel
theorem dX1_above_62 : decode cX1_above 62 = .ok (.iaload, 1) := dk_of dkc_71 (.head _)
theorem dX1_above_63 : decode cX1_above 63 = .ok (.aload_n 1, 1) := dk_of dkc_71 (.tail _ (.head _))
theorem dX1_above_64 : decode cX1_above 64 = .ok (.iload_n 2, 1) := dk_of dkc_71 (.tail _ (.tail _ (.head _)))
theorem dX1_above_65 : decode cX1_above 65 = .ok (.iaload, 1) := dk_of dkc_71 (.tail _ (.tail _ (.tail _ (.head _))))
theorem dX1_above_66 : decode cX1_above 66 = .ok (.isub, 1) := dk_of dkc_71 (.tail _ (.tail _ (.tail _ (.tail _ (.head _)))))
theorem dX1_above_67 : decode cX1_above 67 = .ok (.imul, 1) := dk_of dkc_71 (.tail _ (.tail _ (.tail _ (.tail _ (.tail _ (.head _))))))
theorem dX1_above_68 : decode cX1_above 68 = .ok (.aload_n 0, 1) := dk_of dkc_71 (.tail _ (.tail _ (.tail _ (.tail _ (.tail _ (.tail _ (.head _)))))))
theorem dX1_above_69 : decode cX1_above 69 = .ok (.getfield 14, 3) := dk_of dkc_71 (.tail _ (.tail _ (.tail _ (.tail _ (.tail _ (.tail _ (.tail _ (.head _))))))))
theorem dX1_above_72 : decode cX1_above 72 = .ok (.iload_n 2, 1) := dk_of dkc_71 (.tail _ (.tail _ (.tail _ (.tail _ (.tail _ (.tail _ (.tail _ (.tail _ (.head _)))))))))
theorem dX1_above_73 : decode cX1_above 73 = .ok (.iload 5, 2) := dk_of dkc_71 (.tail _ (.tail _ (.tail _ (.tail _ (.tail _ (.tail _ (.tail _ (.tail _ (.tail _ (.head _))))))))))
theorem dX1_above_75 : decode cX1_above 75 = .ok (.iload 4, 2) := dk_of dkc_71 (.tail _ (.tail _ (.tail _ (.tail _ (.tail _ (.tail _ (.tail _ (.tail _ (.tail _ (.tail _ (.head _)))))))))))
theorem dX1_above_77 : decode cX1_above 77 = .ok (.invokevirtual 82, 3) := dk_of dkc_71 (.tail _ (.tail _ (.tail _ (.tail _ (.tail _ (.tail _ (.tail _ (.tail _ (.tail _ (.tail _ (.tail _ (.head _))))))))))))
theorem dX1_above_80 : decode cX1_above 80 = .ok (.aload_n 1, 1) := dk_of dkc_71 (.tail _ (.tail _ (.tail _ (.tail _ (.tail _ (.tail _ (.tail _ (.tail _ (.tail _ (.tail _ (.tail _ (.tail _ (.head _)))))))))))))
theorem dX1_above_81 : decode cX1_above 81 = .ok (.iload_n 3, 1) := dk_of dkc_71 (.tail _ (.tail _ (.tail _ (.tail _ (.tail _ (.tail _ (.tail _ (.tail _ (.tail _ (.tail _ (.tail _ (.tail _ (.tail _ (.head _))))))))))))))
theorem dX1_above_82 : decode cX1_above 82 = .ok (.iaload, 1) := dk_of dkc_71 (.tail _ (.tail _ (.tail _ (.tail _ (.tail _ (.tail _ (.tail _ (.tail _ (.tail _ (.tail _ (.tail _ (.tail _ (.tail _ (.tail _ (.head _)))))))))))))))
theorem dX1_above_83 : decode cX1_above 83 = .ok (.aload_n 1, 1) := dk_of dkc_71 (.tail _ (.tail _ (.tail _ (.tail _ (.tail _ (.tail _ (.tail _ (.tail _ (.tail _ (.tail _ (.tail _ (.tail _ (.tail _ (.tail _ (.tail _ (.head _))))))))))))))))
def dkl_72 : List (Nat × Instr × Nat) := [(84, (.iload_n 2, 1)), (85, (.iaload, 1)), (86, (.isub, 1)), (87, (.imul, 1)), (88, (.isub, 1)), (89, (.aload_n 0, 1)), (90, (.getfield 14, 3)), (93, (.iload_n 2, 1)), (94, (.iload_n 3, 1)), (95, (.iload 5, 2)), (97, (.invokevirtual 82, 3)), (100, (.aload_n 1, 1)), (101, (.iload 4, 2)), (103, (.iaload, 1)), (104, (.aload_n 1, 1)), (105, (.iload_n 2, 1))]
theorem dkc_72 : ck9 ((bl9 cX1_above).drop 84) 84 dkl_72 = true := by decide +kernel
theorem dX1_above_84 : decode cX1_above 84 = .ok (.iload_n 2, 1) := dk_of dkc_72 (.head _)
theorem dX1_above_85 : decode cX1_above 85 = .ok (.iaload, 1) := dk_of dkc_72 (.tail _ (.head _))
theorem dX1_above_86 : decode cX1_above 86 = .ok (.isub, 1) := dk_of dkc_72 (.tail _ (.tail _ (.head _)))
theorem dX1_above_87 : decode cX1_above 87 = .ok (.imul, 1) := dk_of dkc_72 (.tail _ (.tail _ (.tail _ (.head _))))
theorem dX1_above_88 : decode cX1_above 88 = .ok (.isub, 1) := dk_of dkc_72 (.tail _ (.tail _ (.tail _ (.tail _ (.head _)))))
theorem dX1_above_89 : decode cX1_above 89 = .ok (.aload_n 0, 1) := dk_of dkc_72 (.tail _ (.tail _ (.tail _ (.tail _ (.tail _ (.head _))))))
theorem dX1_above_90 : decode cX1_above 90 = .ok (.getfield 14, 3) := dk_of dkc_72 (.tail _ (.tail _ (.tail _ (.tail _ (.tail _ (.tail _ (.head _)))))))
theorem dX1_above_93 : decode cX1_above 93 = .ok (.iload_n 2, 1) := dk_of dkc_72 (.tail _ (.tail _ (.tail _ (.tail _ (.tail _ (.tail _ (.tail _ (.head _))))))))
theorem dX1_above_94 : decode cX1_above 94 = .ok (.iload_n 3, 1) := dk_of dkc_72 (.tail _ (.tail _ (.tail _ (.tail _ (.tail _ (.tail _ (.tail _ (.tail _ (.head _)))))))))
theorem dX1_above_95 : decode cX1_above 95 = .ok (.iload 5, 2) := dk_of dkc_72 (.tail _ (.tail _ (.tail _ (.tail _ (.tail _ (.tail _ (.tail _ (.tail _ (.tail _ (.head _))))))))))
theorem dX1_above_97 : decode cX1_above 97 = .ok (.invokevirtual 82, 3) := dk_of dkc_72 (.tail _ (.tail _ (.tail _ (.tail _ (.tail _ (.tail _ (.tail _ (.tail _ (.tail _ (.tail _ (.head _)))))))))))
theorem dX1_above_100 : decode cX1_above 100 = .ok (.aload_n 1, 1) := dk_of dkc_72 (.tail _ (.tail _ (.tail _ (.tail _ (.tail _ (.tail _ (.tail _ (.tail _ (.tail _ (.tail _ (.tail _ (.head _))))))))))))
theorem dX1_above_101 : decode cX1_above 101 = .ok (.iload 4, 2) := dk_of dkc_72 (.tail _ (.tail _ (.tail _ (.tail _ (.tail _ (.tail _ (.tail _ (.tail _ (.tail _ (.tail _ (.tail _ (.tail _ (.head _)))))))))))))
theorem dX1_above_103 : decode cX1_above 103 = .ok (.iaload, 1) := dk_of dkc_72 (.tail _ (.tail _ (.tail _ (.tail _ (.tail _ (.tail _ (.tail _ (.tail _ (.tail _ (.tail _ (.tail _ (.tail _ (.tail _ (.head _))))))))))))))
theorem dX1_above_104 : decode cX1_above 104 = .ok (.aload_n 1, 1) := dk_of dkc_72 (.tail _ (.tail _ (.tail _ (.tail _ (.tail _ (.tail _ (.tail _ (.tail _ (.tail _ (.tail _ (.tail _ (.tail _ (.tail _ (.tail _ (.head _)))))))))))))))
theorem dX1_above_105 : decode cX1_above 105 = .ok (.iload_n 2, 1) := dk_of dkc_72 (.tail _ (.tail _ (.tail _ (.tail _ (.tail _ (.tail _ (.tail _ (.tail _ (.tail _ (.tail _ (.tail _ (.tail _ (.tail _ (.tail _ (.tail _ (.head _))))))))))))))))
def dkl_73 : List (Nat × Instr × Nat) := [(106, (.iaload, 1)), (107, (.isub, 1)), (108, (.imul, 1)), (109, (.isub, 1)), (110, (.ireturn, 1))]
theorem dkc_73 : ck9 ((bl9 cX1_above).drop 106) 106 dkl_73 = true := by decide +kernel
theorem dX1_above_106 : decode cX1_above 106 = .ok (.iaload, 1) := dk_of dkc_73 (.head _)
theorem dX1_above_107 : decode cX1_above 107 = .ok (.isub, 1) := dk_of dkc_73 (.tail _ (.head _))
theorem dX1_above_108 : decode cX1_above 108 = .ok (.imul, 1) := dk_of dkc_73 (.tail _ (.tail _ (.head _)))
theorem dX1_above_109 : decode cX1_above 109 = .ok (.isub, 1) := dk_of dkc_73 (.tail _ (.tail _ (.tail _ (.head _))))
theorem dX1_above_110 : decode cX1_above 110 = .ok (.ireturn, 1) := dk_of dkc_73 (.tail _ (.tail _ (.tail _ (.tail _ (.head _)))))
def dkl_74 : List (Nat × Instr × Nat) := [(0, (.iload 4, 2)), (2, (.ifCond .ge 5, 3)), (5, (.lconst 0, 1)), (6, (.lreturn, 1)), (7, (.lconst 0, 1)), (8, (.lstore 5, 2)), (10, (.iconst 0, 1)), (11, (.istore 7, 2)), (13, (.iload 7, 2)), (15, (.aload_n 0, 1)), (16, (.getfield 14, 3)), (19, (.getfield 44, 3)), (22, (.if_icmp .ge 44, 3)), (25, (.aload_n 0, 1)), (26, (.aload_n 1, 1)), (27, (.iload_n 2, 1))]
theorem dkc_74 : ck9 ((bl9 cX1_planeOf).drop 0) 0 dkl_74 = true := by decide +kernel
theorem dX1_planeOf_0 : decode cX1_planeOf 0 = .ok (.iload 4, 2) := dk_of dkc_74 (.head _)
theorem dX1_planeOf_2 : decode cX1_planeOf 2 = .ok (.ifCond .ge 5, 3) := dk_of dkc_74 (.tail _ (.head _))
theorem dX1_planeOf_5 : decode cX1_planeOf 5 = .ok (.lconst 0, 1) := dk_of dkc_74 (.tail _ (.tail _ (.head _)))
theorem dX1_planeOf_6 : decode cX1_planeOf 6 = .ok (.lreturn, 1) := dk_of dkc_74 (.tail _ (.tail _ (.tail _ (.head _))))
theorem dX1_planeOf_7 : decode cX1_planeOf 7 = .ok (.lconst 0, 1) := dk_of dkc_74 (.tail _ (.tail _ (.tail _ (.tail _ (.head _)))))
theorem dX1_planeOf_8 : decode cX1_planeOf 8 = .ok (.lstore 5, 2) := dk_of dkc_74 (.tail _ (.tail _ (.tail _ (.tail _ (.tail _ (.head _))))))
theorem dX1_planeOf_10 : decode cX1_planeOf 10 = .ok (.iconst 0, 1) := dk_of dkc_74 (.tail _ (.tail _ (.tail _ (.tail _ (.tail _ (.tail _ (.head _)))))))
theorem dX1_planeOf_11 : decode cX1_planeOf 11 = .ok (.istore 7, 2) := dk_of dkc_74 (.tail _ (.tail _ (.tail _ (.tail _ (.tail _ (.tail _ (.tail _ (.head _))))))))
theorem dX1_planeOf_13 : decode cX1_planeOf 13 = .ok (.iload 7, 2) := dk_of dkc_74 (.tail _ (.tail _ (.tail _ (.tail _ (.tail _ (.tail _ (.tail _ (.tail _ (.head _)))))))))
theorem dX1_planeOf_15 : decode cX1_planeOf 15 = .ok (.aload_n 0, 1) := dk_of dkc_74 (.tail _ (.tail _ (.tail _ (.tail _ (.tail _ (.tail _ (.tail _ (.tail _ (.tail _ (.head _))))))))))
theorem dX1_planeOf_16 : decode cX1_planeOf 16 = .ok (.getfield 14, 3) := dk_of dkc_74 (.tail _ (.tail _ (.tail _ (.tail _ (.tail _ (.tail _ (.tail _ (.tail _ (.tail _ (.tail _ (.head _)))))))))))
theorem dX1_planeOf_19 : decode cX1_planeOf 19 = .ok (.getfield 44, 3) := dk_of dkc_74 (.tail _ (.tail _ (.tail _ (.tail _ (.tail _ (.tail _ (.tail _ (.tail _ (.tail _ (.tail _ (.tail _ (.head _))))))))))))
theorem dX1_planeOf_22 : decode cX1_planeOf 22 = .ok (.if_icmp .ge 44, 3) := dk_of dkc_74 (.tail _ (.tail _ (.tail _ (.tail _ (.tail _ (.tail _ (.tail _ (.tail _ (.tail _ (.tail _ (.tail _ (.tail _ (.head _)))))))))))))
theorem dX1_planeOf_25 : decode cX1_planeOf 25 = .ok (.aload_n 0, 1) := dk_of dkc_74 (.tail _ (.tail _ (.tail _ (.tail _ (.tail _ (.tail _ (.tail _ (.tail _ (.tail _ (.tail _ (.tail _ (.tail _ (.tail _ (.head _))))))))))))))
theorem dX1_planeOf_26 : decode cX1_planeOf 26 = .ok (.aload_n 1, 1) := dk_of dkc_74 (.tail _ (.tail _ (.tail _ (.tail _ (.tail _ (.tail _ (.tail _ (.tail _ (.tail _ (.tail _ (.tail _ (.tail _ (.tail _ (.tail _ (.head _)))))))))))))))
theorem dX1_planeOf_27 : decode cX1_planeOf 27 = .ok (.iload_n 2, 1) := dk_of dkc_74 (.tail _ (.tail _ (.tail _ (.tail _ (.tail _ (.tail _ (.tail _ (.tail _ (.tail _ (.tail _ (.tail _ (.tail _ (.tail _ (.tail _ (.tail _ (.head _))))))))))))))))
def dkl_75 : List (Nat × Instr × Nat) := [(28, (.iload_n 3, 1)), (29, (.iload 4, 2)), (31, (.iload 7, 2)), (33, (.invokevirtual 91, 3)), (36, (.istore 8, 2)), (38, (.iload 8, 2)), (40, (.ifCond .ge 5, 3)), (43, (.lconst 0, 1)), (44, (.lreturn, 1)), (45, (.iload 8, 2)), (47, (.ifCond .ne 13, 3)), (50, (.lload 5, 2)), (52, (.iload 7, 2)), (54, (.invokestatic 71, 3)), (57, (.lor, 1)), (58, (.lstore 5, 2))]
theorem dkc_75 : ck9 ((bl9 cX1_planeOf).drop 28) 28 dkl_75 = true := by decide +kernel
theorem dX1_planeOf_28 : decode cX1_planeOf 28 = .ok (.iload_n 3, 1) := dk_of dkc_75 (.head _)
theorem dX1_planeOf_29 : decode cX1_planeOf 29 = .ok (.iload 4, 2) := dk_of dkc_75 (.tail _ (.head _))
theorem dX1_planeOf_31 : decode cX1_planeOf 31 = .ok (.iload 7, 2) := dk_of dkc_75 (.tail _ (.tail _ (.head _)))
theorem dX1_planeOf_33 : decode cX1_planeOf 33 = .ok (.invokevirtual 91, 3) := dk_of dkc_75 (.tail _ (.tail _ (.tail _ (.head _))))
theorem dX1_planeOf_36 : decode cX1_planeOf 36 = .ok (.istore 8, 2) := dk_of dkc_75 (.tail _ (.tail _ (.tail _ (.tail _ (.head _)))))
theorem dX1_planeOf_38 : decode cX1_planeOf 38 = .ok (.iload 8, 2) := dk_of dkc_75 (.tail _ (.tail _ (.tail _ (.tail _ (.tail _ (.head _))))))
theorem dX1_planeOf_40 : decode cX1_planeOf 40 = .ok (.ifCond .ge 5, 3) := dk_of dkc_75 (.tail _ (.tail _ (.tail _ (.tail _ (.tail _ (.tail _ (.head _)))))))
theorem dX1_planeOf_43 : decode cX1_planeOf 43 = .ok (.lconst 0, 1) := dk_of dkc_75 (.tail _ (.tail _ (.tail _ (.tail _ (.tail _ (.tail _ (.tail _ (.head _))))))))
theorem dX1_planeOf_44 : decode cX1_planeOf 44 = .ok (.lreturn, 1) := dk_of dkc_75 (.tail _ (.tail _ (.tail _ (.tail _ (.tail _ (.tail _ (.tail _ (.tail _ (.head _)))))))))
theorem dX1_planeOf_45 : decode cX1_planeOf 45 = .ok (.iload 8, 2) := dk_of dkc_75 (.tail _ (.tail _ (.tail _ (.tail _ (.tail _ (.tail _ (.tail _ (.tail _ (.tail _ (.head _))))))))))
theorem dX1_planeOf_47 : decode cX1_planeOf 47 = .ok (.ifCond .ne 13, 3) := dk_of dkc_75 (.tail _ (.tail _ (.tail _ (.tail _ (.tail _ (.tail _ (.tail _ (.tail _ (.tail _ (.tail _ (.head _)))))))))))
theorem dX1_planeOf_50 : decode cX1_planeOf 50 = .ok (.lload 5, 2) := dk_of dkc_75 (.tail _ (.tail _ (.tail _ (.tail _ (.tail _ (.tail _ (.tail _ (.tail _ (.tail _ (.tail _ (.tail _ (.head _))))))))))))
theorem dX1_planeOf_52 : decode cX1_planeOf 52 = .ok (.iload 7, 2) := dk_of dkc_75 (.tail _ (.tail _ (.tail _ (.tail _ (.tail _ (.tail _ (.tail _ (.tail _ (.tail _ (.tail _ (.tail _ (.tail _ (.head _)))))))))))))
theorem dX1_planeOf_54 : decode cX1_planeOf 54 = .ok (.invokestatic 71, 3) := dk_of dkc_75 (.tail _ (.tail _ (.tail _ (.tail _ (.tail _ (.tail _ (.tail _ (.tail _ (.tail _ (.tail _ (.tail _ (.tail _ (.tail _ (.head _))))))))))))))
theorem dX1_planeOf_57 : decode cX1_planeOf 57 = .ok (.lor, 1) := dk_of dkc_75 (.tail _ (.tail _ (.tail _ (.tail _ (.tail _ (.tail _ (.tail _ (.tail _ (.tail _ (.tail _ (.tail _ (.tail _ (.tail _ (.tail _ (.head _)))))))))))))))
theorem dX1_planeOf_58 : decode cX1_planeOf 58 = .ok (.lstore 5, 2) := dk_of dkc_75 (.tail _ (.tail _ (.tail _ (.tail _ (.tail _ (.tail _ (.tail _ (.tail _ (.tail _ (.tail _ (.tail _ (.tail _ (.tail _ (.tail _ (.tail _ (.head _))))))))))))))))
def dkl_76 : List (Nat × Instr × Nat) := [(60, (.iinc 7 1, 3)), (63, (.goto (-50), 3)), (66, (.lload 5, 2)), (68, (.lreturn, 1))]
theorem dkc_76 : ck9 ((bl9 cX1_planeOf).drop 60) 60 dkl_76 = true := by decide +kernel
theorem dX1_planeOf_60 : decode cX1_planeOf 60 = .ok (.iinc 7 1, 3) := dk_of dkc_76 (.head _)
theorem dX1_planeOf_63 : decode cX1_planeOf 63 = .ok (.goto (-50), 3) := dk_of dkc_76 (.tail _ (.head _))
theorem dX1_planeOf_66 : decode cX1_planeOf 66 = .ok (.lload 5, 2) := dk_of dkc_76 (.tail _ (.tail _ (.head _)))
theorem dX1_planeOf_68 : decode cX1_planeOf 68 = .ok (.lreturn, 1) := dk_of dkc_76 (.tail _ (.tail _ (.tail _ (.head _))))
def dkl_77 : List (Nat × Instr × Nat) := [(0, (.iconst 0, 1)), (1, (.istore_n 3, 1)), (2, (.iload_n 3, 1)), (3, (.aload_n 0, 1)), (4, (.getfield 41, 3)), (7, (.if_icmp .ge 21, 3)), (10, (.aload_n 0, 1)), (11, (.iload_n 3, 1)), (12, (.invokevirtual 61, 3)), (15, (.lload_n 1, 1)), (16, (.lcmp, 1)), (17, (.ifCond .ne 5, 3)), (20, (.iconst 1, 1)), (21, (.ireturn, 1)), (22, (.iinc 3 1, 3)), (25, (.goto (-23), 3))]
theorem dkc_77 : ck9 ((bl9 cX1_isKnown).drop 0) 0 dkl_77 = true := by decide +kernel
theorem dX1_isKnown_0 : decode cX1_isKnown 0 = .ok (.iconst 0, 1) := dk_of dkc_77 (.head _)
theorem dX1_isKnown_1 : decode cX1_isKnown 1 = .ok (.istore_n 3, 1) := dk_of dkc_77 (.tail _ (.head _))
theorem dX1_isKnown_2 : decode cX1_isKnown 2 = .ok (.iload_n 3, 1) := dk_of dkc_77 (.tail _ (.tail _ (.head _)))
theorem dX1_isKnown_3 : decode cX1_isKnown 3 = .ok (.aload_n 0, 1) := dk_of dkc_77 (.tail _ (.tail _ (.tail _ (.head _))))
theorem dX1_isKnown_4 : decode cX1_isKnown 4 = .ok (.getfield 41, 3) := dk_of dkc_77 (.tail _ (.tail _ (.tail _ (.tail _ (.head _)))))
theorem dX1_isKnown_7 : decode cX1_isKnown 7 = .ok (.if_icmp .ge 21, 3) := dk_of dkc_77 (.tail _ (.tail _ (.tail _ (.tail _ (.tail _ (.head _))))))
theorem dX1_isKnown_10 : decode cX1_isKnown 10 = .ok (.aload_n 0, 1) := dk_of dkc_77 (.tail _ (.tail _ (.tail _ (.tail _ (.tail _ (.tail _ (.head _)))))))
theorem dX1_isKnown_11 : decode cX1_isKnown 11 = .ok (.iload_n 3, 1) := dk_of dkc_77 (.tail _ (.tail _ (.tail _ (.tail _ (.tail _ (.tail _ (.tail _ (.head _))))))))
theorem dX1_isKnown_12 : decode cX1_isKnown 12 = .ok (.invokevirtual 61, 3) := dk_of dkc_77 (.tail _ (.tail _ (.tail _ (.tail _ (.tail _ (.tail _ (.tail _ (.tail _ (.head _)))))))))
theorem dX1_isKnown_15 : decode cX1_isKnown 15 = .ok (.lload_n 1, 1) := dk_of dkc_77 (.tail _ (.tail _ (.tail _ (.tail _ (.tail _ (.tail _ (.tail _ (.tail _ (.tail _ (.head _))))))))))
theorem dX1_isKnown_16 : decode cX1_isKnown 16 = .ok (.lcmp, 1) := dk_of dkc_77 (.tail _ (.tail _ (.tail _ (.tail _ (.tail _ (.tail _ (.tail _ (.tail _ (.tail _ (.tail _ (.head _)))))))))))
theorem dX1_isKnown_17 : decode cX1_isKnown 17 = .ok (.ifCond .ne 5, 3) := dk_of dkc_77 (.tail _ (.tail _ (.tail _ (.tail _ (.tail _ (.tail _ (.tail _ (.tail _ (.tail _ (.tail _ (.tail _ (.head _))))))))))))
theorem dX1_isKnown_20 : decode cX1_isKnown 20 = .ok (.iconst 1, 1) := dk_of dkc_77 (.tail _ (.tail _ (.tail _ (.tail _ (.tail _ (.tail _ (.tail _ (.tail _ (.tail _ (.tail _ (.tail _ (.tail _ (.head _)))))))))))))
theorem dX1_isKnown_21 : decode cX1_isKnown 21 = .ok (.ireturn, 1) := dk_of dkc_77 (.tail _ (.tail _ (.tail _ (.tail _ (.tail _ (.tail _ (.tail _ (.tail _ (.tail _ (.tail _ (.tail _ (.tail _ (.tail _ (.head _))))))))))))))
theorem dX1_isKnown_22 : decode cX1_isKnown 22 = .ok (.iinc 3 1, 3) := dk_of dkc_77 (.tail _ (.tail _ (.tail _ (.tail _ (.tail _ (.tail _ (.tail _ (.tail _ (.tail _ (.tail _ (.tail _ (.tail _ (.tail _ (.tail _ (.head _)))))))))))))))
theorem dX1_isKnown_25 : decode cX1_isKnown 25 = .ok (.goto (-23), 3) := dk_of dkc_77 (.tail _ (.tail _ (.tail _ (.tail _ (.tail _ (.tail _ (.tail _ (.tail _ (.tail _ (.tail _ (.tail _ (.tail _ (.tail _ (.tail _ (.tail _ (.head _))))))))))))))))
def dkl_78 : List (Nat × Instr × Nat) := [(28, (.iconst 0, 1)), (29, (.ireturn, 1))]
theorem dkc_78 : ck9 ((bl9 cX1_isKnown).drop 28) 28 dkl_78 = true := by decide +kernel
theorem dX1_isKnown_28 : decode cX1_isKnown 28 = .ok (.iconst 0, 1) := dk_of dkc_78 (.head _)
theorem dX1_isKnown_29 : decode cX1_isKnown 29 = .ok (.ireturn, 1) := dk_of dkc_78 (.tail _ (.head _))
def dkl_79 : List (Nat × Instr × Nat) := [(0, (.lload_n 1, 1)), (1, (.lconst 0, 1)), (2, (.lcmp, 1)), (3, (.ifCond .eq 20, 3)), (6, (.aload_n 0, 1)), (7, (.getfield 41, 3)), (10, (.bipush 80, 2)), (12, (.if_icmp .ge 11, 3)), (15, (.aload_n 0, 1)), (16, (.lload_n 1, 1)), (17, (.invokevirtual 101, 3)), (20, (.ifCond .eq 4, 3)), (23, (.return_, 1)), (24, (.aload_n 0, 1)), (25, (.getfield 41, 3)), (28, (.istore_n 3, 1))]
theorem dkc_79 : ck9 ((bl9 cX1_enter).drop 0) 0 dkl_79 = true := by decide +kernel
theorem dX1_enter_0 : decode cX1_enter 0 = .ok (.lload_n 1, 1) := dk_of dkc_79 (.head _)
theorem dX1_enter_1 : decode cX1_enter 1 = .ok (.lconst 0, 1) := dk_of dkc_79 (.tail _ (.head _))
theorem dX1_enter_2 : decode cX1_enter 2 = .ok (.lcmp, 1) := dk_of dkc_79 (.tail _ (.tail _ (.head _)))
theorem dX1_enter_3 : decode cX1_enter 3 = .ok (.ifCond .eq 20, 3) := dk_of dkc_79 (.tail _ (.tail _ (.tail _ (.head _))))
theorem dX1_enter_6 : decode cX1_enter 6 = .ok (.aload_n 0, 1) := dk_of dkc_79 (.tail _ (.tail _ (.tail _ (.tail _ (.head _)))))
theorem dX1_enter_7 : decode cX1_enter 7 = .ok (.getfield 41, 3) := dk_of dkc_79 (.tail _ (.tail _ (.tail _ (.tail _ (.tail _ (.head _))))))
theorem dX1_enter_10 : decode cX1_enter 10 = .ok (.bipush 80, 2) := dk_of dkc_79 (.tail _ (.tail _ (.tail _ (.tail _ (.tail _ (.tail _ (.head _)))))))
theorem dX1_enter_12 : decode cX1_enter 12 = .ok (.if_icmp .ge 11, 3) := dk_of dkc_79 (.tail _ (.tail _ (.tail _ (.tail _ (.tail _ (.tail _ (.tail _ (.head _))))))))
theorem dX1_enter_15 : decode cX1_enter 15 = .ok (.aload_n 0, 1) := dk_of dkc_79 (.tail _ (.tail _ (.tail _ (.tail _ (.tail _ (.tail _ (.tail _ (.tail _ (.head _)))))))))
theorem dX1_enter_16 : decode cX1_enter 16 = .ok (.lload_n 1, 1) := dk_of dkc_79 (.tail _ (.tail _ (.tail _ (.tail _ (.tail _ (.tail _ (.tail _ (.tail _ (.tail _ (.head _))))))))))
theorem dX1_enter_17 : decode cX1_enter 17 = .ok (.invokevirtual 101, 3) := dk_of dkc_79 (.tail _ (.tail _ (.tail _ (.tail _ (.tail _ (.tail _ (.tail _ (.tail _ (.tail _ (.tail _ (.head _)))))))))))
theorem dX1_enter_20 : decode cX1_enter 20 = .ok (.ifCond .eq 4, 3) := dk_of dkc_79 (.tail _ (.tail _ (.tail _ (.tail _ (.tail _ (.tail _ (.tail _ (.tail _ (.tail _ (.tail _ (.tail _ (.head _))))))))))))
theorem dX1_enter_23 : decode cX1_enter 23 = .ok (.return_, 1) := dk_of dkc_79 (.tail _ (.tail _ (.tail _ (.tail _ (.tail _ (.tail _ (.tail _ (.tail _ (.tail _ (.tail _ (.tail _ (.tail _ (.head _)))))))))))))
theorem dX1_enter_24 : decode cX1_enter 24 = .ok (.aload_n 0, 1) := dk_of dkc_79 (.tail _ (.tail _ (.tail _ (.tail _ (.tail _ (.tail _ (.tail _ (.tail _ (.tail _ (.tail _ (.tail _ (.tail _ (.tail _ (.head _))))))))))))))
theorem dX1_enter_25 : decode cX1_enter 25 = .ok (.getfield 41, 3) := dk_of dkc_79 (.tail _ (.tail _ (.tail _ (.tail _ (.tail _ (.tail _ (.tail _ (.tail _ (.tail _ (.tail _ (.tail _ (.tail _ (.tail _ (.tail _ (.head _)))))))))))))))
theorem dX1_enter_28 : decode cX1_enter 28 = .ok (.istore_n 3, 1) := dk_of dkc_79 (.tail _ (.tail _ (.tail _ (.tail _ (.tail _ (.tail _ (.tail _ (.tail _ (.tail _ (.tail _ (.tail _ (.tail _ (.tail _ (.tail _ (.tail _ (.head _))))))))))))))))
def dkl_80 : List (Nat × Instr × Nat) := [(29, (.iload_n 3, 1)), (30, (.ifCond .le 36, 3)), (33, (.aload_n 0, 1)), (34, (.getfield 20, 3)), (37, (.iload_n 3, 1)), (38, (.iconst 1, 1)), (39, (.isub, 1)), (40, (.laload, 1)), (41, (.lload_n 1, 1)), (42, (.lcmp, 1)), (43, (.ifCond .ge 23, 3)), (46, (.aload_n 0, 1)), (47, (.getfield 20, 3)), (50, (.iload_n 3, 1)), (51, (.aload_n 0, 1)), (52, (.getfield 20, 3))]
theorem dkc_80 : ck9 ((bl9 cX1_enter).drop 29) 29 dkl_80 = true := by decide +kernel
theorem dX1_enter_29 : decode cX1_enter 29 = .ok (.iload_n 3, 1) := dk_of dkc_80 (.head _)
theorem dX1_enter_30 : decode cX1_enter 30 = .ok (.ifCond .le 36, 3) := dk_of dkc_80 (.tail _ (.head _))
theorem dX1_enter_33 : decode cX1_enter 33 = .ok (.aload_n 0, 1) := dk_of dkc_80 (.tail _ (.tail _ (.head _)))
theorem dX1_enter_34 : decode cX1_enter 34 = .ok (.getfield 20, 3) := dk_of dkc_80 (.tail _ (.tail _ (.tail _ (.head _))))
theorem dX1_enter_37 : decode cX1_enter 37 = .ok (.iload_n 3, 1) := dk_of dkc_80 (.tail _ (.tail _ (.tail _ (.tail _ (.head _)))))
theorem dX1_enter_38 : decode cX1_enter 38 = .ok (.iconst 1, 1) := dk_of dkc_80 (.tail _ (.tail _ (.tail _ (.tail _ (.tail _ (.head _))))))
theorem dX1_enter_39 : decode cX1_enter 39 = .ok (.isub, 1) := dk_of dkc_80 (.tail _ (.tail _ (.tail _ (.tail _ (.tail _ (.tail _ (.head _)))))))
theorem dX1_enter_40 : decode cX1_enter 40 = .ok (.laload, 1) := dk_of dkc_80 (.tail _ (.tail _ (.tail _ (.tail _ (.tail _ (.tail _ (.tail _ (.head _))))))))
theorem dX1_enter_41 : decode cX1_enter 41 = .ok (.lload_n 1, 1) := dk_of dkc_80 (.tail _ (.tail _ (.tail _ (.tail _ (.tail _ (.tail _ (.tail _ (.tail _ (.head _)))))))))
theorem dX1_enter_42 : decode cX1_enter 42 = .ok (.lcmp, 1) := dk_of dkc_80 (.tail _ (.tail _ (.tail _ (.tail _ (.tail _ (.tail _ (.tail _ (.tail _ (.tail _ (.head _))))))))))
theorem dX1_enter_43 : decode cX1_enter 43 = .ok (.ifCond .ge 23, 3) := dk_of dkc_80 (.tail _ (.tail _ (.tail _ (.tail _ (.tail _ (.tail _ (.tail _ (.tail _ (.tail _ (.tail _ (.head _)))))))))))
theorem dX1_enter_46 : decode cX1_enter 46 = .ok (.aload_n 0, 1) := dk_of dkc_80 (.tail _ (.tail _ (.tail _ (.tail _ (.tail _ (.tail _ (.tail _ (.tail _ (.tail _ (.tail _ (.tail _ (.head _))))))))))))
theorem dX1_enter_47 : decode cX1_enter 47 = .ok (.getfield 20, 3) := dk_of dkc_80 (.tail _ (.tail _ (.tail _ (.tail _ (.tail _ (.tail _ (.tail _ (.tail _ (.tail _ (.tail _ (.tail _ (.tail _ (.head _)))))))))))))
theorem dX1_enter_50 : decode cX1_enter 50 = .ok (.iload_n 3, 1) := dk_of dkc_80 (.tail _ (.tail _ (.tail _ (.tail _ (.tail _ (.tail _ (.tail _ (.tail _ (.tail _ (.tail _ (.tail _ (.tail _ (.tail _ (.head _))))))))))))))
theorem dX1_enter_51 : decode cX1_enter 51 = .ok (.aload_n 0, 1) := dk_of dkc_80 (.tail _ (.tail _ (.tail _ (.tail _ (.tail _ (.tail _ (.tail _ (.tail _ (.tail _ (.tail _ (.tail _ (.tail _ (.tail _ (.tail _ (.head _)))))))))))))))
theorem dX1_enter_52 : decode cX1_enter 52 = .ok (.getfield 20, 3) := dk_of dkc_80 (.tail _ (.tail _ (.tail _ (.tail _ (.tail _ (.tail _ (.tail _ (.tail _ (.tail _ (.tail _ (.tail _ (.tail _ (.tail _ (.tail _ (.tail _ (.head _))))))))))))))))
def dkl_81 : List (Nat × Instr × Nat) := [(55, (.iload_n 3, 1)), (56, (.iconst 1, 1)), (57, (.isub, 1)), (58, (.laload, 1)), (59, (.lastore, 1)), (60, (.iinc 3 (-1), 3)), (63, (.goto (-34), 3)), (66, (.aload_n 0, 1)), (67, (.getfield 20, 3)), (70, (.iload_n 3, 1)), (71, (.lload_n 1, 1)), (72, (.lastore, 1)), (73, (.aload_n 0, 1)), (74, (.dup, 1)), (75, (.getfield 41, 3)), (78, (.iconst 1, 1))]
theorem dkc_81 : ck9 ((bl9 cX1_enter).drop 55) 55 dkl_81 = true := by decide +kernel
theorem dX1_enter_55 : decode cX1_enter 55 = .ok (.iload_n 3, 1) := dk_of dkc_81 (.head _)
theorem dX1_enter_56 : decode cX1_enter 56 = .ok (.iconst 1, 1) := dk_of dkc_81 (.tail _ (.head _))
theorem dX1_enter_57 : decode cX1_enter 57 = .ok (.isub, 1) := dk_of dkc_81 (.tail _ (.tail _ (.head _)))
theorem dX1_enter_58 : decode cX1_enter 58 = .ok (.laload, 1) := dk_of dkc_81 (.tail _ (.tail _ (.tail _ (.head _))))
theorem dX1_enter_59 : decode cX1_enter 59 = .ok (.lastore, 1) := dk_of dkc_81 (.tail _ (.tail _ (.tail _ (.tail _ (.head _)))))
theorem dX1_enter_60 : decode cX1_enter 60 = .ok (.iinc 3 (-1), 3) := dk_of dkc_81 (.tail _ (.tail _ (.tail _ (.tail _ (.tail _ (.head _))))))
theorem dX1_enter_63 : decode cX1_enter 63 = .ok (.goto (-34), 3) := dk_of dkc_81 (.tail _ (.tail _ (.tail _ (.tail _ (.tail _ (.tail _ (.head _)))))))
theorem dX1_enter_66 : decode cX1_enter 66 = .ok (.aload_n 0, 1) := dk_of dkc_81 (.tail _ (.tail _ (.tail _ (.tail _ (.tail _ (.tail _ (.tail _ (.head _))))))))
theorem dX1_enter_67 : decode cX1_enter 67 = .ok (.getfield 20, 3) := dk_of dkc_81 (.tail _ (.tail _ (.tail _ (.tail _ (.tail _ (.tail _ (.tail _ (.tail _ (.head _)))))))))
theorem dX1_enter_70 : decode cX1_enter 70 = .ok (.iload_n 3, 1) := dk_of dkc_81 (.tail _ (.tail _ (.tail _ (.tail _ (.tail _ (.tail _ (.tail _ (.tail _ (.tail _ (.head _))))))))))
theorem dX1_enter_71 : decode cX1_enter 71 = .ok (.lload_n 1, 1) := dk_of dkc_81 (.tail _ (.tail _ (.tail _ (.tail _ (.tail _ (.tail _ (.tail _ (.tail _ (.tail _ (.tail _ (.head _)))))))))))
theorem dX1_enter_72 : decode cX1_enter 72 = .ok (.lastore, 1) := dk_of dkc_81 (.tail _ (.tail _ (.tail _ (.tail _ (.tail _ (.tail _ (.tail _ (.tail _ (.tail _ (.tail _ (.tail _ (.head _))))))))))))
theorem dX1_enter_73 : decode cX1_enter 73 = .ok (.aload_n 0, 1) := dk_of dkc_81 (.tail _ (.tail _ (.tail _ (.tail _ (.tail _ (.tail _ (.tail _ (.tail _ (.tail _ (.tail _ (.tail _ (.tail _ (.head _)))))))))))))
theorem dX1_enter_74 : decode cX1_enter 74 = .ok (.dup, 1) := dk_of dkc_81 (.tail _ (.tail _ (.tail _ (.tail _ (.tail _ (.tail _ (.tail _ (.tail _ (.tail _ (.tail _ (.tail _ (.tail _ (.tail _ (.head _))))))))))))))
theorem dX1_enter_75 : decode cX1_enter 75 = .ok (.getfield 41, 3) := dk_of dkc_81 (.tail _ (.tail _ (.tail _ (.tail _ (.tail _ (.tail _ (.tail _ (.tail _ (.tail _ (.tail _ (.tail _ (.tail _ (.tail _ (.tail _ (.head _)))))))))))))))
theorem dX1_enter_78 : decode cX1_enter 78 = .ok (.iconst 1, 1) := dk_of dkc_81 (.tail _ (.tail _ (.tail _ (.tail _ (.tail _ (.tail _ (.tail _ (.tail _ (.tail _ (.tail _ (.tail _ (.tail _ (.tail _ (.tail _ (.tail _ (.head _))))))))))))))))
def dkl_82 : List (Nat × Instr × Nat) := [(79, (.iadd, 1)), (80, (.putfield 41, 3)), (83, (.return_, 1))]
theorem dkc_82 : ck9 ((bl9 cX1_enter).drop 79) 79 dkl_82 = true := by decide +kernel
theorem dX1_enter_79 : decode cX1_enter 79 = .ok (.iadd, 1) := dk_of dkc_82 (.head _)
theorem dX1_enter_80 : decode cX1_enter 80 = .ok (.putfield 41, 3) := dk_of dkc_82 (.tail _ (.head _))
theorem dX1_enter_83 : decode cX1_enter 83 = .ok (.return_, 1) := dk_of dkc_82 (.tail _ (.tail _ (.head _)))
def dkl_83 : List (Nat × Instr × Nat) := [(0, (.aload_n 0, 1)), (1, (.invokespecial 3, 3)), (4, (.aload_n 0, 1)), (5, (.new 9, 3)), (8, (.dup, 1)), (9, (.invokespecial 11, 3)), (12, (.putfield 12, 3)), (15, (.aload_n 0, 1)), (16, (.sipush 1500, 3)), (19, (.newarray .long, 2)), (21, (.putfield 18, 3)), (24, (.aload_n 0, 1)), (25, (.sipush 1500, 3)), (28, (.newarray .int, 2)), (30, (.putfield 22, 3)), (33, (.aload_n 0, 1))]
theorem dkc_83 : ck9 ((bl9 cX2_init).drop 0) 0 dkl_83 = true := by decide +kernel
theorem dX2_init_0 : decode cX2_init 0 = .ok (.aload_n 0, 1) := dk_of dkc_83 (.head _)
theorem dX2_init_1 : decode cX2_init 1 = .ok (.invokespecial 3, 3) := dk_of dkc_83 (.tail _ (.head _))
theorem dX2_init_4 : decode cX2_init 4 = .ok (.aload_n 0, 1) := dk_of dkc_83 (.tail _ (.tail _ (.head _)))
theorem dX2_init_5 : decode cX2_init 5 = .ok (.new 9, 3) := dk_of dkc_83 (.tail _ (.tail _ (.tail _ (.head _))))
theorem dX2_init_8 : decode cX2_init 8 = .ok (.dup, 1) := dk_of dkc_83 (.tail _ (.tail _ (.tail _ (.tail _ (.head _)))))
theorem dX2_init_9 : decode cX2_init 9 = .ok (.invokespecial 11, 3) := dk_of dkc_83 (.tail _ (.tail _ (.tail _ (.tail _ (.tail _ (.head _))))))
theorem dX2_init_12 : decode cX2_init 12 = .ok (.putfield 12, 3) := dk_of dkc_83 (.tail _ (.tail _ (.tail _ (.tail _ (.tail _ (.tail _ (.head _)))))))
theorem dX2_init_15 : decode cX2_init 15 = .ok (.aload_n 0, 1) := dk_of dkc_83 (.tail _ (.tail _ (.tail _ (.tail _ (.tail _ (.tail _ (.tail _ (.head _))))))))
theorem dX2_init_16 : decode cX2_init 16 = .ok (.sipush 1500, 3) := dk_of dkc_83 (.tail _ (.tail _ (.tail _ (.tail _ (.tail _ (.tail _ (.tail _ (.tail _ (.head _)))))))))
theorem dX2_init_19 : decode cX2_init 19 = .ok (.newarray .long, 2) := dk_of dkc_83 (.tail _ (.tail _ (.tail _ (.tail _ (.tail _ (.tail _ (.tail _ (.tail _ (.tail _ (.head _))))))))))
theorem dX2_init_21 : decode cX2_init 21 = .ok (.putfield 18, 3) := dk_of dkc_83 (.tail _ (.tail _ (.tail _ (.tail _ (.tail _ (.tail _ (.tail _ (.tail _ (.tail _ (.tail _ (.head _)))))))))))
theorem dX2_init_24 : decode cX2_init 24 = .ok (.aload_n 0, 1) := dk_of dkc_83 (.tail _ (.tail _ (.tail _ (.tail _ (.tail _ (.tail _ (.tail _ (.tail _ (.tail _ (.tail _ (.tail _ (.head _))))))))))))
theorem dX2_init_25 : decode cX2_init 25 = .ok (.sipush 1500, 3) := dk_of dkc_83 (.tail _ (.tail _ (.tail _ (.tail _ (.tail _ (.tail _ (.tail _ (.tail _ (.tail _ (.tail _ (.tail _ (.tail _ (.head _)))))))))))))
theorem dX2_init_28 : decode cX2_init 28 = .ok (.newarray .int, 2) := dk_of dkc_83 (.tail _ (.tail _ (.tail _ (.tail _ (.tail _ (.tail _ (.tail _ (.tail _ (.tail _ (.tail _ (.tail _ (.tail _ (.tail _ (.head _))))))))))))))
theorem dX2_init_30 : decode cX2_init 30 = .ok (.putfield 22, 3) := dk_of dkc_83 (.tail _ (.tail _ (.tail _ (.tail _ (.tail _ (.tail _ (.tail _ (.tail _ (.tail _ (.tail _ (.tail _ (.tail _ (.tail _ (.tail _ (.head _)))))))))))))))
theorem dX2_init_33 : decode cX2_init 33 = .ok (.aload_n 0, 1) := dk_of dkc_83 (.tail _ (.tail _ (.tail _ (.tail _ (.tail _ (.tail _ (.tail _ (.tail _ (.tail _ (.tail _ (.tail _ (.tail _ (.tail _ (.tail _ (.tail _ (.head _))))))))))))))))
def dkl_84 : List (Nat × Instr × Nat) := [(34, (.sipush 4096, 3)), (37, (.newarray .int, 2)), (39, (.putfield 26, 3)), (42, (.aload_n 0, 1)), (43, (.iconst (-1), 1)), (44, (.putfield 29, 3)), (47, (.return_, 1))]
theorem dkc_84 : ck9 ((bl9 cX2_init).drop 34) 34 dkl_84 = true := by decide +kernel
theorem dX2_init_34 : decode cX2_init 34 = .ok (.sipush 4096, 3) := dk_of dkc_84 (.head _)
theorem dX2_init_37 : decode cX2_init 37 = .ok (.newarray .int, 2) := dk_of dkc_84 (.tail _ (.head _))
theorem dX2_init_39 : decode cX2_init 39 = .ok (.putfield 26, 3) := dk_of dkc_84 (.tail _ (.tail _ (.head _)))
theorem dX2_init_42 : decode cX2_init 42 = .ok (.aload_n 0, 1) := dk_of dkc_84 (.tail _ (.tail _ (.tail _ (.head _))))
theorem dX2_init_43 : decode cX2_init 43 = .ok (.iconst (-1), 1) := dk_of dkc_84 (.tail _ (.tail _ (.tail _ (.tail _ (.head _)))))
theorem dX2_init_44 : decode cX2_init 44 = .ok (.putfield 29, 3) := dk_of dkc_84 (.tail _ (.tail _ (.tail _ (.tail _ (.tail _ (.head _))))))
theorem dX2_init_47 : decode cX2_init 47 = .ok (.return_, 1) := dk_of dkc_84 (.tail _ (.tail _ (.tail _ (.tail _ (.tail _ (.tail _ (.head _)))))))
def dkl_85 : List (Nat × Instr × Nat) := [(0, (.aload_n 0, 1)), (1, (.getfield 29, 3)), (4, (.aload_n 1, 1)), (5, (.getfield 33, 3)), (8, (.if_icmp .eq 26, 3)), (11, (.aload_n 0, 1)), (12, (.aload_n 1, 1)), (13, (.getfield 33, 3)), (16, (.putfield 29, 3)), (19, (.aload_n 0, 1)), (20, (.getfield 12, 3)), (23, (.aload_n 1, 1)), (24, (.getfield 38, 3)), (27, (.invokevirtual 42, 3)), (30, (.aload_n 0, 1)), (31, (.invokevirtual 46, 3))]
theorem dkc_85 : ck9 ((bl9 cX2_build).drop 0) 0 dkl_85 = true := by decide +kernel
theorem dX2_build_0 : decode cX2_build 0 = .ok (.aload_n 0, 1) := dk_of dkc_85 (.head _)
theorem dX2_build_1 : decode cX2_build 1 = .ok (.getfield 29, 3) := dk_of dkc_85 (.tail _ (.head _))
theorem dX2_build_4 : decode cX2_build 4 = .ok (.aload_n 1, 1) := dk_of dkc_85 (.tail _ (.tail _ (.head _)))
theorem dX2_build_5 : decode cX2_build 5 = .ok (.getfield 33, 3) := dk_of dkc_85 (.tail _ (.tail _ (.tail _ (.head _))))
theorem dX2_build_8 : decode cX2_build 8 = .ok (.if_icmp .eq 26, 3) := dk_of dkc_85 (.tail _ (.tail _ (.tail _ (.tail _ (.head _)))))
theorem dX2_build_11 : decode cX2_build 11 = .ok (.aload_n 0, 1) := dk_of dkc_85 (.tail _ (.tail _ (.tail _ (.tail _ (.tail _ (.head _))))))
theorem dX2_build_12 : decode cX2_build 12 = .ok (.aload_n 1, 1) := dk_of dkc_85 (.tail _ (.tail _ (.tail _ (.tail _ (.tail _ (.tail _ (.head _)))))))
theorem dX2_build_13 : decode cX2_build 13 = .ok (.getfield 33, 3) := dk_of dkc_85 (.tail _ (.tail _ (.tail _ (.tail _ (.tail _ (.tail _ (.tail _ (.head _))))))))
theorem dX2_build_16 : decode cX2_build 16 = .ok (.putfield 29, 3) := dk_of dkc_85 (.tail _ (.tail _ (.tail _ (.tail _ (.tail _ (.tail _ (.tail _ (.tail _ (.head _)))))))))
theorem dX2_build_19 : decode cX2_build 19 = .ok (.aload_n 0, 1) := dk_of dkc_85 (.tail _ (.tail _ (.tail _ (.tail _ (.tail _ (.tail _ (.tail _ (.tail _ (.tail _ (.head _))))))))))
theorem dX2_build_20 : decode cX2_build 20 = .ok (.getfield 12, 3) := dk_of dkc_85 (.tail _ (.tail _ (.tail _ (.tail _ (.tail _ (.tail _ (.tail _ (.tail _ (.tail _ (.tail _ (.head _)))))))))))
theorem dX2_build_23 : decode cX2_build 23 = .ok (.aload_n 1, 1) := dk_of dkc_85 (.tail _ (.tail _ (.tail _ (.tail _ (.tail _ (.tail _ (.tail _ (.tail _ (.tail _ (.tail _ (.tail _ (.head _))))))))))))
theorem dX2_build_24 : decode cX2_build 24 = .ok (.getfield 38, 3) := dk_of dkc_85 (.tail _ (.tail _ (.tail _ (.tail _ (.tail _ (.tail _ (.tail _ (.tail _ (.tail _ (.tail _ (.tail _ (.tail _ (.head _)))))))))))))
theorem dX2_build_27 : decode cX2_build 27 = .ok (.invokevirtual 42, 3) := dk_of dkc_85 (.tail _ (.tail _ (.tail _ (.tail _ (.tail _ (.tail _ (.tail _ (.tail _ (.tail _ (.tail _ (.tail _ (.tail _ (.tail _ (.head _))))))))))))))
theorem dX2_build_30 : decode cX2_build 30 = .ok (.aload_n 0, 1) := dk_of dkc_85 (.tail _ (.tail _ (.tail _ (.tail _ (.tail _ (.tail _ (.tail _ (.tail _ (.tail _ (.tail _ (.tail _ (.tail _ (.tail _ (.tail _ (.head _)))))))))))))))
theorem dX2_build_31 : decode cX2_build 31 = .ok (.invokevirtual 46, 3) := dk_of dkc_85 (.tail _ (.tail _ (.tail _ (.tail _ (.tail _ (.tail _ (.tail _ (.tail _ (.tail _ (.tail _ (.tail _ (.tail _ (.tail _ (.tail _ (.tail _ (.head _))))))))))))))))
def dkl_86 : List (Nat × Instr × Nat) := [(34, (.aload_n 0, 1)), (35, (.getfield 49, 3)), (38, (.ifCond .ne 7, 3)), (41, (.iconst 1, 1)), (42, (.goto 4, 3)), (45, (.iconst 0, 1)), (46, (.ireturn, 1))]
theorem dkc_86 : ck9 ((bl9 cX2_build).drop 34) 34 dkl_86 = true := by decide +kernel
theorem dX2_build_34 : decode cX2_build 34 = .ok (.aload_n 0, 1) := dk_of dkc_86 (.head _)
theorem dX2_build_35 : decode cX2_build 35 = .ok (.getfield 49, 3) := dk_of dkc_86 (.tail _ (.head _))
theorem dX2_build_38 : decode cX2_build 38 = .ok (.ifCond .ne 7, 3) := dk_of dkc_86 (.tail _ (.tail _ (.head _)))
theorem dX2_build_41 : decode cX2_build 41 = .ok (.iconst 1, 1) := dk_of dkc_86 (.tail _ (.tail _ (.tail _ (.head _))))
theorem dX2_build_42 : decode cX2_build 42 = .ok (.goto 4, 3) := dk_of dkc_86 (.tail _ (.tail _ (.tail _ (.tail _ (.head _)))))
theorem dX2_build_45 : decode cX2_build 45 = .ok (.iconst 0, 1) := dk_of dkc_86 (.tail _ (.tail _ (.tail _ (.tail _ (.tail _ (.head _))))))
theorem dX2_build_46 : decode cX2_build 46 = .ok (.ireturn, 1) := dk_of dkc_86 (.tail _ (.tail _ (.tail _ (.tail _ (.tail _ (.tail _ (.head _)))))))
def dkl_87 : List (Nat × Instr × Nat) := [(0, (.aload_n 0, 1)), (1, (.aload_n 0, 1)), (2, (.getfield 53, 3)), (5, (.iconst 1, 1)), (6, (.isub, 1)), (7, (.invokevirtual 56, 3)), (10, (.ireturn, 1))]
theorem dkc_87 : ck9 ((bl9 cX2_farthest).drop 0) 0 dkl_87 = true := by decide +kernel
theorem dX2_farthest_0 : decode cX2_farthest 0 = .ok (.aload_n 0, 1) := dk_of dkc_87 (.head _)
theorem dX2_farthest_1 : decode cX2_farthest 1 = .ok (.aload_n 0, 1) := dk_of dkc_87 (.tail _ (.head _))
theorem dX2_farthest_2 : decode cX2_farthest 2 = .ok (.getfield 53, 3) := dk_of dkc_87 (.tail _ (.tail _ (.head _)))
theorem dX2_farthest_5 : decode cX2_farthest 5 = .ok (.iconst 1, 1) := dk_of dkc_87 (.tail _ (.tail _ (.tail _ (.head _))))
theorem dX2_farthest_6 : decode cX2_farthest 6 = .ok (.isub, 1) := dk_of dkc_87 (.tail _ (.tail _ (.tail _ (.tail _ (.head _)))))
theorem dX2_farthest_7 : decode cX2_farthest 7 = .ok (.invokevirtual 56, 3) := dk_of dkc_87 (.tail _ (.tail _ (.tail _ (.tail _ (.tail _ (.head _))))))
theorem dX2_farthest_10 : decode cX2_farthest 10 = .ok (.ireturn, 1) := dk_of dkc_87 (.tail _ (.tail _ (.tail _ (.tail _ (.tail _ (.tail _ (.head _)))))))
def dkl_88 : List (Nat × Instr × Nat) := [(0, (.iload_n 1, 1)), (1, (.ifCond .lt 21, 3)), (4, (.iload_n 1, 1)), (5, (.aload_n 0, 1)), (6, (.getfield 22, 3)), (9, (.arraylength, 1)), (10, (.if_icmp .ge 12, 3)), (13, (.aload_n 0, 1)), (14, (.getfield 22, 3)), (17, (.iload_n 1, 1)), (18, (.iaload, 1)), (19, (.goto 4, 3)), (22, (.iconst 0, 1)), (23, (.ireturn, 1))]
theorem dkc_88 : ck9 ((bl9 cX2_farOf).drop 0) 0 dkl_88 = true := by decide +kernel
theorem dX2_farOf_0 : decode cX2_farOf 0 = .ok (.iload_n 1, 1) := dk_of dkc_88 (.head _)
theorem dX2_farOf_1 : decode cX2_farOf 1 = .ok (.ifCond .lt 21, 3) := dk_of dkc_88 (.tail _ (.head _))
theorem dX2_farOf_4 : decode cX2_farOf 4 = .ok (.iload_n 1, 1) := dk_of dkc_88 (.tail _ (.tail _ (.head _)))
theorem dX2_farOf_5 : decode cX2_farOf 5 = .ok (.aload_n 0, 1) := dk_of dkc_88 (.tail _ (.tail _ (.tail _ (.head _))))
theorem dX2_farOf_6 : decode cX2_farOf 6 = .ok (.getfield 22, 3) := dk_of dkc_88 (.tail _ (.tail _ (.tail _ (.tail _ (.head _)))))
theorem dX2_farOf_9 : decode cX2_farOf 9 = .ok (.arraylength, 1) := dk_of dkc_88 (.tail _ (.tail _ (.tail _ (.tail _ (.tail _ (.head _))))))
theorem dX2_farOf_10 : decode cX2_farOf 10 = .ok (.if_icmp .ge 12, 3) := dk_of dkc_88 (.tail _ (.tail _ (.tail _ (.tail _ (.tail _ (.tail _ (.head _)))))))
theorem dX2_farOf_13 : decode cX2_farOf 13 = .ok (.aload_n 0, 1) := dk_of dkc_88 (.tail _ (.tail _ (.tail _ (.tail _ (.tail _ (.tail _ (.tail _ (.head _))))))))
theorem dX2_farOf_14 : decode cX2_farOf 14 = .ok (.getfield 22, 3) := dk_of dkc_88 (.tail _ (.tail _ (.tail _ (.tail _ (.tail _ (.tail _ (.tail _ (.tail _ (.head _)))))))))
theorem dX2_farOf_17 : decode cX2_farOf 17 = .ok (.iload_n 1, 1) := dk_of dkc_88 (.tail _ (.tail _ (.tail _ (.tail _ (.tail _ (.tail _ (.tail _ (.tail _ (.tail _ (.head _))))))))))
theorem dX2_farOf_18 : decode cX2_farOf 18 = .ok (.iaload, 1) := dk_of dkc_88 (.tail _ (.tail _ (.tail _ (.tail _ (.tail _ (.tail _ (.tail _ (.tail _ (.tail _ (.tail _ (.head _)))))))))))
theorem dX2_farOf_19 : decode cX2_farOf 19 = .ok (.goto 4, 3) := dk_of dkc_88 (.tail _ (.tail _ (.tail _ (.tail _ (.tail _ (.tail _ (.tail _ (.tail _ (.tail _ (.tail _ (.tail _ (.head _))))))))))))
theorem dX2_farOf_22 : decode cX2_farOf 22 = .ok (.iconst 0, 1) := dk_of dkc_88 (.tail _ (.tail _ (.tail _ (.tail _ (.tail _ (.tail _ (.tail _ (.tail _ (.tail _ (.tail _ (.tail _ (.tail _ (.head _)))))))))))))
theorem dX2_farOf_23 : decode cX2_farOf 23 = .ok (.ireturn, 1) := dk_of dkc_88 (.tail _ (.tail _ (.tail _ (.tail _ (.tail _ (.tail _ (.tail _ (.tail _ (.tail _ (.tail _ (.tail _ (.tail _ (.tail _ (.head _))))))))))))))
def dkl_89 : List (Nat × Instr × Nat) := [(0, (.iconst 0, 1)), (1, (.istore_n 2, 1)), (2, (.iconst 0, 1)), (3, (.istore_n 3, 1)), (4, (.iload_n 3, 1)), (5, (.aload_n 0, 1)), (6, (.getfield 12, 3)), (9, (.getfield 60, 3)), (12, (.if_icmp .ge 30, 3)), (15, (.aload_n 0, 1)), (16, (.getfield 12, 3)), (19, (.aload_n 0, 1)), (20, (.iload_n 1, 1)), (21, (.invokevirtual 63, 3)), (24, (.iload_n 3, 1)), (25, (.invokevirtual 67, 3))]
theorem dkc_89 : ck9 ((bl9 cX2_flipsOf).drop 0) 0 dkl_89 = true := by decide +kernel
theorem dX2_flipsOf_0 : decode cX2_flipsOf 0 = .ok (.iconst 0, 1) := dk_of dkc_89 (.head _)
theorem dX2_flipsOf_1 : decode cX2_flipsOf 1 = .ok (.istore_n 2, 1) := dk_of dkc_89 (.tail _ (.head _))
theorem dX2_flipsOf_2 : decode cX2_flipsOf 2 = .ok (.iconst 0, 1) := dk_of dkc_89 (.tail _ (.tail _ (.head _)))
theorem dX2_flipsOf_3 : decode cX2_flipsOf 3 = .ok (.istore_n 3, 1) := dk_of dkc_89 (.tail _ (.tail _ (.tail _ (.head _))))
theorem dX2_flipsOf_4 : decode cX2_flipsOf 4 = .ok (.iload_n 3, 1) := dk_of dkc_89 (.tail _ (.tail _ (.tail _ (.tail _ (.head _)))))
theorem dX2_flipsOf_5 : decode cX2_flipsOf 5 = .ok (.aload_n 0, 1) := dk_of dkc_89 (.tail _ (.tail _ (.tail _ (.tail _ (.tail _ (.head _))))))
theorem dX2_flipsOf_6 : decode cX2_flipsOf 6 = .ok (.getfield 12, 3) := dk_of dkc_89 (.tail _ (.tail _ (.tail _ (.tail _ (.tail _ (.tail _ (.head _)))))))
theorem dX2_flipsOf_9 : decode cX2_flipsOf 9 = .ok (.getfield 60, 3) := dk_of dkc_89 (.tail _ (.tail _ (.tail _ (.tail _ (.tail _ (.tail _ (.tail _ (.head _))))))))
theorem dX2_flipsOf_12 : decode cX2_flipsOf 12 = .ok (.if_icmp .ge 30, 3) := dk_of dkc_89 (.tail _ (.tail _ (.tail _ (.tail _ (.tail _ (.tail _ (.tail _ (.tail _ (.head _)))))))))
theorem dX2_flipsOf_15 : decode cX2_flipsOf 15 = .ok (.aload_n 0, 1) := dk_of dkc_89 (.tail _ (.tail _ (.tail _ (.tail _ (.tail _ (.tail _ (.tail _ (.tail _ (.tail _ (.head _))))))))))
theorem dX2_flipsOf_16 : decode cX2_flipsOf 16 = .ok (.getfield 12, 3) := dk_of dkc_89 (.tail _ (.tail _ (.tail _ (.tail _ (.tail _ (.tail _ (.tail _ (.tail _ (.tail _ (.tail _ (.head _)))))))))))
theorem dX2_flipsOf_19 : decode cX2_flipsOf 19 = .ok (.aload_n 0, 1) := dk_of dkc_89 (.tail _ (.tail _ (.tail _ (.tail _ (.tail _ (.tail _ (.tail _ (.tail _ (.tail _ (.tail _ (.tail _ (.head _))))))))))))
theorem dX2_flipsOf_20 : decode cX2_flipsOf 20 = .ok (.iload_n 1, 1) := dk_of dkc_89 (.tail _ (.tail _ (.tail _ (.tail _ (.tail _ (.tail _ (.tail _ (.tail _ (.tail _ (.tail _ (.tail _ (.tail _ (.head _)))))))))))))
theorem dX2_flipsOf_21 : decode cX2_flipsOf 21 = .ok (.invokevirtual 63, 3) := dk_of dkc_89 (.tail _ (.tail _ (.tail _ (.tail _ (.tail _ (.tail _ (.tail _ (.tail _ (.tail _ (.tail _ (.tail _ (.tail _ (.tail _ (.head _))))))))))))))
theorem dX2_flipsOf_24 : decode cX2_flipsOf 24 = .ok (.iload_n 3, 1) := dk_of dkc_89 (.tail _ (.tail _ (.tail _ (.tail _ (.tail _ (.tail _ (.tail _ (.tail _ (.tail _ (.tail _ (.tail _ (.tail _ (.tail _ (.tail _ (.head _)))))))))))))))
theorem dX2_flipsOf_25 : decode cX2_flipsOf 25 = .ok (.invokevirtual 67, 3) := dk_of dkc_89 (.tail _ (.tail _ (.tail _ (.tail _ (.tail _ (.tail _ (.tail _ (.tail _ (.tail _ (.tail _ (.tail _ (.tail _ (.tail _ (.tail _ (.tail _ (.head _))))))))))))))))
def dkl_90 : List (Nat × Instr × Nat) := [(28, (.lconst 0, 1)), (29, (.lcmp, 1)), (30, (.ifCond .eq 6, 3)), (33, (.iinc 2 1, 3)), (36, (.iinc 3 1, 3)), (39, (.goto (-35), 3)), (42, (.iload_n 2, 1)), (43, (.ireturn, 1))]
theorem dkc_90 : ck9 ((bl9 cX2_flipsOf).drop 28) 28 dkl_90 = true := by decide +kernel
theorem dX2_flipsOf_28 : decode cX2_flipsOf 28 = .ok (.lconst 0, 1) := dk_of dkc_90 (.head _)
theorem dX2_flipsOf_29 : decode cX2_flipsOf 29 = .ok (.lcmp, 1) := dk_of dkc_90 (.tail _ (.head _))
theorem dX2_flipsOf_30 : decode cX2_flipsOf 30 = .ok (.ifCond .eq 6, 3) := dk_of dkc_90 (.tail _ (.tail _ (.head _)))
theorem dX2_flipsOf_33 : decode cX2_flipsOf 33 = .ok (.iinc 2 1, 3) := dk_of dkc_90 (.tail _ (.tail _ (.tail _ (.head _))))
theorem dX2_flipsOf_36 : decode cX2_flipsOf 36 = .ok (.iinc 3 1, 3) := dk_of dkc_90 (.tail _ (.tail _ (.tail _ (.tail _ (.head _)))))
theorem dX2_flipsOf_39 : decode cX2_flipsOf 39 = .ok (.goto (-35), 3) := dk_of dkc_90 (.tail _ (.tail _ (.tail _ (.tail _ (.tail _ (.head _))))))
theorem dX2_flipsOf_42 : decode cX2_flipsOf 42 = .ok (.iload_n 2, 1) := dk_of dkc_90 (.tail _ (.tail _ (.tail _ (.tail _ (.tail _ (.tail _ (.head _)))))))
theorem dX2_flipsOf_43 : decode cX2_flipsOf 43 = .ok (.ireturn, 1) := dk_of dkc_90 (.tail _ (.tail _ (.tail _ (.tail _ (.tail _ (.tail _ (.tail _ (.head _))))))))
def dkl_91 : List (Nat × Instr × Nat) := [(0, (.iload_n 2, 1)), (1, (.istore_n 3, 1)), (2, (.iconst 0, 1)), (3, (.istore 4, 2)), (5, (.iload 4, 2)), (7, (.aload_n 0, 1)), (8, (.getfield 12, 3)), (11, (.getfield 71, 3)), (14, (.if_icmp .ge 41, 3)), (17, (.aload_n 0, 1)), (18, (.iload_n 1, 1)), (19, (.invokevirtual 63, 3)), (22, (.iload 4, 2)), (24, (.lushr, 1)), (25, (.lconst 1, 1)), (26, (.land, 1))]
theorem dkc_91 : ck9 ((bl9 cX2_segmentAt).drop 0) 0 dkl_91 = true := by decide +kernel
theorem dX2_segmentAt_0 : decode cX2_segmentAt 0 = .ok (.iload_n 2, 1) := dk_of dkc_91 (.head _)
theorem dX2_segmentAt_1 : decode cX2_segmentAt 1 = .ok (.istore_n 3, 1) := dk_of dkc_91 (.tail _ (.head _))
theorem dX2_segmentAt_2 : decode cX2_segmentAt 2 = .ok (.iconst 0, 1) := dk_of dkc_91 (.tail _ (.tail _ (.head _)))
theorem dX2_segmentAt_3 : decode cX2_segmentAt 3 = .ok (.istore 4, 2) := dk_of dkc_91 (.tail _ (.tail _ (.tail _ (.head _))))
theorem dX2_segmentAt_5 : decode cX2_segmentAt 5 = .ok (.iload 4, 2) := dk_of dkc_91 (.tail _ (.tail _ (.tail _ (.tail _ (.head _)))))
theorem dX2_segmentAt_7 : decode cX2_segmentAt 7 = .ok (.aload_n 0, 1) := dk_of dkc_91 (.tail _ (.tail _ (.tail _ (.tail _ (.tail _ (.head _))))))
theorem dX2_segmentAt_8 : decode cX2_segmentAt 8 = .ok (.getfield 12, 3) := dk_of dkc_91 (.tail _ (.tail _ (.tail _ (.tail _ (.tail _ (.tail _ (.head _)))))))
theorem dX2_segmentAt_11 : decode cX2_segmentAt 11 = .ok (.getfield 71, 3) := dk_of dkc_91 (.tail _ (.tail _ (.tail _ (.tail _ (.tail _ (.tail _ (.tail _ (.head _))))))))
theorem dX2_segmentAt_14 : decode cX2_segmentAt 14 = .ok (.if_icmp .ge 41, 3) := dk_of dkc_91 (.tail _ (.tail _ (.tail _ (.tail _ (.tail _ (.tail _ (.tail _ (.tail _ (.head _)))))))))
theorem dX2_segmentAt_17 : decode cX2_segmentAt 17 = .ok (.aload_n 0, 1) := dk_of dkc_91 (.tail _ (.tail _ (.tail _ (.tail _ (.tail _ (.tail _ (.tail _ (.tail _ (.tail _ (.head _))))))))))
theorem dX2_segmentAt_18 : decode cX2_segmentAt 18 = .ok (.iload_n 1, 1) := dk_of dkc_91 (.tail _ (.tail _ (.tail _ (.tail _ (.tail _ (.tail _ (.tail _ (.tail _ (.tail _ (.tail _ (.head _)))))))))))
theorem dX2_segmentAt_19 : decode cX2_segmentAt 19 = .ok (.invokevirtual 63, 3) := dk_of dkc_91 (.tail _ (.tail _ (.tail _ (.tail _ (.tail _ (.tail _ (.tail _ (.tail _ (.tail _ (.tail _ (.tail _ (.head _))))))))))))
theorem dX2_segmentAt_22 : decode cX2_segmentAt 22 = .ok (.iload 4, 2) := dk_of dkc_91 (.tail _ (.tail _ (.tail _ (.tail _ (.tail _ (.tail _ (.tail _ (.tail _ (.tail _ (.tail _ (.tail _ (.tail _ (.head _)))))))))))))
theorem dX2_segmentAt_24 : decode cX2_segmentAt 24 = .ok (.lushr, 1) := dk_of dkc_91 (.tail _ (.tail _ (.tail _ (.tail _ (.tail _ (.tail _ (.tail _ (.tail _ (.tail _ (.tail _ (.tail _ (.tail _ (.tail _ (.head _))))))))))))))
theorem dX2_segmentAt_25 : decode cX2_segmentAt 25 = .ok (.lconst 1, 1) := dk_of dkc_91 (.tail _ (.tail _ (.tail _ (.tail _ (.tail _ (.tail _ (.tail _ (.tail _ (.tail _ (.tail _ (.tail _ (.tail _ (.tail _ (.tail _ (.head _)))))))))))))))
theorem dX2_segmentAt_26 : decode cX2_segmentAt 26 = .ok (.land, 1) := dk_of dkc_91 (.tail _ (.tail _ (.tail _ (.tail _ (.tail _ (.tail _ (.tail _ (.tail _ (.tail _ (.tail _ (.tail _ (.tail _ (.tail _ (.tail _ (.tail _ (.head _))))))))))))))))
def dkl_92 : List (Nat × Instr × Nat) := [(27, (.lconst 1, 1)), (28, (.lcmp, 1)), (29, (.ifCond .ne 20, 3)), (32, (.iload_n 3, 1)), (33, (.ifCond .ne 13, 3)), (36, (.aload_n 0, 1)), (37, (.getfield 12, 3)), (40, (.iload 4, 2)), (42, (.invokevirtual 72, 3)), (45, (.ireturn, 1)), (46, (.iinc 3 (-1), 3)), (49, (.iinc 4 1, 3)), (52, (.goto (-47), 3)), (55, (.iconst (-1), 1)), (56, (.ireturn, 1))]
theorem dkc_92 : ck9 ((bl9 cX2_segmentAt).drop 27) 27 dkl_92 = true := by decide +kernel
theorem dX2_segmentAt_27 : decode cX2_segmentAt 27 = .ok (.lconst 1, 1) := dk_of dkc_92 (.head _)
theorem dX2_segmentAt_28 : decode cX2_segmentAt 28 = .ok (.lcmp, 1) := dk_of dkc_92 (.tail _ (.head _))
theorem dX2_segmentAt_29 : decode cX2_segmentAt 29 = .ok (.ifCond .ne 20, 3) := dk_of dkc_92 (.tail _ (.tail _ (.head _)))
theorem dX2_segmentAt_32 : decode cX2_segmentAt 32 = .ok (.iload_n 3, 1) := dk_of dkc_92 (.tail _ (.tail _ (.tail _ (.head _))))
theorem dX2_segmentAt_33 : decode cX2_segmentAt 33 = .ok (.ifCond .ne 13, 3) := dk_of dkc_92 (.tail _ (.tail _ (.tail _ (.tail _ (.head _)))))
theorem dX2_segmentAt_36 : decode cX2_segmentAt 36 = .ok (.aload_n 0, 1) := dk_of dkc_92 (.tail _ (.tail _ (.tail _ (.tail _ (.tail _ (.head _))))))
theorem dX2_segmentAt_37 : decode cX2_segmentAt 37 = .ok (.getfield 12, 3) := dk_of dkc_92 (.tail _ (.tail _ (.tail _ (.tail _ (.tail _ (.tail _ (.head _)))))))
theorem dX2_segmentAt_40 : decode cX2_segmentAt 40 = .ok (.iload 4, 2) := dk_of dkc_92 (.tail _ (.tail _ (.tail _ (.tail _ (.tail _ (.tail _ (.tail _ (.head _))))))))
theorem dX2_segmentAt_42 : decode cX2_segmentAt 42 = .ok (.invokevirtual 72, 3) := dk_of dkc_92 (.tail _ (.tail _ (.tail _ (.tail _ (.tail _ (.tail _ (.tail _ (.tail _ (.head _)))))))))
theorem dX2_segmentAt_45 : decode cX2_segmentAt 45 = .ok (.ireturn, 1) := dk_of dkc_92 (.tail _ (.tail _ (.tail _ (.tail _ (.tail _ (.tail _ (.tail _ (.tail _ (.tail _ (.head _))))))))))
theorem dX2_segmentAt_46 : decode cX2_segmentAt 46 = .ok (.iinc 3 (-1), 3) := dk_of dkc_92 (.tail _ (.tail _ (.tail _ (.tail _ (.tail _ (.tail _ (.tail _ (.tail _ (.tail _ (.tail _ (.head _)))))))))))
theorem dX2_segmentAt_49 : decode cX2_segmentAt 49 = .ok (.iinc 4 1, 3) := dk_of dkc_92 (.tail _ (.tail _ (.tail _ (.tail _ (.tail _ (.tail _ (.tail _ (.tail _ (.tail _ (.tail _ (.tail _ (.head _))))))))))))
theorem dX2_segmentAt_52 : decode cX2_segmentAt 52 = .ok (.goto (-47), 3) := dk_of dkc_92 (.tail _ (.tail _ (.tail _ (.tail _ (.tail _ (.tail _ (.tail _ (.tail _ (.tail _ (.tail _ (.tail _ (.tail _ (.head _)))))))))))))
theorem dX2_segmentAt_55 : decode cX2_segmentAt 55 = .ok (.iconst (-1), 1) := dk_of dkc_92 (.tail _ (.tail _ (.tail _ (.tail _ (.tail _ (.tail _ (.tail _ (.tail _ (.tail _ (.tail _ (.tail _ (.tail _ (.tail _ (.head _))))))))))))))
theorem dX2_segmentAt_56 : decode cX2_segmentAt 56 = .ok (.ireturn, 1) := dk_of dkc_92 (.tail _ (.tail _ (.tail _ (.tail _ (.tail _ (.tail _ (.tail _ (.tail _ (.tail _ (.tail _ (.tail _ (.tail _ (.tail _ (.tail _ (.head _)))))))))))))))
def dkl_93 : List (Nat × Instr × Nat) := [(0, (.iload_n 1, 1)), (1, (.ifCond .lt 21, 3)), (4, (.iload_n 1, 1)), (5, (.aload_n 0, 1)), (6, (.getfield 18, 3)), (9, (.arraylength, 1)), (10, (.if_icmp .ge 12, 3)), (13, (.aload_n 0, 1)), (14, (.getfield 18, 3)), (17, (.iload_n 1, 1)), (18, (.laload, 1)), (19, (.goto 4, 3)), (22, (.lconst 0, 1)), (23, (.lreturn, 1))]
theorem dkc_93 : ck9 ((bl9 cX2_setOf).drop 0) 0 dkl_93 = true := by decide +kernel
theorem dX2_setOf_0 : decode cX2_setOf 0 = .ok (.iload_n 1, 1) := dk_of dkc_93 (.head _)
theorem dX2_setOf_1 : decode cX2_setOf 1 = .ok (.ifCond .lt 21, 3) := dk_of dkc_93 (.tail _ (.head _))
theorem dX2_setOf_4 : decode cX2_setOf 4 = .ok (.iload_n 1, 1) := dk_of dkc_93 (.tail _ (.tail _ (.head _)))
theorem dX2_setOf_5 : decode cX2_setOf 5 = .ok (.aload_n 0, 1) := dk_of dkc_93 (.tail _ (.tail _ (.tail _ (.head _))))
theorem dX2_setOf_6 : decode cX2_setOf 6 = .ok (.getfield 18, 3) := dk_of dkc_93 (.tail _ (.tail _ (.tail _ (.tail _ (.head _)))))
theorem dX2_setOf_9 : decode cX2_setOf 9 = .ok (.arraylength, 1) := dk_of dkc_93 (.tail _ (.tail _ (.tail _ (.tail _ (.tail _ (.head _))))))
theorem dX2_setOf_10 : decode cX2_setOf 10 = .ok (.if_icmp .ge 12, 3) := dk_of dkc_93 (.tail _ (.tail _ (.tail _ (.tail _ (.tail _ (.tail _ (.head _)))))))
theorem dX2_setOf_13 : decode cX2_setOf 13 = .ok (.aload_n 0, 1) := dk_of dkc_93 (.tail _ (.tail _ (.tail _ (.tail _ (.tail _ (.tail _ (.tail _ (.head _))))))))
theorem dX2_setOf_14 : decode cX2_setOf 14 = .ok (.getfield 18, 3) := dk_of dkc_93 (.tail _ (.tail _ (.tail _ (.tail _ (.tail _ (.tail _ (.tail _ (.tail _ (.head _)))))))))
theorem dX2_setOf_17 : decode cX2_setOf 17 = .ok (.iload_n 1, 1) := dk_of dkc_93 (.tail _ (.tail _ (.tail _ (.tail _ (.tail _ (.tail _ (.tail _ (.tail _ (.tail _ (.head _))))))))))
theorem dX2_setOf_18 : decode cX2_setOf 18 = .ok (.laload, 1) := dk_of dkc_93 (.tail _ (.tail _ (.tail _ (.tail _ (.tail _ (.tail _ (.tail _ (.tail _ (.tail _ (.tail _ (.head _)))))))))))
theorem dX2_setOf_19 : decode cX2_setOf 19 = .ok (.goto 4, 3) := dk_of dkc_93 (.tail _ (.tail _ (.tail _ (.tail _ (.tail _ (.tail _ (.tail _ (.tail _ (.tail _ (.tail _ (.tail _ (.head _))))))))))))
theorem dX2_setOf_22 : decode cX2_setOf 22 = .ok (.lconst 0, 1) := dk_of dkc_93 (.tail _ (.tail _ (.tail _ (.tail _ (.tail _ (.tail _ (.tail _ (.tail _ (.tail _ (.tail _ (.tail _ (.tail _ (.head _)))))))))))))
theorem dX2_setOf_23 : decode cX2_setOf 23 = .ok (.lreturn, 1) := dk_of dkc_93 (.tail _ (.tail _ (.tail _ (.tail _ (.tail _ (.tail _ (.tail _ (.tail _ (.tail _ (.tail _ (.tail _ (.tail _ (.tail _ (.head _))))))))))))))
def dkl_94 : List (Nat × Instr × Nat) := [(0, (.aload_n 0, 1)), (1, (.getfield 26, 3)), (4, (.iconst 0, 1)), (5, (.invokestatic 75, 3)), (8, (.aload_n 0, 1)), (9, (.iconst 0, 1)), (10, (.putfield 53, 3)), (13, (.aload_n 0, 1)), (14, (.iconst 0, 1)), (15, (.putfield 49, 3)), (18, (.aload_n 0, 1)), (19, (.aload_n 0, 1)), (20, (.getfield 12, 3)), (23, (.invokevirtual 81, 3)), (26, (.iconst 0, 1)), (27, (.invokevirtual 85, 3))]
theorem dkc_94 : ck9 ((bl9 cX2_search).drop 0) 0 dkl_94 = true := by decide +kernel
theorem dX2_search_0 : decode cX2_search 0 = .ok (.aload_n 0, 1) := dk_of dkc_94 (.head _)
theorem dX2_search_1 : decode cX2_search 1 = .ok (.getfield 26, 3) := dk_of dkc_94 (.tail _ (.head _))
theorem dX2_search_4 : decode cX2_search 4 = .ok (.iconst 0, 1) := dk_of dkc_94 (.tail _ (.tail _ (.head _)))
theorem dX2_search_5 : decode cX2_search 5 = .ok (.invokestatic 75, 3) := dk_of dkc_94 (.tail _ (.tail _ (.tail _ (.head _))))
theorem dX2_search_8 : decode cX2_search 8 = .ok (.aload_n 0, 1) := dk_of dkc_94 (.tail _ (.tail _ (.tail _ (.tail _ (.head _)))))
theorem dX2_search_9 : decode cX2_search 9 = .ok (.iconst 0, 1) := dk_of dkc_94 (.tail _ (.tail _ (.tail _ (.tail _ (.tail _ (.head _))))))
theorem dX2_search_10 : decode cX2_search 10 = .ok (.putfield 53, 3) := dk_of dkc_94 (.tail _ (.tail _ (.tail _ (.tail _ (.tail _ (.tail _ (.head _)))))))
theorem dX2_search_13 : decode cX2_search 13 = .ok (.aload_n 0, 1) := dk_of dkc_94 (.tail _ (.tail _ (.tail _ (.tail _ (.tail _ (.tail _ (.tail _ (.head _))))))))
theorem dX2_search_14 : decode cX2_search 14 = .ok (.iconst 0, 1) := dk_of dkc_94 (.tail _ (.tail _ (.tail _ (.tail _ (.tail _ (.tail _ (.tail _ (.tail _ (.head _)))))))))
theorem dX2_search_15 : decode cX2_search 15 = .ok (.putfield 49, 3) := dk_of dkc_94 (.tail _ (.tail _ (.tail _ (.tail _ (.tail _ (.tail _ (.tail _ (.tail _ (.tail _ (.head _))))))))))
theorem dX2_search_18 : decode cX2_search 18 = .ok (.aload_n 0, 1) := dk_of dkc_94 (.tail _ (.tail _ (.tail _ (.tail _ (.tail _ (.tail _ (.tail _ (.tail _ (.tail _ (.tail _ (.head _)))))))))))
theorem dX2_search_19 : decode cX2_search 19 = .ok (.aload_n 0, 1) := dk_of dkc_94 (.tail _ (.tail _ (.tail _ (.tail _ (.tail _ (.tail _ (.tail _ (.tail _ (.tail _ (.tail _ (.tail _ (.head _))))))))))))
theorem dX2_search_20 : decode cX2_search 20 = .ok (.getfield 12, 3) := dk_of dkc_94 (.tail _ (.tail _ (.tail _ (.tail _ (.tail _ (.tail _ (.tail _ (.tail _ (.tail _ (.tail _ (.tail _ (.tail _ (.head _)))))))))))))
theorem dX2_search_23 : decode cX2_search 23 = .ok (.invokevirtual 81, 3) := dk_of dkc_94 (.tail _ (.tail _ (.tail _ (.tail _ (.tail _ (.tail _ (.tail _ (.tail _ (.tail _ (.tail _ (.tail _ (.tail _ (.tail _ (.head _))))))))))))))
theorem dX2_search_26 : decode cX2_search 26 = .ok (.iconst 0, 1) := dk_of dkc_94 (.tail _ (.tail _ (.tail _ (.tail _ (.tail _ (.tail _ (.tail _ (.tail _ (.tail _ (.tail _ (.tail _ (.tail _ (.tail _ (.tail _ (.head _)))))))))))))))
theorem dX2_search_27 : decode cX2_search 27 = .ok (.invokevirtual 85, 3) := dk_of dkc_94 (.tail _ (.tail _ (.tail _ (.tail _ (.tail _ (.tail _ (.tail _ (.tail _ (.tail _ (.tail _ (.tail _ (.tail _ (.tail _ (.tail _ (.tail _ (.head _))))))))))))))))
def dkl_95 : List (Nat × Instr × Nat) := [(30, (.iconst 0, 1)), (31, (.istore_n 1, 1)), (32, (.iload_n 1, 1)), (33, (.aload_n 0, 1)), (34, (.getfield 53, 3)), (37, (.if_icmp .ge 74, 3)), (40, (.aload_n 0, 1)), (41, (.getfield 49, 3)), (44, (.ifCond .ne 67, 3)), (47, (.iconst 0, 1)), (48, (.istore_n 2, 1)), (49, (.iload_n 2, 1)), (50, (.aload_n 0, 1)), (51, (.getfield 12, 3)), (54, (.getfield 60, 3)), (57, (.if_icmp .ge 48, 3))]
theorem dkc_95 : ck9 ((bl9 cX2_search).drop 30) 30 dkl_95 = true := by decide +kernel
theorem dX2_search_30 : decode cX2_search 30 = .ok (.iconst 0, 1) := dk_of dkc_95 (.head _)
theorem dX2_search_31 : decode cX2_search 31 = .ok (.istore_n 1, 1) := dk_of dkc_95 (.tail _ (.head _))
theorem dX2_search_32 : decode cX2_search 32 = .ok (.iload_n 1, 1) := dk_of dkc_95 (.tail _ (.tail _ (.head _)))
theorem dX2_search_33 : decode cX2_search 33 = .ok (.aload_n 0, 1) := dk_of dkc_95 (.tail _ (.tail _ (.tail _ (.head _))))
theorem dX2_search_34 : decode cX2_search 34 = .ok (.getfield 53, 3) := dk_of dkc_95 (.tail _ (.tail _ (.tail _ (.tail _ (.head _)))))
theorem dX2_search_37 : decode cX2_search 37 = .ok (.if_icmp .ge 74, 3) := dk_of dkc_95 (.tail _ (.tail _ (.tail _ (.tail _ (.tail _ (.head _))))))
theorem dX2_search_40 : decode cX2_search 40 = .ok (.aload_n 0, 1) := dk_of dkc_95 (.tail _ (.tail _ (.tail _ (.tail _ (.tail _ (.tail _ (.head _)))))))
theorem dX2_search_41 : decode cX2_search 41 = .ok (.getfield 49, 3) := dk_of dkc_95 (.tail _ (.tail _ (.tail _ (.tail _ (.tail _ (.tail _ (.tail _ (.head _))))))))
theorem dX2_search_44 : decode cX2_search 44 = .ok (.ifCond .ne 67, 3) := dk_of dkc_95 (.tail _ (.tail _ (.tail _ (.tail _ (.tail _ (.tail _ (.tail _ (.tail _ (.head _)))))))))
theorem dX2_search_47 : decode cX2_search 47 = .ok (.iconst 0, 1) := dk_of dkc_95 (.tail _ (.tail _ (.tail _ (.tail _ (.tail _ (.tail _ (.tail _ (.tail _ (.tail _ (.head _))))))))))
theorem dX2_search_48 : decode cX2_search 48 = .ok (.istore_n 2, 1) := dk_of dkc_95 (.tail _ (.tail _ (.tail _ (.tail _ (.tail _ (.tail _ (.tail _ (.tail _ (.tail _ (.tail _ (.head _)))))))))))
theorem dX2_search_49 : decode cX2_search 49 = .ok (.iload_n 2, 1) := dk_of dkc_95 (.tail _ (.tail _ (.tail _ (.tail _ (.tail _ (.tail _ (.tail _ (.tail _ (.tail _ (.tail _ (.tail _ (.head _))))))))))))
theorem dX2_search_50 : decode cX2_search 50 = .ok (.aload_n 0, 1) := dk_of dkc_95 (.tail _ (.tail _ (.tail _ (.tail _ (.tail _ (.tail _ (.tail _ (.tail _ (.tail _ (.tail _ (.tail _ (.tail _ (.head _)))))))))))))
theorem dX2_search_51 : decode cX2_search 51 = .ok (.getfield 12, 3) := dk_of dkc_95 (.tail _ (.tail _ (.tail _ (.tail _ (.tail _ (.tail _ (.tail _ (.tail _ (.tail _ (.tail _ (.tail _ (.tail _ (.tail _ (.head _))))))))))))))
theorem dX2_search_54 : decode cX2_search 54 = .ok (.getfield 60, 3) := dk_of dkc_95 (.tail _ (.tail _ (.tail _ (.tail _ (.tail _ (.tail _ (.tail _ (.tail _ (.tail _ (.tail _ (.tail _ (.tail _ (.tail _ (.tail _ (.head _)))))))))))))))
theorem dX2_search_57 : decode cX2_search 57 = .ok (.if_icmp .ge 48, 3) := dk_of dkc_95 (.tail _ (.tail _ (.tail _ (.tail _ (.tail _ (.tail _ (.tail _ (.tail _ (.tail _ (.tail _ (.tail _ (.tail _ (.tail _ (.tail _ (.tail _ (.head _))))))))))))))))
def dkl_96 : List (Nat × Instr × Nat) := [(60, (.aload_n 0, 1)), (61, (.getfield 49, 3)), (64, (.ifCond .ne 41, 3)), (67, (.aload_n 0, 1)), (68, (.getfield 12, 3)), (71, (.aload_n 0, 1)), (72, (.iload_n 1, 1)), (73, (.invokevirtual 63, 3)), (76, (.iload_n 2, 1)), (77, (.invokevirtual 67, 3)), (80, (.lstore_n 3, 1)), (81, (.lload_n 3, 1)), (82, (.lconst 0, 1)), (83, (.lcmp, 1)), (84, (.ifCond .eq 15, 3)), (87, (.aload_n 0, 1))]
theorem dkc_96 : ck9 ((bl9 cX2_search).drop 60) 60 dkl_96 = true := by decide +kernel
theorem dX2_search_60 : decode cX2_search 60 = .ok (.aload_n 0, 1) := dk_of dkc_96 (.head _)
theorem dX2_search_61 : decode cX2_search 61 = .ok (.getfield 49, 3) := dk_of dkc_96 (.tail _ (.head _))
theorem dX2_search_64 : decode cX2_search 64 = .ok (.ifCond .ne 41, 3) := dk_of dkc_96 (.tail _ (.tail _ (.head _)))
theorem dX2_search_67 : decode cX2_search 67 = .ok (.aload_n 0, 1) := dk_of dkc_96 (.tail _ (.tail _ (.tail _ (.head _))))
theorem dX2_search_68 : decode cX2_search 68 = .ok (.getfield 12, 3) := dk_of dkc_96 (.tail _ (.tail _ (.tail _ (.tail _ (.head _)))))
theorem dX2_search_71 : decode cX2_search 71 = .ok (.aload_n 0, 1) := dk_of dkc_96 (.tail _ (.tail _ (.tail _ (.tail _ (.tail _ (.head _))))))
theorem dX2_search_72 : decode cX2_search 72 = .ok (.iload_n 1, 1) := dk_of dkc_96 (.tail _ (.tail _ (.tail _ (.tail _ (.tail _ (.tail _ (.head _)))))))
theorem dX2_search_73 : decode cX2_search 73 = .ok (.invokevirtual 63, 3) := dk_of dkc_96 (.tail _ (.tail _ (.tail _ (.tail _ (.tail _ (.tail _ (.tail _ (.head _))))))))
theorem dX2_search_76 : decode cX2_search 76 = .ok (.iload_n 2, 1) := dk_of dkc_96 (.tail _ (.tail _ (.tail _ (.tail _ (.tail _ (.tail _ (.tail _ (.tail _ (.head _)))))))))
theorem dX2_search_77 : decode cX2_search 77 = .ok (.invokevirtual 67, 3) := dk_of dkc_96 (.tail _ (.tail _ (.tail _ (.tail _ (.tail _ (.tail _ (.tail _ (.tail _ (.tail _ (.head _))))))))))
theorem dX2_search_80 : decode cX2_search 80 = .ok (.lstore_n 3, 1) := dk_of dkc_96 (.tail _ (.tail _ (.tail _ (.tail _ (.tail _ (.tail _ (.tail _ (.tail _ (.tail _ (.tail _ (.head _)))))))))))
theorem dX2_search_81 : decode cX2_search 81 = .ok (.lload_n 3, 1) := dk_of dkc_96 (.tail _ (.tail _ (.tail _ (.tail _ (.tail _ (.tail _ (.tail _ (.tail _ (.tail _ (.tail _ (.tail _ (.head _))))))))))))
theorem dX2_search_82 : decode cX2_search 82 = .ok (.lconst 0, 1) := dk_of dkc_96 (.tail _ (.tail _ (.tail _ (.tail _ (.tail _ (.tail _ (.tail _ (.tail _ (.tail _ (.tail _ (.tail _ (.tail _ (.head _)))))))))))))
theorem dX2_search_83 : decode cX2_search 83 = .ok (.lcmp, 1) := dk_of dkc_96 (.tail _ (.tail _ (.tail _ (.tail _ (.tail _ (.tail _ (.tail _ (.tail _ (.tail _ (.tail _ (.tail _ (.tail _ (.tail _ (.head _))))))))))))))
theorem dX2_search_84 : decode cX2_search 84 = .ok (.ifCond .eq 15, 3) := dk_of dkc_96 (.tail _ (.tail _ (.tail _ (.tail _ (.tail _ (.tail _ (.tail _ (.tail _ (.tail _ (.tail _ (.tail _ (.tail _ (.tail _ (.tail _ (.head _)))))))))))))))
theorem dX2_search_87 : decode cX2_search 87 = .ok (.aload_n 0, 1) := dk_of dkc_96 (.tail _ (.tail _ (.tail _ (.tail _ (.tail _ (.tail _ (.tail _ (.tail _ (.tail _ (.tail _ (.tail _ (.tail _ (.tail _ (.tail _ (.tail _ (.head _))))))))))))))))
def dkl_97 : List (Nat × Instr × Nat) := [(88, (.lload_n 3, 1)), (89, (.aload_n 0, 1)), (90, (.iload_n 1, 1)), (91, (.invokevirtual 56, 3)), (94, (.iconst 1, 1)), (95, (.iadd, 1)), (96, (.invokevirtual 85, 3)), (99, (.iinc 2 1, 3)), (102, (.goto (-53), 3)), (105, (.iinc 1 1, 3)), (108, (.goto (-76), 3)), (111, (.return_, 1))]
theorem dkc_97 : ck9 ((bl9 cX2_search).drop 88) 88 dkl_97 = true := by decide +kernel
theorem dX2_search_88 : decode cX2_search 88 = .ok (.lload_n 3, 1) := dk_of dkc_97 (.head _)
theorem dX2_search_89 : decode cX2_search 89 = .ok (.aload_n 0, 1) := dk_of dkc_97 (.tail _ (.head _))
theorem dX2_search_90 : decode cX2_search 90 = .ok (.iload_n 1, 1) := dk_of dkc_97 (.tail _ (.tail _ (.head _)))
theorem dX2_search_91 : decode cX2_search 91 = .ok (.invokevirtual 56, 3) := dk_of dkc_97 (.tail _ (.tail _ (.tail _ (.head _))))
theorem dX2_search_94 : decode cX2_search 94 = .ok (.iconst 1, 1) := dk_of dkc_97 (.tail _ (.tail _ (.tail _ (.tail _ (.head _)))))
theorem dX2_search_95 : decode cX2_search 95 = .ok (.iadd, 1) := dk_of dkc_97 (.tail _ (.tail _ (.tail _ (.tail _ (.tail _ (.head _))))))
theorem dX2_search_96 : decode cX2_search 96 = .ok (.invokevirtual 85, 3) := dk_of dkc_97 (.tail _ (.tail _ (.tail _ (.tail _ (.tail _ (.tail _ (.head _)))))))
theorem dX2_search_99 : decode cX2_search 99 = .ok (.iinc 2 1, 3) := dk_of dkc_97 (.tail _ (.tail _ (.tail _ (.tail _ (.tail _ (.tail _ (.tail _ (.head _))))))))
theorem dX2_search_102 : decode cX2_search 102 = .ok (.goto (-53), 3) := dk_of dkc_97 (.tail _ (.tail _ (.tail _ (.tail _ (.tail _ (.tail _ (.tail _ (.tail _ (.head _)))))))))
theorem dX2_search_105 : decode cX2_search 105 = .ok (.iinc 1 1, 3) := dk_of dkc_97 (.tail _ (.tail _ (.tail _ (.tail _ (.tail _ (.tail _ (.tail _ (.tail _ (.tail _ (.head _))))))))))
theorem dX2_search_108 : decode cX2_search 108 = .ok (.goto (-76), 3) := dk_of dkc_97 (.tail _ (.tail _ (.tail _ (.tail _ (.tail _ (.tail _ (.tail _ (.tail _ (.tail _ (.tail _ (.head _)))))))))))
theorem dX2_search_111 : decode cX2_search 111 = .ok (.return_, 1) := dk_of dkc_97 (.tail _ (.tail _ (.tail _ (.tail _ (.tail _ (.tail _ (.tail _ (.tail _ (.tail _ (.tail _ (.tail _ (.head _))))))))))))
def dkl_98 : List (Nat × Instr × Nat) := [(0, (.lload_n 1, 1)), (1, (.ldc2_w 89, 3)), (4, (.lmul, 1)), (5, (.bipush 52, 2)), (7, (.lushr, 1)), (8, (.l2i, 1)), (9, (.sipush 4095, 3)), (12, (.iand, 1)), (13, (.istore 4, 2)), (15, (.iconst 0, 1)), (16, (.istore 5, 2)), (18, (.iload 5, 2)), (20, (.sipush 4096, 3)), (23, (.if_icmp .ge 48, 3)), (26, (.aload_n 0, 1)), (27, (.getfield 26, 3))]
theorem dkc_98 : ck9 ((bl9 cX2_enter).drop 0) 0 dkl_98 = true := by decide +kernel
theorem dX2_enter_0 : decode cX2_enter 0 = .ok (.lload_n 1, 1) := dk_of dkc_98 (.head _)
theorem dX2_enter_1 : decode cX2_enter 1 = .ok (.ldc2_w 89, 3) := dk_of dkc_98 (.tail _ (.head _))
theorem dX2_enter_4 : decode cX2_enter 4 = .ok (.lmul, 1) := dk_of dkc_98 (.tail _ (.tail _ (.head _)))
theorem dX2_enter_5 : decode cX2_enter 5 = .ok (.bipush 52, 2) := dk_of dkc_98 (.tail _ (.tail _ (.tail _ (.head _))))
theorem dX2_enter_7 : decode cX2_enter 7 = .ok (.lushr, 1) := dk_of dkc_98 (.tail _ (.tail _ (.tail _ (.tail _ (.head _)))))
theorem dX2_enter_8 : decode cX2_enter 8 = .ok (.l2i, 1) := dk_of dkc_98 (.tail _ (.tail _ (.tail _ (.tail _ (.tail _ (.head _))))))
theorem dX2_enter_9 : decode cX2_enter 9 = .ok (.sipush 4095, 3) := dk_of dkc_98 (.tail _ (.tail _ (.tail _ (.tail _ (.tail _ (.tail _ (.head _)))))))
theorem dX2_enter_12 : decode cX2_enter 12 = .ok (.iand, 1) := dk_of dkc_98 (.tail _ (.tail _ (.tail _ (.tail _ (.tail _ (.tail _ (.tail _ (.head _))))))))
theorem dX2_enter_13 : decode cX2_enter 13 = .ok (.istore 4, 2) := dk_of dkc_98 (.tail _ (.tail _ (.tail _ (.tail _ (.tail _ (.tail _ (.tail _ (.tail _ (.head _)))))))))
theorem dX2_enter_15 : decode cX2_enter 15 = .ok (.iconst 0, 1) := dk_of dkc_98 (.tail _ (.tail _ (.tail _ (.tail _ (.tail _ (.tail _ (.tail _ (.tail _ (.tail _ (.head _))))))))))
theorem dX2_enter_16 : decode cX2_enter 16 = .ok (.istore 5, 2) := dk_of dkc_98 (.tail _ (.tail _ (.tail _ (.tail _ (.tail _ (.tail _ (.tail _ (.tail _ (.tail _ (.tail _ (.head _)))))))))))
theorem dX2_enter_18 : decode cX2_enter 18 = .ok (.iload 5, 2) := dk_of dkc_98 (.tail _ (.tail _ (.tail _ (.tail _ (.tail _ (.tail _ (.tail _ (.tail _ (.tail _ (.tail _ (.tail _ (.head _))))))))))))
theorem dX2_enter_20 : decode cX2_enter 20 = .ok (.sipush 4096, 3) := dk_of dkc_98 (.tail _ (.tail _ (.tail _ (.tail _ (.tail _ (.tail _ (.tail _ (.tail _ (.tail _ (.tail _ (.tail _ (.tail _ (.head _)))))))))))))
theorem dX2_enter_23 : decode cX2_enter 23 = .ok (.if_icmp .ge 48, 3) := dk_of dkc_98 (.tail _ (.tail _ (.tail _ (.tail _ (.tail _ (.tail _ (.tail _ (.tail _ (.tail _ (.tail _ (.tail _ (.tail _ (.tail _ (.head _))))))))))))))
theorem dX2_enter_26 : decode cX2_enter 26 = .ok (.aload_n 0, 1) := dk_of dkc_98 (.tail _ (.tail _ (.tail _ (.tail _ (.tail _ (.tail _ (.tail _ (.tail _ (.tail _ (.tail _ (.tail _ (.tail _ (.tail _ (.tail _ (.head _)))))))))))))))
theorem dX2_enter_27 : decode cX2_enter 27 = .ok (.getfield 26, 3) := dk_of dkc_98 (.tail _ (.tail _ (.tail _ (.tail _ (.tail _ (.tail _ (.tail _ (.tail _ (.tail _ (.tail _ (.tail _ (.tail _ (.tail _ (.tail _ (.tail _ (.head _))))))))))))))))
def dkl_99 : List (Nat × Instr × Nat) := [(30, (.iload 4, 2)), (32, (.iaload, 1)), (33, (.ifCond .eq 38, 3)), (36, (.aload_n 0, 1)), (37, (.aload_n 0, 1)), (38, (.getfield 26, 3)), (41, (.iload 4, 2)), (43, (.iaload, 1)), (44, (.iconst 1, 1)), (45, (.isub, 1)), (46, (.invokevirtual 63, 3)), (49, (.lload_n 1, 1)), (50, (.lcmp, 1)), (51, (.ifCond .ne 4, 3)), (54, (.return_, 1)), (55, (.iload 4, 2))]
theorem dkc_99 : ck9 ((bl9 cX2_enter).drop 30) 30 dkl_99 = true := by decide +kernel
theorem dX2_enter_30 : decode cX2_enter 30 = .ok (.iload 4, 2) := dk_of dkc_99 (.head _)
theorem dX2_enter_32 : decode cX2_enter 32 = .ok (.iaload, 1) := dk_of dkc_99 (.tail _ (.head _))
theorem dX2_enter_33 : decode cX2_enter 33 = .ok (.ifCond .eq 38, 3) := dk_of dkc_99 (.tail _ (.tail _ (.head _)))
theorem dX2_enter_36 : decode cX2_enter 36 = .ok (.aload_n 0, 1) := dk_of dkc_99 (.tail _ (.tail _ (.tail _ (.head _))))
theorem dX2_enter_37 : decode cX2_enter 37 = .ok (.aload_n 0, 1) := dk_of dkc_99 (.tail _ (.tail _ (.tail _ (.tail _ (.head _)))))
theorem dX2_enter_38 : decode cX2_enter 38 = .ok (.getfield 26, 3) := dk_of dkc_99 (.tail _ (.tail _ (.tail _ (.tail _ (.tail _ (.head _))))))
theorem dX2_enter_41 : decode cX2_enter 41 = .ok (.iload 4, 2) := dk_of dkc_99 (.tail _ (.tail _ (.tail _ (.tail _ (.tail _ (.tail _ (.head _)))))))
theorem dX2_enter_43 : decode cX2_enter 43 = .ok (.iaload, 1) := dk_of dkc_99 (.tail _ (.tail _ (.tail _ (.tail _ (.tail _ (.tail _ (.tail _ (.head _))))))))
theorem dX2_enter_44 : decode cX2_enter 44 = .ok (.iconst 1, 1) := dk_of dkc_99 (.tail _ (.tail _ (.tail _ (.tail _ (.tail _ (.tail _ (.tail _ (.tail _ (.head _)))))))))
theorem dX2_enter_45 : decode cX2_enter 45 = .ok (.isub, 1) := dk_of dkc_99 (.tail _ (.tail _ (.tail _ (.tail _ (.tail _ (.tail _ (.tail _ (.tail _ (.tail _ (.head _))))))))))
theorem dX2_enter_46 : decode cX2_enter 46 = .ok (.invokevirtual 63, 3) := dk_of dkc_99 (.tail _ (.tail _ (.tail _ (.tail _ (.tail _ (.tail _ (.tail _ (.tail _ (.tail _ (.tail _ (.head _)))))))))))
theorem dX2_enter_49 : decode cX2_enter 49 = .ok (.lload_n 1, 1) := dk_of dkc_99 (.tail _ (.tail _ (.tail _ (.tail _ (.tail _ (.tail _ (.tail _ (.tail _ (.tail _ (.tail _ (.tail _ (.head _))))))))))))
theorem dX2_enter_50 : decode cX2_enter 50 = .ok (.lcmp, 1) := dk_of dkc_99 (.tail _ (.tail _ (.tail _ (.tail _ (.tail _ (.tail _ (.tail _ (.tail _ (.tail _ (.tail _ (.tail _ (.tail _ (.head _)))))))))))))
theorem dX2_enter_51 : decode cX2_enter 51 = .ok (.ifCond .ne 4, 3) := dk_of dkc_99 (.tail _ (.tail _ (.tail _ (.tail _ (.tail _ (.tail _ (.tail _ (.tail _ (.tail _ (.tail _ (.tail _ (.tail _ (.tail _ (.head _))))))))))))))
theorem dX2_enter_54 : decode cX2_enter 54 = .ok (.return_, 1) := dk_of dkc_99 (.tail _ (.tail _ (.tail _ (.tail _ (.tail _ (.tail _ (.tail _ (.tail _ (.tail _ (.tail _ (.tail _ (.tail _ (.tail _ (.tail _ (.head _)))))))))))))))
theorem dX2_enter_55 : decode cX2_enter 55 = .ok (.iload 4, 2) := dk_of dkc_99 (.tail _ (.tail _ (.tail _ (.tail _ (.tail _ (.tail _ (.tail _ (.tail _ (.tail _ (.tail _ (.tail _ (.tail _ (.tail _ (.tail _ (.tail _ (.head _))))))))))))))))
def dkl_100 : List (Nat × Instr × Nat) := [(57, (.iconst 1, 1)), (58, (.iadd, 1)), (59, (.sipush 4095, 3)), (62, (.iand, 1)), (63, (.istore 4, 2)), (65, (.iinc 5 1, 3)), (68, (.goto (-50), 3)), (71, (.aload_n 0, 1)), (72, (.getfield 53, 3)), (75, (.sipush 1500, 3)), (78, (.if_icmp .lt 9, 3)), (81, (.aload_n 0, 1)), (82, (.iconst 1, 1)), (83, (.putfield 49, 3)), (86, (.return_, 1)), (87, (.aload_n 0, 1))]
theorem dkc_100 : ck9 ((bl9 cX2_enter).drop 57) 57 dkl_100 = true := by decide +kernel
theorem dX2_enter_57 : decode cX2_enter 57 = .ok (.iconst 1, 1) := dk_of dkc_100 (.head _)
theorem dX2_enter_58 : decode cX2_enter 58 = .ok (.iadd, 1) := dk_of dkc_100 (.tail _ (.head _))
theorem dX2_enter_59 : decode cX2_enter 59 = .ok (.sipush 4095, 3) := dk_of dkc_100 (.tail _ (.tail _ (.head _)))
theorem dX2_enter_62 : decode cX2_enter 62 = .ok (.iand, 1) := dk_of dkc_100 (.tail _ (.tail _ (.tail _ (.head _))))
theorem dX2_enter_63 : decode cX2_enter 63 = .ok (.istore 4, 2) := dk_of dkc_100 (.tail _ (.tail _ (.tail _ (.tail _ (.head _)))))
theorem dX2_enter_65 : decode cX2_enter 65 = .ok (.iinc 5 1, 3) := dk_of dkc_100 (.tail _ (.tail _ (.tail _ (.tail _ (.tail _ (.head _))))))
theorem dX2_enter_68 : decode cX2_enter 68 = .ok (.goto (-50), 3) := dk_of dkc_100 (.tail _ (.tail _ (.tail _ (.tail _ (.tail _ (.tail _ (.head _)))))))
theorem dX2_enter_71 : decode cX2_enter 71 = .ok (.aload_n 0, 1) := dk_of dkc_100 (.tail _ (.tail _ (.tail _ (.tail _ (.tail _ (.tail _ (.tail _ (.head _))))))))
theorem dX2_enter_72 : decode cX2_enter 72 = .ok (.getfield 53, 3) := dk_of dkc_100 (.tail _ (.tail _ (.tail _ (.tail _ (.tail _ (.tail _ (.tail _ (.tail _ (.head _)))))))))
theorem dX2_enter_75 : decode cX2_enter 75 = .ok (.sipush 1500, 3) := dk_of dkc_100 (.tail _ (.tail _ (.tail _ (.tail _ (.tail _ (.tail _ (.tail _ (.tail _ (.tail _ (.head _))))))))))
theorem dX2_enter_78 : decode cX2_enter 78 = .ok (.if_icmp .lt 9, 3) := dk_of dkc_100 (.tail _ (.tail _ (.tail _ (.tail _ (.tail _ (.tail _ (.tail _ (.tail _ (.tail _ (.tail _ (.head _)))))))))))
theorem dX2_enter_81 : decode cX2_enter 81 = .ok (.aload_n 0, 1) := dk_of dkc_100 (.tail _ (.tail _ (.tail _ (.tail _ (.tail _ (.tail _ (.tail _ (.tail _ (.tail _ (.tail _ (.tail _ (.head _))))))))))))
theorem dX2_enter_82 : decode cX2_enter 82 = .ok (.iconst 1, 1) := dk_of dkc_100 (.tail _ (.tail _ (.tail _ (.tail _ (.tail _ (.tail _ (.tail _ (.tail _ (.tail _ (.tail _ (.tail _ (.tail _ (.head _)))))))))))))
theorem dX2_enter_83 : decode cX2_enter 83 = .ok (.putfield 49, 3) := dk_of dkc_100 (.tail _ (.tail _ (.tail _ (.tail _ (.tail _ (.tail _ (.tail _ (.tail _ (.tail _ (.tail _ (.tail _ (.tail _ (.tail _ (.head _))))))))))))))
theorem dX2_enter_86 : decode cX2_enter 86 = .ok (.return_, 1) := dk_of dkc_100 (.tail _ (.tail _ (.tail _ (.tail _ (.tail _ (.tail _ (.tail _ (.tail _ (.tail _ (.tail _ (.tail _ (.tail _ (.tail _ (.tail _ (.head _)))))))))))))))
theorem dX2_enter_87 : decode cX2_enter 87 = .ok (.aload_n 0, 1) := dk_of dkc_100 (.tail _ (.tail _ (.tail _ (.tail _ (.tail _ (.tail _ (.tail _ (.tail _ (.tail _ (.tail _ (.tail _ (.tail _ (.tail _ (.tail _ (.tail _ (.head _))))))))))))))))
def dkl_101 : List (Nat × Instr × Nat) := [(88, (.getfield 18, 3)), (91, (.aload_n 0, 1)), (92, (.getfield 53, 3)), (95, (.lload_n 1, 1)), (96, (.lastore, 1)), (97, (.aload_n 0, 1)), (98, (.getfield 22, 3)), (101, (.aload_n 0, 1)), (102, (.getfield 53, 3)), (105, (.iload_n 3, 1)), (106, (.iastore, 1)), (107, (.aload_n 0, 1)), (108, (.dup, 1)), (109, (.getfield 53, 3)), (112, (.iconst 1, 1)), (113, (.iadd, 1))]
theorem dkc_101 : ck9 ((bl9 cX2_enter).drop 88) 88 dkl_101 = true := by decide +kernel
theorem dX2_enter_88 : decode cX2_enter 88 = .ok (.getfield 18, 3) := dk_of dkc_101 (.head _)
theorem dX2_enter_91 : decode cX2_enter 91 = .ok (.aload_n 0, 1) := dk_of dkc_101 (.tail _ (.head _))
theorem dX2_enter_92 : decode cX2_enter 92 = .ok (.getfield 53, 3) := dk_of dkc_101 (.tail _ (.tail _ (.head _)))
theorem dX2_enter_95 : decode cX2_enter 95 = .ok (.lload_n 1, 1) := dk_of dkc_101 (.tail _ (.tail _ (.tail _ (.head _))))
theorem dX2_enter_96 : decode cX2_enter 96 = .ok (.lastore, 1) := dk_of dkc_101 (.tail _ (.tail _ (.tail _ (.tail _ (.head _)))))
theorem dX2_enter_97 : decode cX2_enter 97 = .ok (.aload_n 0, 1) := dk_of dkc_101 (.tail _ (.tail _ (.tail _ (.tail _ (.tail _ (.head _))))))
theorem dX2_enter_98 : decode cX2_enter 98 = .ok (.getfield 22, 3) := dk_of dkc_101 (.tail _ (.tail _ (.tail _ (.tail _ (.tail _ (.tail _ (.head _)))))))
theorem dX2_enter_101 : decode cX2_enter 101 = .ok (.aload_n 0, 1) := dk_of dkc_101 (.tail _ (.tail _ (.tail _ (.tail _ (.tail _ (.tail _ (.tail _ (.head _))))))))
theorem dX2_enter_102 : decode cX2_enter 102 = .ok (.getfield 53, 3) := dk_of dkc_101 (.tail _ (.tail _ (.tail _ (.tail _ (.tail _ (.tail _ (.tail _ (.tail _ (.head _)))))))))
theorem dX2_enter_105 : decode cX2_enter 105 = .ok (.iload_n 3, 1) := dk_of dkc_101 (.tail _ (.tail _ (.tail _ (.tail _ (.tail _ (.tail _ (.tail _ (.tail _ (.tail _ (.head _))))))))))
theorem dX2_enter_106 : decode cX2_enter 106 = .ok (.iastore, 1) := dk_of dkc_101 (.tail _ (.tail _ (.tail _ (.tail _ (.tail _ (.tail _ (.tail _ (.tail _ (.tail _ (.tail _ (.head _)))))))))))
theorem dX2_enter_107 : decode cX2_enter 107 = .ok (.aload_n 0, 1) := dk_of dkc_101 (.tail _ (.tail _ (.tail _ (.tail _ (.tail _ (.tail _ (.tail _ (.tail _ (.tail _ (.tail _ (.tail _ (.head _))))))))))))
theorem dX2_enter_108 : decode cX2_enter 108 = .ok (.dup, 1) := dk_of dkc_101 (.tail _ (.tail _ (.tail _ (.tail _ (.tail _ (.tail _ (.tail _ (.tail _ (.tail _ (.tail _ (.tail _ (.tail _ (.head _)))))))))))))
theorem dX2_enter_109 : decode cX2_enter 109 = .ok (.getfield 53, 3) := dk_of dkc_101 (.tail _ (.tail _ (.tail _ (.tail _ (.tail _ (.tail _ (.tail _ (.tail _ (.tail _ (.tail _ (.tail _ (.tail _ (.tail _ (.head _))))))))))))))
theorem dX2_enter_112 : decode cX2_enter 112 = .ok (.iconst 1, 1) := dk_of dkc_101 (.tail _ (.tail _ (.tail _ (.tail _ (.tail _ (.tail _ (.tail _ (.tail _ (.tail _ (.tail _ (.tail _ (.tail _ (.tail _ (.tail _ (.head _)))))))))))))))
theorem dX2_enter_113 : decode cX2_enter 113 = .ok (.iadd, 1) := dk_of dkc_101 (.tail _ (.tail _ (.tail _ (.tail _ (.tail _ (.tail _ (.tail _ (.tail _ (.tail _ (.tail _ (.tail _ (.tail _ (.tail _ (.tail _ (.tail _ (.head _))))))))))))))))
def dkl_102 : List (Nat × Instr × Nat) := [(114, (.putfield 53, 3)), (117, (.aload_n 0, 1)), (118, (.getfield 26, 3)), (121, (.iload 4, 2)), (123, (.aload_n 0, 1)), (124, (.getfield 53, 3)), (127, (.iastore, 1)), (128, (.return_, 1))]
theorem dkc_102 : ck9 ((bl9 cX2_enter).drop 114) 114 dkl_102 = true := by decide +kernel
theorem dX2_enter_114 : decode cX2_enter 114 = .ok (.putfield 53, 3) := dk_of dkc_102 (.head _)
theorem dX2_enter_117 : decode cX2_enter 117 = .ok (.aload_n 0, 1) := dk_of dkc_102 (.tail _ (.head _))
theorem dX2_enter_118 : decode cX2_enter 118 = .ok (.getfield 26, 3) := dk_of dkc_102 (.tail _ (.tail _ (.head _)))
theorem dX2_enter_121 : decode cX2_enter 121 = .ok (.iload 4, 2) := dk_of dkc_102 (.tail _ (.tail _ (.tail _ (.head _))))
theorem dX2_enter_123 : decode cX2_enter 123 = .ok (.aload_n 0, 1) := dk_of dkc_102 (.tail _ (.tail _ (.tail _ (.tail _ (.head _)))))
theorem dX2_enter_124 : decode cX2_enter 124 = .ok (.getfield 53, 3) := dk_of dkc_102 (.tail _ (.tail _ (.tail _ (.tail _ (.tail _ (.head _))))))
theorem dX2_enter_127 : decode cX2_enter 127 = .ok (.iastore, 1) := dk_of dkc_102 (.tail _ (.tail _ (.tail _ (.tail _ (.tail _ (.tail _ (.head _)))))))
theorem dX2_enter_128 : decode cX2_enter 128 = .ok (.return_, 1) := dk_of dkc_102 (.tail _ (.tail _ (.tail _ (.tail _ (.tail _ (.tail _ (.tail _ (.head _))))))))
def dkl_103 : List (Nat × Instr × Nat) := [(0, (.aload_n 0, 1)), (1, (.invokespecial 3, 3)), (4, (.aload_n 0, 1)), (5, (.sipush 161, 3)), (8, (.newarray .int, 2)), (10, (.putfield 9, 3)), (13, (.aload_n 0, 1)), (14, (.sipush 161, 3)), (17, (.newarray .int, 2)), (19, (.putfield 15, 3)), (22, (.aload_n 0, 1)), (23, (.new 18, 3)), (26, (.dup, 1)), (27, (.sipush 323, 3)), (30, (.invokespecial 20, 3)), (33, (.putfield 23, 3))]
theorem dkc_103 : ck9 ((bl9 cX3_init).drop 0) 0 dkl_103 = true := by decide +kernel
theorem dX3_init_0 : decode cX3_init 0 = .ok (.aload_n 0, 1) := dk_of dkc_103 (.head _)
theorem dX3_init_1 : decode cX3_init 1 = .ok (.invokespecial 3, 3) := dk_of dkc_103 (.tail _ (.head _))
theorem dX3_init_4 : decode cX3_init 4 = .ok (.aload_n 0, 1) := dk_of dkc_103 (.tail _ (.tail _ (.head _)))
theorem dX3_init_5 : decode cX3_init 5 = .ok (.sipush 161, 3) := dk_of dkc_103 (.tail _ (.tail _ (.tail _ (.head _))))
theorem dX3_init_8 : decode cX3_init 8 = .ok (.newarray .int, 2) := dk_of dkc_103 (.tail _ (.tail _ (.tail _ (.tail _ (.head _)))))
theorem dX3_init_10 : decode cX3_init 10 = .ok (.putfield 9, 3) := dk_of dkc_103 (.tail _ (.tail _ (.tail _ (.tail _ (.tail _ (.head _))))))
theorem dX3_init_13 : decode cX3_init 13 = .ok (.aload_n 0, 1) := dk_of dkc_103 (.tail _ (.tail _ (.tail _ (.tail _ (.tail _ (.tail _ (.head _)))))))
theorem dX3_init_14 : decode cX3_init 14 = .ok (.sipush 161, 3) := dk_of dkc_103 (.tail _ (.tail _ (.tail _ (.tail _ (.tail _ (.tail _ (.tail _ (.head _))))))))
theorem dX3_init_17 : decode cX3_init 17 = .ok (.newarray .int, 2) := dk_of dkc_103 (.tail _ (.tail _ (.tail _ (.tail _ (.tail _ (.tail _ (.tail _ (.tail _ (.head _)))))))))
theorem dX3_init_19 : decode cX3_init 19 = .ok (.putfield 15, 3) := dk_of dkc_103 (.tail _ (.tail _ (.tail _ (.tail _ (.tail _ (.tail _ (.tail _ (.tail _ (.tail _ (.head _))))))))))
theorem dX3_init_22 : decode cX3_init 22 = .ok (.aload_n 0, 1) := dk_of dkc_103 (.tail _ (.tail _ (.tail _ (.tail _ (.tail _ (.tail _ (.tail _ (.tail _ (.tail _ (.tail _ (.head _)))))))))))
theorem dX3_init_23 : decode cX3_init 23 = .ok (.new 18, 3) := dk_of dkc_103 (.tail _ (.tail _ (.tail _ (.tail _ (.tail _ (.tail _ (.tail _ (.tail _ (.tail _ (.tail _ (.tail _ (.head _))))))))))))
theorem dX3_init_26 : decode cX3_init 26 = .ok (.dup, 1) := dk_of dkc_103 (.tail _ (.tail _ (.tail _ (.tail _ (.tail _ (.tail _ (.tail _ (.tail _ (.tail _ (.tail _ (.tail _ (.tail _ (.head _)))))))))))))
theorem dX3_init_27 : decode cX3_init 27 = .ok (.sipush 323, 3) := dk_of dkc_103 (.tail _ (.tail _ (.tail _ (.tail _ (.tail _ (.tail _ (.tail _ (.tail _ (.tail _ (.tail _ (.tail _ (.tail _ (.tail _ (.head _))))))))))))))
theorem dX3_init_30 : decode cX3_init 30 = .ok (.invokespecial 20, 3) := dk_of dkc_103 (.tail _ (.tail _ (.tail _ (.tail _ (.tail _ (.tail _ (.tail _ (.tail _ (.tail _ (.tail _ (.tail _ (.tail _ (.tail _ (.tail _ (.head _)))))))))))))))
theorem dX3_init_33 : decode cX3_init 33 = .ok (.putfield 23, 3) := dk_of dkc_103 (.tail _ (.tail _ (.tail _ (.tail _ (.tail _ (.tail _ (.tail _ (.tail _ (.tail _ (.tail _ (.tail _ (.tail _ (.tail _ (.tail _ (.tail _ (.head _))))))))))))))))
def dkl_104 : List (Nat × Instr × Nat) := [(36, (.return_, 1))]
theorem dkc_104 : ck9 ((bl9 cX3_init).drop 36) 36 dkl_104 = true := by decide +kernel
theorem dX3_init_36 : decode cX3_init 36 = .ok (.return_, 1) := dk_of dkc_104 (.head _)
def dkl_105 : List (Nat × Instr × Nat) := [(0, (.aload_n 0, 1)), (1, (.getfield 9, 3)), (4, (.bipush 81, 2)), (6, (.invokestatic 27, 3)), (9, (.aload_n 0, 1)), (10, (.getfield 15, 3)), (13, (.bipush (-81), 2)), (15, (.invokestatic 27, 3)), (18, (.return_, 1))]
theorem dkc_105 : ck9 ((bl9 cX3_begin).drop 0) 0 dkl_105 = true := by decide +kernel
theorem dX3_begin_0 : decode cX3_begin 0 = .ok (.aload_n 0, 1) := dk_of dkc_105 (.head _)
theorem dX3_begin_1 : decode cX3_begin 1 = .ok (.getfield 9, 3) := dk_of dkc_105 (.tail _ (.head _))
theorem dX3_begin_4 : decode cX3_begin 4 = .ok (.bipush 81, 2) := dk_of dkc_105 (.tail _ (.tail _ (.head _)))
theorem dX3_begin_6 : decode cX3_begin 6 = .ok (.invokestatic 27, 3) := dk_of dkc_105 (.tail _ (.tail _ (.tail _ (.head _))))
theorem dX3_begin_9 : decode cX3_begin 9 = .ok (.aload_n 0, 1) := dk_of dkc_105 (.tail _ (.tail _ (.tail _ (.tail _ (.head _)))))
theorem dX3_begin_10 : decode cX3_begin 10 = .ok (.getfield 15, 3) := dk_of dkc_105 (.tail _ (.tail _ (.tail _ (.tail _ (.tail _ (.head _))))))
theorem dX3_begin_13 : decode cX3_begin 13 = .ok (.bipush (-81), 2) := dk_of dkc_105 (.tail _ (.tail _ (.tail _ (.tail _ (.tail _ (.tail _ (.head _)))))))
theorem dX3_begin_15 : decode cX3_begin 15 = .ok (.invokestatic 27, 3) := dk_of dkc_105 (.tail _ (.tail _ (.tail _ (.tail _ (.tail _ (.tail _ (.tail _ (.head _))))))))
theorem dX3_begin_18 : decode cX3_begin 18 = .ok (.return_, 1) := dk_of dkc_105 (.tail _ (.tail _ (.tail _ (.tail _ (.tail _ (.tail _ (.tail _ (.tail _ (.head _)))))))))
def dkl_106 : List (Nat × Instr × Nat) := [(0, (.iload_n 1, 1)), (1, (.bipush 80, 2)), (3, (.iadd, 1)), (4, (.istore_n 3, 1)), (5, (.iload_n 3, 1)), (6, (.ifCond .lt 22, 3)), (9, (.iload_n 3, 1)), (10, (.sipush 161, 3)), (13, (.if_icmp .ge 15, 3)), (16, (.iload_n 2, 1)), (17, (.bipush (-80), 2)), (19, (.if_icmp .lt 9, 3)), (22, (.iload_n 2, 1)), (23, (.bipush 80, 2)), (25, (.if_icmp .le 4, 3)), (28, (.return_, 1))]
theorem dkc_106 : ck9 ((bl9 cX3_take).drop 0) 0 dkl_106 = true := by decide +kernel
theorem dX3_take_0 : decode cX3_take 0 = .ok (.iload_n 1, 1) := dk_of dkc_106 (.head _)
theorem dX3_take_1 : decode cX3_take 1 = .ok (.bipush 80, 2) := dk_of dkc_106 (.tail _ (.head _))
theorem dX3_take_3 : decode cX3_take 3 = .ok (.iadd, 1) := dk_of dkc_106 (.tail _ (.tail _ (.head _)))
theorem dX3_take_4 : decode cX3_take 4 = .ok (.istore_n 3, 1) := dk_of dkc_106 (.tail _ (.tail _ (.tail _ (.head _))))
theorem dX3_take_5 : decode cX3_take 5 = .ok (.iload_n 3, 1) := dk_of dkc_106 (.tail _ (.tail _ (.tail _ (.tail _ (.head _)))))
theorem dX3_take_6 : decode cX3_take 6 = .ok (.ifCond .lt 22, 3) := dk_of dkc_106 (.tail _ (.tail _ (.tail _ (.tail _ (.tail _ (.head _))))))
theorem dX3_take_9 : decode cX3_take 9 = .ok (.iload_n 3, 1) := dk_of dkc_106 (.tail _ (.tail _ (.tail _ (.tail _ (.tail _ (.tail _ (.head _)))))))
theorem dX3_take_10 : decode cX3_take 10 = .ok (.sipush 161, 3) := dk_of dkc_106 (.tail _ (.tail _ (.tail _ (.tail _ (.tail _ (.tail _ (.tail _ (.head _))))))))
theorem dX3_take_13 : decode cX3_take 13 = .ok (.if_icmp .ge 15, 3) := dk_of dkc_106 (.tail _ (.tail _ (.tail _ (.tail _ (.tail _ (.tail _ (.tail _ (.tail _ (.head _)))))))))
theorem dX3_take_16 : decode cX3_take 16 = .ok (.iload_n 2, 1) := dk_of dkc_106 (.tail _ (.tail _ (.tail _ (.tail _ (.tail _ (.tail _ (.tail _ (.tail _ (.tail _ (.head _))))))))))
theorem dX3_take_17 : decode cX3_take 17 = .ok (.bipush (-80), 2) := dk_of dkc_106 (.tail _ (.tail _ (.tail _ (.tail _ (.tail _ (.tail _ (.tail _ (.tail _ (.tail _ (.tail _ (.head _)))))))))))
theorem dX3_take_19 : decode cX3_take 19 = .ok (.if_icmp .lt 9, 3) := dk_of dkc_106 (.tail _ (.tail _ (.tail _ (.tail _ (.tail _ (.tail _ (.tail _ (.tail _ (.tail _ (.tail _ (.tail _ (.head _))))))))))))
theorem dX3_take_22 : decode cX3_take 22 = .ok (.iload_n 2, 1) := dk_of dkc_106 (.tail _ (.tail _ (.tail _ (.tail _ (.tail _ (.tail _ (.tail _ (.tail _ (.tail _ (.tail _ (.tail _ (.tail _ (.head _)))))))))))))
theorem dX3_take_23 : decode cX3_take 23 = .ok (.bipush 80, 2) := dk_of dkc_106 (.tail _ (.tail _ (.tail _ (.tail _ (.tail _ (.tail _ (.tail _ (.tail _ (.tail _ (.tail _ (.tail _ (.tail _ (.tail _ (.head _))))))))))))))
theorem dX3_take_25 : decode cX3_take 25 = .ok (.if_icmp .le 4, 3) := dk_of dkc_106 (.tail _ (.tail _ (.tail _ (.tail _ (.tail _ (.tail _ (.tail _ (.tail _ (.tail _ (.tail _ (.tail _ (.tail _ (.tail _ (.tail _ (.head _)))))))))))))))
theorem dX3_take_28 : decode cX3_take 28 = .ok (.return_, 1) := dk_of dkc_106 (.tail _ (.tail _ (.tail _ (.tail _ (.tail _ (.tail _ (.tail _ (.tail _ (.tail _ (.tail _ (.tail _ (.tail _ (.tail _ (.tail _ (.tail _ (.head _))))))))))))))))
def dkl_107 : List (Nat × Instr × Nat) := [(29, (.aload_n 0, 1)), (30, (.getfield 9, 3)), (33, (.iload_n 3, 1)), (34, (.aload_n 0, 1)), (35, (.getfield 9, 3)), (38, (.iload_n 3, 1)), (39, (.iaload, 1)), (40, (.iload_n 2, 1)), (41, (.invokestatic 33, 3)), (44, (.iastore, 1)), (45, (.aload_n 0, 1)), (46, (.getfield 15, 3)), (49, (.iload_n 3, 1)), (50, (.aload_n 0, 1)), (51, (.getfield 15, 3))]
theorem dkc_107 : ck9 ((bl9 cX3_take).drop 29) 29 dkl_107 = true := by decide +kernel
theorem dX3_take_29 : decode cX3_take 29 = .ok (.aload_n 0, 1) := dk_of dkc_107 (.head _)
theorem dX3_take_30 : decode cX3_take 30 = .ok (.getfield 9, 3) := dk_of dkc_107 (.tail _ (.head _))
theorem dX3_take_33 : decode cX3_take 33 = .ok (.iload_n 3, 1) := dk_of dkc_107 (.tail _ (.tail _ (.head _)))
theorem dX3_take_34 : decode cX3_take 34 = .ok (.aload_n 0, 1) := dk_of dkc_107 (.tail _ (.tail _ (.tail _ (.head _))))
theorem dX3_take_35 : decode cX3_take 35 = .ok (.getfield 9, 3) := dk_of dkc_107 (.tail _ (.tail _ (.tail _ (.tail _ (.head _)))))
theorem dX3_take_38 : decode cX3_take 38 = .ok (.iload_n 3, 1) := dk_of dkc_107 (.tail _ (.tail _ (.tail _ (.tail _ (.tail _ (.head _))))))
theorem dX3_take_39 : decode cX3_take 39 = .ok (.iaload, 1) := dk_of dkc_107 (.tail _ (.tail _ (.tail _ (.tail _ (.tail _ (.tail _ (.head _)))))))
theorem dX3_take_40 : decode cX3_take 40 = .ok (.iload_n 2, 1) := dk_of dkc_107 (.tail _ (.tail _ (.tail _ (.tail _ (.tail _ (.tail _ (.tail _ (.head _))))))))
theorem dX3_take_41 : decode cX3_take 41 = .ok (.invokestatic 33, 3) := dk_of dkc_107 (.tail _ (.tail _ (.tail _ (.tail _ (.tail _ (.tail _ (.tail _ (.tail _ (.head _)))))))))
theorem dX3_take_44 : decode cX3_take 44 = .ok (.iastore, 1) := dk_of dkc_107 (.tail _ (.tail _ (.tail _ (.tail _ (.tail _ (.tail _ (.tail _ (.tail _ (.tail _ (.head _))))))))))
theorem dX3_take_45 : decode cX3_take 45 = .ok (.aload_n 0, 1) := dk_of dkc_107 (.tail _ (.tail _ (.tail _ (.tail _ (.tail _ (.tail _ (.tail _ (.tail _ (.tail _ (.tail _ (.head _)))))))))))
theorem dX3_take_46 : decode cX3_take 46 = .ok (.getfield 15, 3) := dk_of dkc_107 (.tail _ (.tail _ (.tail _ (.tail _ (.tail _ (.tail _ (.tail _ (.tail _ (.tail _ (.tail _ (.tail _ (.head _))))))))))))
theorem dX3_take_49 : decode cX3_take 49 = .ok (.iload_n 3, 1) := dk_of dkc_107 (.tail _ (.tail _ (.tail _ (.tail _ (.tail _ (.tail _ (.tail _ (.tail _ (.tail _ (.tail _ (.tail _ (.tail _ (.head _)))))))))))))
theorem dX3_take_50 : decode cX3_take 50 = .ok (.aload_n 0, 1) := dk_of dkc_107 (.tail _ (.tail _ (.tail _ (.tail _ (.tail _ (.tail _ (.tail _ (.tail _ (.tail _ (.tail _ (.tail _ (.tail _ (.tail _ (.head _))))))))))))))
theorem dX3_take_51 : decode cX3_take 51 = .ok (.getfield 15, 3) := dk_of dkc_107 (.tail _ (.tail _ (.tail _ (.tail _ (.tail _ (.tail _ (.tail _ (.tail _ (.tail _ (.tail _ (.tail _ (.tail _ (.tail _ (.tail _ (.head _)))))))))))))))
