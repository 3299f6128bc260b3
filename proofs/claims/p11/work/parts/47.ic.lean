
/-- the first w points -/
def SWW (f g : Nat → Int) (w : Int) : Int → Int → Prop := fun x y => ∃ a : Nat, (a : Int) < w ∧ x = f a ∧ y = g a
theorem SWW_put {f g : Nat → Int} {w x0 y0 : Int} (h : 0 ≤ w) (x y : Int) : SWW (upI f w.toNat x0) (upI g w.toNat y0) (w + 1) x y ↔ SWW f g w x y ∨ (x = x0 ∧ y = y0) := by
  constructor
  · rintro ⟨a, h1, h2, h3⟩
    by_cases e : (a : Int) = w
    · rw [show a = w.toNat by omega, upI_s] at h2 h3
      exact Or.inr ⟨h2, h3⟩
    · rw [upI_n (by omega)] at h2 h3
      exact Or.inl ⟨a, by omega, h2, h3⟩
  · rintro (⟨a, h1, h2, h3⟩ | ⟨h2, h3⟩)
    · exact ⟨a, by omega, by rw [upI_n (by omega)]; exact h2, by rw [upI_n (by omega)]; exact h3⟩
    · exact ⟨w.toNat, by omega, by rw [upI_s]; exact h2, by rw [upI_s]; exact h3⟩
theorem SWW_swap {f g : Nat → Int} {w : Int} {j k : Nat} (hj : (j : Int) < w) (hk : (k : Int) < w) (hjk : j ≠ k) (x y : Int) : SWW (upI (upI f j (f k)) k (f j)) (upI (upI g j (g k)) k (g j)) w x y ↔ SWW f g w x y := by
  have s0 : ∀ (p : Nat → Int), upI (upI p j (p k)) k (p j) k = p j := fun p => upI_s
  have s1 : ∀ (p : Nat → Int), upI (upI p j (p k)) k (p j) j = p k := fun p => by rw [upI_n hjk, upI_s]
  have s2 : ∀ (p : Nat → Int) (a : Nat), a ≠ k → a ≠ j → upI (upI p j (p k)) k (p j) a = p a := fun p a h1 h2 => by rw [upI_n h1, upI_n h2]
  constructor
  · rintro ⟨a, h1, h2, h3⟩
    by_cases e1 : a = k
    · subst e1; rw [s0] at h2 h3; exact ⟨j, hj, h2, h3⟩
    · by_cases e2 : a = j
      · subst e2; rw [s1] at h2 h3; exact ⟨k, hk, h2, h3⟩
      · rw [s2 _ a e1 e2] at h2 h3; exact ⟨a, h1, h2, h3⟩
  · rintro ⟨a, h1, h2, h3⟩
    by_cases e1 : a = k
    · subst e1; exact ⟨j, hj, by rw [s1]; exact h2, by rw [s1]; exact h3⟩
    · by_cases e2 : a = j
      · subst e2; exact ⟨k, hk, by rw [s0]; exact h2, by rw [s0]; exact h3⟩
      · exact ⟨a, h1, by rw [s2 _ a e1 e2]; exact h2, by rw [s2 _ a e1 e2]; exact h3⟩
/-- n points kept out of the first i, and the rest -/
def SD (f g : Nat → Int) (n i w : Int) : Int → Int → Prop := fun x y => ∃ a : Nat, ((a : Int) < n ∨ (i ≤ a ∧ (a : Int) < w)) ∧ x = f a ∧ y = g a
theorem SD_0 {f g : Nat → Int} {w : Int} (x y : Int) : SD f g 0 0 w x y ↔ SWW f g w x y := ⟨fun ⟨a, h1, h2⟩ => ⟨a, by omega, h2⟩, fun ⟨a, h1, h2⟩ => ⟨a, by omega, h2⟩⟩
theorem SD_e {f g : Nat → Int} {n i w : Int} (h : w ≤ i) (x y : Int) : SD f g n i w x y ↔ SWW f g n x y := ⟨fun ⟨a, h1, h2⟩ => ⟨a, by omega, h2⟩, fun ⟨a, h1, h2⟩ => ⟨a, by omega, h2⟩⟩
theorem SD_skip {f g : Nat → Int} {n i w : Int} (h0 : 0 ≤ i) (hi : i < w) (hn : 0 < n) (e1 : f i.toNat = f (n - 1).toNat) (e2 : g i.toNat = g (n - 1).toNat) (x y : Int) : SD f g n (i + 1) w x y ↔ SD f g n i w x y := by
  constructor
  · rintro ⟨a, h1, h2⟩; exact ⟨a, by omega, h2⟩
  · rintro ⟨a, h1, h2, h3⟩
    by_cases e : (a : Int) = i
    · rw [show a = i.toNat by omega, e1] at h2
      rw [show a = i.toNat by omega, e2] at h3
      exact ⟨(n - 1).toNat, by omega, h2, h3⟩
    · exact ⟨a, by omega, h2, h3⟩
theorem SD_put {f g : Nat → Int} {n i w : Int} (h0 : 0 ≤ n) (hni : n ≤ i) (hi : i < w) (x y : Int) : SD (upI f n.toNat (f i.toNat)) (upI g n.toNat (g i.toNat)) (n + 1) (i + 1) w x y ↔ SD f g n i w x y := by
  constructor
  · rintro ⟨a, h1, h2, h3⟩
    by_cases e : (a : Int) = n
    · rw [show a = n.toNat by omega, upI_s] at h2 h3
      exact ⟨i.toNat, by omega, h2, h3⟩
    · rw [upI_n (by omega)] at h2 h3
      exact ⟨a, by omega, h2, h3⟩
  · rintro ⟨a, h1, h2, h3⟩
    by_cases e : (a : Int) = i
    · rw [show a = i.toNat by omega] at h2 h3
      exact ⟨n.toNat, by omega, by rw [upI_s]; exact h2, by rw [upI_s]; exact h3⟩
    · exact ⟨a, by omega, by rw [upI_n (by omega)]; exact h2, by rw [upI_n (by omega)]; exact h3⟩
theorem os_lp {f g : Nat → Int} {n : Int} (h : os_s f g n) {a : Nat} (ha : (a : Int) + 1 < n) : lxp (f (a + 1) - f a) (g (a + 1) - g a) := by
  have := h a ha
  unfold lt2 at this; unfold lxp; omega
/-- the lower chain goes on -/
theorem cl_s {f g X Y : Nat → Int} {i h v n : Int} (hs : os_s f g n) (hi : 0 ≤ i) (hn : i < n) (F : fl f g X Y i h) (C : 0 < i → chx (SWW f g i) X Y 0 h.toNat) (h1 : 0 ≤ v) (h2 : v ≤ h) (h3 : 0 < h → 0 < v) (hp : ∀ j : Nat, v ≤ j → (j : Int) < h → cx (X j - X (j - 1)) (Y j - Y (j - 1)) (f i.toNat - X (j - 1)) (g i.toNat - Y (j - 1)) ≤ 0) (hk : v ≤ 1 ∨ 0 < cx (X (v.toNat - 1) - X (v.toNat - 2)) (Y (v.toNat - 1) - Y (v.toNat - 2)) (f i.toNat - X (v.toNat - 2)) (g i.toNat - Y (v.toNat - 2))) : chx (SWW f g (i + 1)) (upI X v.toNat (f i.toNat)) (upI Y v.toNat (g i.toNat)) 0 (v + 1).toNat := by
  obtain ⟨a1, a2, a3, a4, a5, a6, a7⟩ := F
  by_cases e : i = 0
  · have hv : v = 0 := by omega
    subst hv
    refine chx_1 (b := 0) (fun x y => ?_)
    rw [show (0 : Int).toNat = 0 from rfl, upI_s, upI_s]
    subst e
    exact ⟨fun ⟨a, q1, q2, q3⟩ => by rw [show a = 0 by omega] at q2 q3; exact ⟨q2, q3⟩, fun ⟨q2, q3⟩ => ⟨0, by omega, q2, q3⟩⟩
  · obtain ⟨b1, b2, b3, b4, b5⟩ := a3 (by omega)
    have d := os_lp hs (a := (i - 1).toNat) (by omega)
    rw [show (i - 1).toNat + 1 = i.toNat by omega] at d
    have h4 := h3 b1
    rw [show (v + 1).toNat = v.toNat + 1 by omega]
    refine chx_s (v := v.toNat) (C (by omega)) (wx := f i.toNat) (wy := g i.toNat) ?_ (by omega) (by omega) (fun j q1 q2 => hp j (by omega) (by omega)) ?_ (fun a ha => ⟨upI_n (by omega), upI_n (by omega)⟩) upI_s upI_s (fun x y => ?_)
    · rw [show h.toNat - 1 = (h - 1).toNat by omega, b4, b5]; exact d
    · rcases hk with q | q
      · exact Or.inl (by omega)
      · exact Or.inr q
    · constructor
      · rintro ⟨a, q1, q2, q3⟩
        by_cases w : (a : Int) = i
        · rw [show a = i.toNat by omega] at q2 q3; exact Or.inr ⟨q2, q3⟩
        · exact Or.inl ⟨a, by omega, q2, q3⟩
      · rintro (⟨a, q1, q2, q3⟩ | ⟨q2, q3⟩)
        · exact ⟨a, by omega, q2, q3⟩
        · exact ⟨i.toNat, by omega, q2, q3⟩
/-- the points behind i -/
def SU (f g : Nat → Int) (i w : Int) : Int → Int → Prop := fun x y => ∃ a : Nat, i < a ∧ (a : Int) < w ∧ x = f a ∧ y = g a
theorem cu_0 {f g X Y : Nat → Int} {w h : Int} (hw : 1 ≤ w) (H : fl f g X Y w h) : chx (ngS (SU f g (w - 2) w)) (ng X) (ng Y) (h - 1).toNat h.toNat := by
  obtain ⟨a1, a2, a3, a4, a5, a6, a7⟩ := H
  obtain ⟨b1, b2, b3, b4, b5⟩ := a3 (by omega)
  rw [show h.toNat = (h - 1).toNat + 1 by omega]
  refine chx_1 (fun x y => ?_)
  unfold ng ngS
  rw [b4, b5]
  exact ⟨fun ⟨a, q1, q2, q3, q4⟩ => by rw [show a = (w - 1).toNat by omega] at q3 q4; omega, fun ⟨q3, q4⟩ => ⟨(w - 1).toNat, by omega, by omega, by omega, by omega⟩⟩
theorem cx_ng {a b c d e f : Int} : cx (-a - -b) (-c - -d) (-e - -b) (-f - -d) = cx (a - b) (c - d) (e - b) (f - d) := by unfold cx; grind
theorem cu_s {f g FX FY X Y : Nat → Int} {t w i h v : Int} (ht : 0 ≤ t) (hs : os_s f g w) (hi : 0 ≤ i) (hw : i + 1 < w) (H : fu f g FX FY X Y t w i h) (C : chx (ngS (SU f g i w)) (ng X) (ng Y) t.toNat h.toNat) (h1 : t ≤ v) (h2 : v ≤ h) (h3 : t < v) (hp : ∀ j : Nat, v ≤ j → (j : Int) < h → cx (X j - X (j - 1)) (Y j - Y (j - 1)) (f i.toNat - X (j - 1)) (g i.toNat - Y (j - 1)) ≤ 0) (hk : v ≤ t + 1 ∨ 0 < cx (X (v.toNat - 1) - X (v.toNat - 2)) (Y (v.toNat - 1) - Y (v.toNat - 2)) (f i.toNat - X (v.toNat - 2)) (g i.toNat - Y (v.toNat - 2))) : chx (ngS (SU f g (i + -1) w)) (ng (upI X v.toNat (f i.toNat))) (ng (upI Y v.toNat (g i.toNat))) t.toNat (v + 1).toNat := by
  obtain ⟨a1, a2, a3, a4, ⟨a5, a6⟩, a7, a8, a9⟩ := H
  have d := os_lp hs (a := i.toNat) (by omega)
  rw [show i.toNat + 1 = (i + 1).toNat by omega] at d
  rw [show (v + 1).toNat = v.toNat + 1 by omega]
  refine chx_s C (wx := -(f i.toNat)) (wy := -(g i.toNat)) ?_ (by omega) (by omega) (fun j q1 q2 => ?_) ?_ (fun a ha => ⟨?_, ?_⟩) ?_ ?_ (fun x y => ?_)
  · unfold ng
    rw [show h.toNat - 1 = (h - 1).toNat by omega, a5, a6]
    unfold lxp at d ⊢; omega
  · unfold ng; rw [cx_ng]; exact hp j (by omega) (by omega)
  · rcases hk with q | q
    · exact Or.inl (by omega)
    · exact Or.inr (by unfold ng; rw [cx_ng]; exact q)
  · unfold ng; rw [upI_n (by omega)]
  · unfold ng; rw [upI_n (by omega)]
  · unfold ng; rw [upI_s]
  · unfold ng; rw [upI_s]
  · unfold ngS
    constructor
    · rintro ⟨a, q1, q2, q3, q4⟩
      by_cases e : (a : Int) = i
      · rw [show a = i.toNat by omega] at q3 q4; exact Or.inr ⟨by omega, by omega⟩
      · exact Or.inl ⟨a, by omega, q2, q3, q4⟩
    · rintro (⟨a, q1, q2, q3, q4⟩ | ⟨q2, q3⟩)
      · exact ⟨a, by omega, q2, q3, q4⟩
      · exact ⟨i.toNat, by omega, by omega, by omega, by omega⟩
theorem hu_e {f g FX FY X Y : Nat → Int} {w h0 i h : Int} (hw : 1 < w) (H0 : fl f g FX FY w h0) (C0 : chx (SWW f g w) FX FY 0 h0.toNat) (hi : i = -1) (H : fu f g FX FY X Y (h0 - 1) w i h) (C : chx (ngS (SU f g i w)) (ng X) (ng Y) (h0 - 1).toNat h.toNat) : HS (SWW f g w) (h - 1) X Y := by
  obtain ⟨a1, a2, a3, a4, ⟨a5, a6⟩, a7, a8, a9⟩ := H
  obtain ⟨b1, b2, b3, b4, b5, b6, b7⟩ := H0
  have b4 := b4 hw
  obtain ⟨c1, c2, c3, c4, c5⟩ := b3 (by omega)
  have a3 := a3 (by omega)
  subst hi
  have e0 : X 0 = FX 0 ∧ Y 0 = FY 0 := a4 0 (by omega)
  have hC1 : chx (SWW f g w) X Y 0 ((h0 - 1).toNat + 1) := chx_cong (X := FX) (Y := FY) (by rw [show (h0 - 1).toNat + 1 = h0.toNat by omega]; exact C0) (fun a _ ha => a4 a (by omega)) (fun _ _ => Iff.rfl)
  have hC2 : chx (ngS (SWW f g w)) (ng X) (ng Y) (h0 - 1).toNat ((h - 1).toNat + 1) := by
    rw [show (h - 1).toNat + 1 = h.toNat by omega]
    refine chx_cong C (fun a _ _ => ⟨rfl, rfl⟩) (fun x y => ?_)
    unfold ngS
    exact ⟨fun ⟨a, q1, q2⟩ => ⟨a, by omega, q1, q2⟩, fun ⟨a, q0, q1, q2⟩ => ⟨a, q1, q2⟩⟩
  have q := HS_m hC1 hC2 (by omega) (by omega) (by rw [a5, e0.1, c2]; rfl) (by rw [a6, e0.2, c3]; rfl)
  rw [show (((h - 1).toNat : Nat) : Int) = h - 1 by omega] at q
  exact q
theorem hu_r {f g FX FY X Y : Nat → Int} {w h0 i h n : Int} (hw : 0 ≤ w) (hn : (1 < w ∧ n = h - 1) ∨ (w ≤ 1 ∧ n = h)) (H0 : fl f g FX FY w h0) (C0 : 0 < w → chx (SWW f g w) FX FY 0 h0.toNat) (hc : -1 ≤ i ∧ i ≤ w - 2 ∧ 1 ≤ w ∨ (w = 0 ∧ h = 0 ∧ i = -2)) (hi : i < 0) (H : 1 ≤ w → fu f g FX FY X Y (h0 - 1) w i h) (C : 1 ≤ w → chx (ngS (SU f g i w)) (ng X) (ng Y) (h0 - 1).toNat h.toNat) : HS (SWW f g w) n X Y := by
  by_cases g0 : w = 0
  · exact Or.inl ⟨by omega, fun x y ⟨a, q1, _⟩ => by omega⟩
  · by_cases g1 : w = 1
    · subst g1
      have k0 := H0.2.2.1 (by omega)
      have k1 := (H (by omega)).2.2.2.1 0 (by have := k0.1; omega)
      have k2 := (H (by omega)).1
      have k3 := (H (by omega)).2.1
      have k4 := H0.2.1
      have kn : n = 1 := by omega
      rw [kn]
      refine HS_1 ⟨0, by omega, by rw [k1.1, k0.2.1], by rw [k1.2, k0.2.2.1]⟩ (fun x y ⟨a, q1, q2, q3⟩ => ?_)
      rw [show a = 0 by omega] at q2 q3
      rw [k1.1, k1.2, k0.2.1, k0.2.2.1]
      exact ⟨q2, q3⟩
    · have kn : n = h - 1 := by omega
      rw [kn]
      exact hu_e (by omega) H0 (C0 (by omega)) (by omega) (H (by omega)) (C (by omega))

set_option maxHeartbeats 4000000 in
set_option maxRecDepth 100000 in
theorem c_X12_order2 (l : Launch) (D : JD) (o : Nat) (q : Nat → Nat) (u : MS) (A : Nat → Prop) (hD : va_D A (mW D o q u)) (p0 : 0 ≤ u.2.2 6 ∧ u.2.2 6 ≤ 640) (p1 : bd 10000 (u.1 4) (u.1 5) (u.2.2 6)) : Met l yX12_order (jw yX12_order cX12_order 5 none) (jr 1 22) (jP [.ref o] D (fun H => va_P D.1 j_cl (mW D o q u) H)) (jWv (fun u' => ∃ f : Nat → Int, ∃ g : Nat → Int, ∃ w : Int, u' = (uV (uI (uI u 4 f) 5 g) 6 w) ∧ (0 ≤ w ∧ w ≤ u.2.2 6 ∧ (0 < u.2.2 6 → 0 < w) ∧ os_s f g w ∧ bd 10000 f g w ∧ (∀ K : Int, bd K (u.1 4) (u.1 5) (u.2.2 6) → bd K f g w) ∧ ∀ x y : Int, SWW f g w x y ↔ SWW (u.1 4) (u.1 5) (u.2.2 6) x y)) (fun u' H => va_P D.1 j_cl (mW D o q u') H) A) 0 0 A := by
  refine Met.ofW (cc := cX12_order) (maxL := 5) (ret := none) (by decide) rfl ?_
  intro pr en st mi args below meth co s₁ B hml hv
  obtain ⟨rfl, hG, hP⟩ := hv
  have hr := B.returns
  have hlk := B.notSynchronized
  have SS : jS pr mi co cX12_order 5 st _ RX12 := ⟨B.exec, B.bytes, hml, findClass_of_methodNamed B.named, fun w hw => atoms_spec (ws := (jw yX12_order cX12_order 5 none)) B.pre w (List.mem_cons_of_mem _ hw)⟩
  have hl := lv_entry ([.ref o]) (n := 5) (Nat.le_of_ble_eq_true rfl)
  rw [lg_entry_eq]
  generalize (lg_sl ([.ref o]) ++ List.replicate (5 - (lg_sl ([.ref o])).length) Slot.unset).toArray = ls at hl ⊢
  have hl : lv_has ls 5 [(0, .ref o)] := hl
  have hS : va_S A st.heap st.heap [] := va_S.rf
  refine j_iconst SS dX12_order_0 ?_
  refine lv_istore_n (lv' := [(1, .int (J 1)), (0, .ref o)]) SS.1 SS.2.1 dX12_order_1 rfl hl (by decide) rfl (fun ls hl => ?_)
  have L_2 : ∀ (nn : Nat) (i : Int) (f : Nat → Int) (g : Nat → Int) (H : Heap) (locs : List Loc) (hP : va_P D.1 j_cl (mW D o q (uI (uI u 4 f) 5 g)) H) (hS : va_S A st.heap H locs) (ls : Array Slot) (hl : lv_has ls 5 [(0, .ref o), (1, .int (J i))]) (i2_0 : 1 ≤ i ∧ (i ≤ u.2.2 6 ∨ i = 1)) (i2_1 : os_w f g i) (i2_2 : ∀ K : Int, bd K (u.1 4) (u.1 5) (u.2.2 6) → bd K f g (u.2.2 6)) (i2_3 : ∀ x y : Int, SWW f g (u.2.2 6) x y ↔ SWW (u.1 4) (u.1 5) (u.2.2 6) x y), (u.2.2 6 - i).toNat < nn → W pr l en (headSpec (jw yX12_order cX12_order 5 none) (jr 1 22)).room st mi (([.ref o] : List Value).toArray) below meth co H locs 0 0 (MQ below (jWv (fun u' => ∃ f : Nat → Int, ∃ g : Nat → Int, ∃ w : Int, u' = (uV (uI (uI u 4 f) 5 g) 6 w) ∧ (0 ≤ w ∧ w ≤ u.2.2 6 ∧ (0 < u.2.2 6 → 0 < w) ∧ os_s f g w ∧ bd 10000 f g w ∧ (∀ K : Int, bd K (u.1 4) (u.1 5) (u.2.2 6) → bd K f g w) ∧ ∀ x y : Int, SWW f g w x y ↔ SWW (u.1 4) (u.1 5) (u.2.2 6) x y)) (fun u' H => va_P D.1 j_cl (mW D o q u') H) A) (([.ref o] : List Value).toArray) st 0 0 A) (F0 mi 2 ls []) := by
    intro nn
    induction nn with
    | zero => intros; omega
    | succ nn ih_2 =>
      intro i f g H locs hP hS ls hl i2_0 i2_1 i2_2 i2_3 hm
      refine lv_iload_n SS.1 SS.2.1 dX12_order_2 rfl (lv_at hl 1 rfl) ?_
      refine lv_aload_n SS.1 SS.2.1 dX12_order_3 rfl (lv_at hl 0 rfl) ?_
      refine j_get SS hG hP 0 (v := .int (J (u.2.2 6))) (C := RX12) (T := TX12) (N := 31) rfl rfl inX12 6 (by decide) (ref := RX12) kw_1064 rfl rfl dX12_order_4 ?_
      refine j_icmp_ge SS (tgt := 101) (x := i) (y := (u.2.2 6)) dX12_order_7 (by decide) (by omega) (by omega) (fun c_7 => ?_) (fun c_7 => ?_)
      · skip
        refine j_iconst SS dX12_order_101 ?_
        refine lv_istore_n (lv' := [(1, .int (J 0)), (0, .ref o)]) SS.1 SS.2.1 dX12_order_102 rfl hl (by decide) rfl (fun ls hl => ?_)
        refine j_iconst SS dX12_order_103 ?_
        refine lv_istore_n (lv' := [(2, .int (J 0)), (1, .int (J 0)), (0, .ref o)]) SS.1 SS.2.1 dX12_order_104 rfl hl (by decide) rfl (fun ls hl => ?_)
        have L_105 : ∀ (nn : Nat) (n : Int) (i2 : Int) (f3 : Nat → Int) (g3 : Nat → Int) (H : Heap) (locs : List Loc) (hP : va_P D.1 j_cl (mW D o q (uI (uI u 4 f3) 5 g3)) H) (hS : va_S A st.heap H locs) (ls : Array Slot) (hl : lv_has ls 5 [(0, .ref o), (1, .int (J n)), (2, .int (J i2))]) (i105_0 : 0 ≤ i2 ∧ i2 ≤ u.2.2 6) (i105_1 : os_d f3 g3 n i2 (u.2.2 6)) (i105_2 : ∀ K : Int, bd K (u.1 4) (u.1 5) (u.2.2 6) → bd K f3 g3 (u.2.2 6)) (i105_3 : bd 10000 f3 g3 (u.2.2 6)) (i105_4 : ∀ x y : Int, SD f3 g3 n i2 (u.2.2 6) x y ↔ SWW (u.1 4) (u.1 5) (u.2.2 6) x y), (u.2.2 6 - i2).toNat < nn → W pr l en (headSpec (jw yX12_order cX12_order 5 none) (jr 1 22)).room st mi (([.ref o] : List Value).toArray) below meth co H locs 0 0 (MQ below (jWv (fun u' => ∃ f : Nat → Int, ∃ g : Nat → Int, ∃ w : Int, u' = (uV (uI (uI u 4 f) 5 g) 6 w) ∧ (0 ≤ w ∧ w ≤ u.2.2 6 ∧ (0 < u.2.2 6 → 0 < w) ∧ os_s f g w ∧ bd 10000 f g w ∧ (∀ K : Int, bd K (u.1 4) (u.1 5) (u.2.2 6) → bd K f g w) ∧ ∀ x y : Int, SWW f g w x y ↔ SWW (u.1 4) (u.1 5) (u.2.2 6) x y)) (fun u' H => va_P D.1 j_cl (mW D o q u') H) A) (([.ref o] : List Value).toArray) st 0 0 A) (F0 mi 105 ls []) := by
          intro nn
          induction nn with
          | zero => intros; omega
          | succ nn ih_105 =>
            intro n i2 f3 g3 H locs hP hS ls hl i105_0 i105_1 i105_2 i105_3 i105_4 hm
            have hn1 := i105_1.1
            have hn2 := i105_1.2.1
            refine lv_iload_n SS.1 SS.2.1 dX12_order_105 rfl (lv_at hl 2 rfl) ?_
            refine lv_aload_n SS.1 SS.2.1 dX12_order_106 rfl (lv_at hl 0 rfl) ?_
            refine j_get SS hG hP 0 (v := .int (J (u.2.2 6))) (C := RX12) (T := TX12) (N := 31) rfl rfl inX12 6 (by decide) (ref := RX12) kw_1064 rfl rfl dX12_order_107 ?_
            refine j_icmp_ge SS (tgt := 184) (x := i2) (y := (u.2.2 6)) dX12_order_110 (by decide) (by omega) (by omega) (fun c_110 => ?_) (fun c_110 => ?_)
            · skip
              refine lv_aload_n SS.1 SS.2.1 dX12_order_184 rfl (lv_at hl 0 rfl) ?_
              refine lv_iload_n SS.1 SS.2.1 dX12_order_185 rfl (lv_at hl 1 rfl) ?_
              refine j_put SS hG hP (mW_D hD) hS 0 (v := .int (J n)) (ty := .int) (C := RX12) (T := TX12) (N := 31) rfl rfl inX12 tyX12 tyX12_ok nmX12 6 (by decide) (ref := RX12) kw_1064 rfl rfl (by decide +kernel) rfl rfl (Nat.le_of_ble_eq_true rfl) dX12_order_186 (ws' := (mW D o q (uV (uI (uI u 4 f3) 5 g3) 6 n))) rfl (fun H locs hP hS => ?_)
              exact W.vret SS.1 SS.2.1 hr (fun t ht hW => ⟨⟨(uV (uI (uI u 4 f3) 5 g3) 6 n), rfl, (⟨f3, g3, n, rfl, ⟨i105_1.1, by omega, by have := i105_1.2.2.1; omega, i105_1.2.2.2.1, fun a h => i105_3 a (by omega), fun K h a ha => i105_2 K h a (by omega), fun x y => (SD_e (by omega) x y).symm.trans (i105_4 x y)⟩⟩), by show va_P D.1 j_cl (mW D o q (uV (uI (uI u 4 f3) 5 g3) 6 n)) t.heap; rw [ht]; exact hP⟩, hS.F ht⟩) hS.2.2 dX12_order_189 hlk
            · skip
              refine lv_iload_n SS.1 SS.2.1 dX12_order_113 rfl (lv_at hl 1 rfl) ?_
              refine j_if_eq SS (tgt := 151) (x := n) dX12_order_114 (by decide) (by omega) (fun c_114 => ?_) (fun c_114 => ?_)
              · skip
                refine lv_aload_n SS.1 SS.2.1 dX12_order_151 rfl (lv_at hl 0 rfl) ?_
                refine j_get SS hG hP 0 (v := .ref (q 4)) (C := RX12) (T := TX12) (N := 31) rfl rfl inX12 4 (by decide) (ref := RX12) kw_1062 rfl rfl dX12_order_152 ?_
                refine lv_iload_n SS.1 SS.2.1 dX12_order_155 rfl (lv_at hl 1 rfl) ?_
                refine lv_aload_n SS.1 SS.2.1 dX12_order_156 rfl (lv_at hl 0 rfl) ?_
                refine j_get SS hG hP 0 (v := .ref (q 4)) (C := RX12) (T := TX12) (N := 31) rfl rfl inX12 4 (by decide) (ref := RX12) kw_1062 rfl rfl dX12_order_157 ?_
                refine lv_iload_n SS.1 SS.2.1 dX12_order_160 rfl (lv_at hl 2 rfl) ?_
                refine j_iald SS hG hP 5 (n := 640) (f := f3) rfl (z := i2) (by omega) (by omega) dX12_order_161 ?_
                refine j_iast SS hG hP (mW_D hD) hS 5 (n := 640) (f := f3) rfl (z := n) (v := (f3 (i2).toNat)) (by omega) (by omega) dX12_order_162 (ws' := (mW D o q (uI (uI u 4 (upI f3 (n).toNat (f3 (i2).toNat))) 5 g3))) rfl (fun H locs hP hS => ?_)
                refine lv_aload_n SS.1 SS.2.1 dX12_order_163 rfl (lv_at hl 0 rfl) ?_
                refine j_get SS hG hP 0 (v := .ref (q 5)) (C := RX12) (T := TX12) (N := 31) rfl rfl inX12 5 (by decide) (ref := RX12) kw_1063 rfl rfl dX12_order_164 ?_
                refine lv_iload_n SS.1 SS.2.1 dX12_order_167 rfl (lv_at hl 1 rfl) ?_
                refine lv_aload_n SS.1 SS.2.1 dX12_order_168 rfl (lv_at hl 0 rfl) ?_
                refine j_get SS hG hP 0 (v := .ref (q 5)) (C := RX12) (T := TX12) (N := 31) rfl rfl inX12 5 (by decide) (ref := RX12) kw_1063 rfl rfl dX12_order_169 ?_
                refine lv_iload_n SS.1 SS.2.1 dX12_order_172 rfl (lv_at hl 2 rfl) ?_
                refine j_iald SS hG hP 6 (n := 640) (f := g3) rfl (z := i2) (by omega) (by omega) dX12_order_173 ?_
                refine j_iast SS hG hP (mW_D hD) hS 6 (n := 640) (f := g3) rfl (z := n) (v := (g3 (i2).toNat)) (by omega) (by omega) dX12_order_174 (ws' := (mW D o q (uI (uI u 4 (upI f3 (n).toNat (f3 (i2).toNat))) 5 (upI g3 (n).toNat (g3 (i2).toNat))))) rfl (fun H locs hP hS => ?_)
                refine lv_iinc (v := J (n + 1)) (lv' := [(1, .int (J (n + 1))), (0, .ref o), (2, .int (J i2))]) SS.1 SS.2.1 dX12_order_175 hl (k := 1) rfl (J_add _ _) (by decide) rfl (fun ls hl => ?_)
                refine lv_iinc (v := J (i2 + 1)) (lv' := [(2, .int (J (i2 + 1))), (1, .int (J (n + 1))), (0, .ref o)]) SS.1 SS.2.1 dX12_order_178 hl (k := 2) rfl (J_add _ _) (by decide) rfl (fun ls hl => ?_)
                refine lv_goto (tgt := 105) SS.1 SS.2.1 dX12_order_181 (by decide) ?_
                exact ih_105 (n + 1) (i2 + 1) (upI f3 (n).toNat (f3 (i2).toNat)) (upI g3 (n).toNat (g3 (i2).toNat)) _ _ hP hS ls (lv_sub hl [2, 1, 0] rfl) (by omega) (by first | exact os_dput i105_1 (by omega) (Or.inl (by omega)) | exact os_dput i105_1 (by omega) (Or.inr (Or.inl (by omega))) | exact os_dput i105_1 (by omega) (Or.inr (Or.inr (by omega))) | exact os_dskip i105_1 (by omega) (by omega) (by omega) (by omega)) (fun K h => by have q := i105_2 K h; have q1 := bd_at q (z := i2) (by omega) (by omega); first | exact bd_up q q1.1 q1.2 | exact q) (by have q1 := bd_at i105_3 (z := i2) (by omega) (by omega); first | exact bd_up i105_3 q1.1 q1.2 | exact i105_3) (fun x y => by first | exact (SD_put (by omega) (by omega) (by omega) x y).trans (i105_4 x y) | exact (SD_skip (by omega) (by omega) (by omega) (by omega) (by omega) x y).trans (i105_4 x y)) (by omega)
              · skip
                refine lv_aload_n SS.1 SS.2.1 dX12_order_117 rfl (lv_at hl 0 rfl) ?_
                refine j_get SS hG hP 0 (v := .ref (q 4)) (C := RX12) (T := TX12) (N := 31) rfl rfl inX12 4 (by decide) (ref := RX12) kw_1062 rfl rfl dX12_order_118 ?_
                refine lv_iload_n SS.1 SS.2.1 dX12_order_121 rfl (lv_at hl 2 rfl) ?_
                refine j_iald SS hG hP 5 (n := 640) (f := f3) rfl (z := i2) (by omega) (by omega) dX12_order_122 ?_
                refine lv_aload_n SS.1 SS.2.1 dX12_order_123 rfl (lv_at hl 0 rfl) ?_
                refine j_get SS hG hP 0 (v := .ref (q 4)) (C := RX12) (T := TX12) (N := 31) rfl rfl inX12 4 (by decide) (ref := RX12) kw_1062 rfl rfl dX12_order_124 ?_
                refine lv_iload_n SS.1 SS.2.1 dX12_order_127 rfl (lv_at hl 1 rfl) ?_
                refine j_iconst SS dX12_order_128 ?_
                refine j_isub SS (x := n) (y := 1) dX12_order_129 ?_
                refine j_iald SS hG hP 5 (n := 640) (f := f3) rfl (z := (n - 1)) (by omega) (by omega) dX12_order_130 ?_
                have q1 := bd_at i105_3 (z := i2) (by omega) (by omega)
                have q2 := bd_at i105_3 (z := n - 1) (by omega) (by omega)
                refine j_icmp_ne SS (tgt := 151) (x := (f3 (i2).toNat)) (y := (f3 ((n - 1)).toNat)) dX12_order_131 (by decide) (by omega) (by omega) (fun c_131 => ?_) (fun c_131 => ?_)
                · skip
                  refine lv_aload_n SS.1 SS.2.1 dX12_order_151 rfl (lv_at hl 0 rfl) ?_
                  refine j_get SS hG hP 0 (v := .ref (q 4)) (C := RX12) (T := TX12) (N := 31) rfl rfl inX12 4 (by decide) (ref := RX12) kw_1062 rfl rfl dX12_order_152 ?_
                  refine lv_iload_n SS.1 SS.2.1 dX12_order_155 rfl (lv_at hl 1 rfl) ?_
                  refine lv_aload_n SS.1 SS.2.1 dX12_order_156 rfl (lv_at hl 0 rfl) ?_
                  refine j_get SS hG hP 0 (v := .ref (q 4)) (C := RX12) (T := TX12) (N := 31) rfl rfl inX12 4 (by decide) (ref := RX12) kw_1062 rfl rfl dX12_order_157 ?_
                  refine lv_iload_n SS.1 SS.2.1 dX12_order_160 rfl (lv_at hl 2 rfl) ?_
                  refine j_iald SS hG hP 5 (n := 640) (f := f3) rfl (z := i2) (by omega) (by omega) dX12_order_161 ?_
                  refine j_iast SS hG hP (mW_D hD) hS 5 (n := 640) (f := f3) rfl (z := n) (v := (f3 (i2).toNat)) (by omega) (by omega) dX12_order_162 (ws' := (mW D o q (uI (uI u 4 (upI f3 (n).toNat (f3 (i2).toNat))) 5 g3))) rfl (fun H locs hP hS => ?_)
                  refine lv_aload_n SS.1 SS.2.1 dX12_order_163 rfl (lv_at hl 0 rfl) ?_
                  refine j_get SS hG hP 0 (v := .ref (q 5)) (C := RX12) (T := TX12) (N := 31) rfl rfl inX12 5 (by decide) (ref := RX12) kw_1063 rfl rfl dX12_order_164 ?_
                  refine lv_iload_n SS.1 SS.2.1 dX12_order_167 rfl (lv_at hl 1 rfl) ?_
                  refine lv_aload_n SS.1 SS.2.1 dX12_order_168 rfl (lv_at hl 0 rfl) ?_
                  refine j_get SS hG hP 0 (v := .ref (q 5)) (C := RX12) (T := TX12) (N := 31) rfl rfl inX12 5 (by decide) (ref := RX12) kw_1063 rfl rfl dX12_order_169 ?_
                  refine lv_iload_n SS.1 SS.2.1 dX12_order_172 rfl (lv_at hl 2 rfl) ?_
                  refine j_iald SS hG hP 6 (n := 640) (f := g3) rfl (z := i2) (by omega) (by omega) dX12_order_173 ?_
                  refine j_iast SS hG hP (mW_D hD) hS 6 (n := 640) (f := g3) rfl (z := n) (v := (g3 (i2).toNat)) (by omega) (by omega) dX12_order_174 (ws' := (mW D o q (uI (uI u 4 (upI f3 (n).toNat (f3 (i2).toNat))) 5 (upI g3 (n).toNat (g3 (i2).toNat))))) rfl (fun H locs hP hS => ?_)
                  refine lv_iinc (v := J (n + 1)) (lv' := [(1, .int (J (n + 1))), (0, .ref o), (2, .int (J i2))]) SS.1 SS.2.1 dX12_order_175 hl (k := 1) rfl (J_add _ _) (by decide) rfl (fun ls hl => ?_)
                  refine lv_iinc (v := J (i2 + 1)) (lv' := [(2, .int (J (i2 + 1))), (1, .int (J (n + 1))), (0, .ref o)]) SS.1 SS.2.1 dX12_order_178 hl (k := 2) rfl (J_add _ _) (by decide) rfl (fun ls hl => ?_)
                  refine lv_goto (tgt := 105) SS.1 SS.2.1 dX12_order_181 (by decide) ?_
                  exact ih_105 (n + 1) (i2 + 1) (upI f3 (n).toNat (f3 (i2).toNat)) (upI g3 (n).toNat (g3 (i2).toNat)) _ _ hP hS ls (lv_sub hl [2, 1, 0] rfl) (by omega) (by first | exact os_dput i105_1 (by omega) (Or.inl (by omega)) | exact os_dput i105_1 (by omega) (Or.inr (Or.inl (by omega))) | exact os_dput i105_1 (by omega) (Or.inr (Or.inr (by omega))) | exact os_dskip i105_1 (by omega) (by omega) (by omega) (by omega)) (fun K h => by have q := i105_2 K h; have q1 := bd_at q (z := i2) (by omega) (by omega); first | exact bd_up q q1.1 q1.2 | exact q) (by have q1 := bd_at i105_3 (z := i2) (by omega) (by omega); first | exact bd_up i105_3 q1.1 q1.2 | exact i105_3) (fun x y => by first | exact (SD_put (by omega) (by omega) (by omega) x y).trans (i105_4 x y) | exact (SD_skip (by omega) (by omega) (by omega) (by omega) (by omega) x y).trans (i105_4 x y)) (by omega)
                · skip
                  refine lv_aload_n SS.1 SS.2.1 dX12_order_134 rfl (lv_at hl 0 rfl) ?_
                  refine j_get SS hG hP 0 (v := .ref (q 5)) (C := RX12) (T := TX12) (N := 31) rfl rfl inX12 5 (by decide) (ref := RX12) kw_1063 rfl rfl dX12_order_135 ?_
                  refine lv_iload_n SS.1 SS.2.1 dX12_order_138 rfl (lv_at hl 2 rfl) ?_
                  refine j_iald SS hG hP 6 (n := 640) (f := g3) rfl (z := i2) (by omega) (by omega) dX12_order_139 ?_
                  refine lv_aload_n SS.1 SS.2.1 dX12_order_140 rfl (lv_at hl 0 rfl) ?_
                  refine j_get SS hG hP 0 (v := .ref (q 5)) (C := RX12) (T := TX12) (N := 31) rfl rfl inX12 5 (by decide) (ref := RX12) kw_1063 rfl rfl dX12_order_141 ?_
                  refine lv_iload_n SS.1 SS.2.1 dX12_order_144 rfl (lv_at hl 1 rfl) ?_
                  refine j_iconst SS dX12_order_145 ?_
                  refine j_isub SS (x := n) (y := 1) dX12_order_146 ?_
                  refine j_iald SS hG hP 6 (n := 640) (f := g3) rfl (z := (n - 1)) (by omega) (by omega) dX12_order_147 ?_
                  have q1 := bd_at i105_3 (z := i2) (by omega) (by omega)
                  have q2 := bd_at i105_3 (z := n - 1) (by omega) (by omega)
                  refine j_icmp_eq SS (tgt := 178) (x := (g3 (i2).toNat)) (y := (g3 ((n - 1)).toNat)) dX12_order_148 (by decide) (by omega) (by omega) (fun c_148 => ?_) (fun c_148 => ?_)
                  · skip
                    refine lv_iinc (v := J (i2 + 1)) (lv' := [(2, .int (J (i2 + 1))), (0, .ref o), (1, .int (J n))]) SS.1 SS.2.1 dX12_order_178 hl (k := 2) rfl (J_add _ _) (by decide) rfl (fun ls hl => ?_)
                    refine lv_goto (tgt := 105) SS.1 SS.2.1 dX12_order_181 (by decide) ?_
                    exact ih_105 n (i2 + 1) f3 g3 _ _ hP hS ls (lv_sub hl [1, 2, 0] rfl) (by omega) (by first | exact os_dput i105_1 (by omega) (Or.inl (by omega)) | exact os_dput i105_1 (by omega) (Or.inr (Or.inl (by omega))) | exact os_dput i105_1 (by omega) (Or.inr (Or.inr (by omega))) | exact os_dskip i105_1 (by omega) (by omega) (by omega) (by omega)) (fun K h => by have q := i105_2 K h; have q1 := bd_at q (z := i2) (by omega) (by omega); first | exact bd_up q q1.1 q1.2 | exact q) (by have q1 := bd_at i105_3 (z := i2) (by omega) (by omega); first | exact bd_up i105_3 q1.1 q1.2 | exact i105_3) (fun x y => by first | exact (SD_put (by omega) (by omega) (by omega) x y).trans (i105_4 x y) | exact (SD_skip (by omega) (by omega) (by omega) (by omega) (by omega) x y).trans (i105_4 x y)) (by omega)
                  · skip
                    refine lv_aload_n SS.1 SS.2.1 dX12_order_151 rfl (lv_at hl 0 rfl) ?_
                    refine j_get SS hG hP 0 (v := .ref (q 4)) (C := RX12) (T := TX12) (N := 31) rfl rfl inX12 4 (by decide) (ref := RX12) kw_1062 rfl rfl dX12_order_152 ?_
                    refine lv_iload_n SS.1 SS.2.1 dX12_order_155 rfl (lv_at hl 1 rfl) ?_
                    refine lv_aload_n SS.1 SS.2.1 dX12_order_156 rfl (lv_at hl 0 rfl) ?_
                    refine j_get SS hG hP 0 (v := .ref (q 4)) (C := RX12) (T := TX12) (N := 31) rfl rfl inX12 4 (by decide) (ref := RX12) kw_1062 rfl rfl dX12_order_157 ?_
                    refine lv_iload_n SS.1 SS.2.1 dX12_order_160 rfl (lv_at hl 2 rfl) ?_
                    refine j_iald SS hG hP 5 (n := 640) (f := f3) rfl (z := i2) (by omega) (by omega) dX12_order_161 ?_
                    refine j_iast SS hG hP (mW_D hD) hS 5 (n := 640) (f := f3) rfl (z := n) (v := (f3 (i2).toNat)) (by omega) (by omega) dX12_order_162 (ws' := (mW D o q (uI (uI u 4 (upI f3 (n).toNat (f3 (i2).toNat))) 5 g3))) rfl (fun H locs hP hS => ?_)
                    refine lv_aload_n SS.1 SS.2.1 dX12_order_163 rfl (lv_at hl 0 rfl) ?_
                    refine j_get SS hG hP 0 (v := .ref (q 5)) (C := RX12) (T := TX12) (N := 31) rfl rfl inX12 5 (by decide) (ref := RX12) kw_1063 rfl rfl dX12_order_164 ?_
                    refine lv_iload_n SS.1 SS.2.1 dX12_order_167 rfl (lv_at hl 1 rfl) ?_
                    refine lv_aload_n SS.1 SS.2.1 dX12_order_168 rfl (lv_at hl 0 rfl) ?_
                    refine j_get SS hG hP 0 (v := .ref (q 5)) (C := RX12) (T := TX12) (N := 31) rfl rfl inX12 5 (by decide) (ref := RX12) kw_1063 rfl rfl dX12_order_169 ?_
                    refine lv_iload_n SS.1 SS.2.1 dX12_order_172 rfl (lv_at hl 2 rfl) ?_
                    refine j_iald SS hG hP 6 (n := 640) (f := g3) rfl (z := i2) (by omega) (by omega) dX12_order_173 ?_
                    refine j_iast SS hG hP (mW_D hD) hS 6 (n := 640) (f := g3) rfl (z := n) (v := (g3 (i2).toNat)) (by omega) (by omega) dX12_order_174 (ws' := (mW D o q (uI (uI u 4 (upI f3 (n).toNat (f3 (i2).toNat))) 5 (upI g3 (n).toNat (g3 (i2).toNat))))) rfl (fun H locs hP hS => ?_)
                    refine lv_iinc (v := J (n + 1)) (lv' := [(1, .int (J (n + 1))), (0, .ref o), (2, .int (J i2))]) SS.1 SS.2.1 dX12_order_175 hl (k := 1) rfl (J_add _ _) (by decide) rfl (fun ls hl => ?_)
                    refine lv_iinc (v := J (i2 + 1)) (lv' := [(2, .int (J (i2 + 1))), (1, .int (J (n + 1))), (0, .ref o)]) SS.1 SS.2.1 dX12_order_178 hl (k := 2) rfl (J_add _ _) (by decide) rfl (fun ls hl => ?_)
                    refine lv_goto (tgt := 105) SS.1 SS.2.1 dX12_order_181 (by decide) ?_
                    exact ih_105 (n + 1) (i2 + 1) (upI f3 (n).toNat (f3 (i2).toNat)) (upI g3 (n).toNat (g3 (i2).toNat)) _ _ hP hS ls (lv_sub hl [2, 1, 0] rfl) (by omega) (by first | exact os_dput i105_1 (by omega) (Or.inl (by omega)) | exact os_dput i105_1 (by omega) (Or.inr (Or.inl (by omega))) | exact os_dput i105_1 (by omega) (Or.inr (Or.inr (by omega))) | exact os_dskip i105_1 (by omega) (by omega) (by omega) (by omega)) (fun K h => by have q := i105_2 K h; have q1 := bd_at q (z := i2) (by omega) (by omega); first | exact bd_up q q1.1 q1.2 | exact q) (by have q1 := bd_at i105_3 (z := i2) (by omega) (by omega); first | exact bd_up i105_3 q1.1 q1.2 | exact i105_3) (fun x y => by first | exact (SD_put (by omega) (by omega) (by omega) x y).trans (i105_4 x y) | exact (SD_skip (by omega) (by omega) (by omega) (by omega) (by omega) x y).trans (i105_4 x y)) (by omega)
        exact L_105 ((u.2.2 6 - (0 : Int)).toNat + 1) 0 0 f g _ _ hP hS ls (lv_sub hl [2, 1, 0] rfl) (by omega) (os_d0 (fun a h => i2_1 a (by omega))) (i2_2) (i2_2 _ p1) (fun x y => (SD_0 x y).trans (i2_3 x y)) (Nat.lt_succ_self _)
      · skip
        refine lv_iload_n SS.1 SS.2.1 dX12_order_10 rfl (lv_at hl 1 rfl) ?_
        refine lv_istore_n (lv' := [(2, .int (J i)), (0, .ref o), (1, .int (J i))]) SS.1 SS.2.1 dX12_order_11 rfl hl (by decide) rfl (fun ls hl => ?_)
        have L_12 : ∀ (nn : Nat) (j : Int) (f2 : Nat → Int) (g2 : Nat → Int) (H : Heap) (locs : List Loc) (hP : va_P D.1 j_cl (mW D o q (uI (uI u 4 f2) 5 g2)) H) (hS : va_S A st.heap H locs) (ls : Array Slot) (hl : lv_has ls 5 [(0, .ref o), (1, .int (J i)), (2, .int (J j))]) (i12_0 : 0 ≤ j ∧ j ≤ i) (i12_1 : os_in f2 g2 i j) (i12_2 : ∀ K : Int, bd K (u.1 4) (u.1 5) (u.2.2 6) → bd K f2 g2 (u.2.2 6)) (i12_3 : bd 10000 f2 g2 (u.2.2 6)) (i12_4 : ∀ x y : Int, SWW f2 g2 (u.2.2 6) x y ↔ SWW (u.1 4) (u.1 5) (u.2.2 6) x y), j.toNat < nn → W pr l en (headSpec (jw yX12_order cX12_order 5 none) (jr 1 22)).room st mi (([.ref o] : List Value).toArray) below meth co H locs 0 0 (MQ below (jWv (fun u' => ∃ f : Nat → Int, ∃ g : Nat → Int, ∃ w : Int, u' = (uV (uI (uI u 4 f) 5 g) 6 w) ∧ (0 ≤ w ∧ w ≤ u.2.2 6 ∧ (0 < u.2.2 6 → 0 < w) ∧ os_s f g w ∧ bd 10000 f g w ∧ (∀ K : Int, bd K (u.1 4) (u.1 5) (u.2.2 6) → bd K f g w) ∧ ∀ x y : Int, SWW f g w x y ↔ SWW (u.1 4) (u.1 5) (u.2.2 6) x y)) (fun u' H => va_P D.1 j_cl (mW D o q u') H) A) (([.ref o] : List Value).toArray) st 0 0 A) (F0 mi 12 ls []) := by
          intro nn
          induction nn with
          | zero => intros; omega
          | succ nn ih_12 =>
            intro j f2 g2 H locs hP hS ls hl i12_0 i12_1 i12_2 i12_3 i12_4 hm
            refine lv_iload_n SS.1 SS.2.1 dX12_order_12 rfl (lv_at hl 2 rfl) ?_
            refine j_if_le SS (tgt := 95) (x := j) dX12_order_13 (by decide) (by omega) (fun c_13 => ?_) (fun c_13 => ?_)
            · skip
              refine lv_iinc (v := J (i + 1)) (lv' := [(1, .int (J (i + 1))), (0, .ref o), (2, .int (J j))]) SS.1 SS.2.1 dX12_order_95 hl (k := 1) rfl (J_add _ _) (by decide) rfl (fun ls hl => ?_)
              refine lv_goto (tgt := 2) SS.1 SS.2.1 dX12_order_98 (by decide) ?_
              exact ih_2 (i + 1) f2 g2 _ _ hP hS ls (lv_sub hl [1, 0] rfl) (by omega) (by first | exact os_end i12_1 (Or.inl (by omega)) | exact os_end i12_1 (Or.inr ⟨by omega, by omega, by rcases h_21 with h | h; omega; exact h.2⟩)) (i12_2) (i12_4) (by omega)
            · skip
              refine lv_aload_n SS.1 SS.2.1 dX12_order_16 rfl (lv_at hl 0 rfl) ?_
              refine lv_iload_n SS.1 SS.2.1 dX12_order_17 rfl (lv_at hl 2 rfl) ?_
              refine j_iconst SS dX12_order_18 ?_
              refine j_isub SS (x := j) (y := 1) dX12_order_19 ?_
              refine lv_iload_n SS.1 SS.2.1 dX12_order_20 rfl (lv_at hl 2 rfl) ?_
              refine j_vRi SS (As := [.int (J (j - 1)), .int (J j)]) (rest := []) (c_X12_isAfter l D o q (uI (uI u 4 f2) 5 g2) (j - 1) j (show 0 ≤ (j - 1) ∧ (j - 1) < 640 from (by omega)) (show 0 ≤ j ∧ j < 640 from (by omega)) (show -10000 ≤ f2 (j - 1).toNat ∧ f2 (j - 1).toNat ≤ 10000 from (by have q := bd_at i12_3 (z := j - 1) (by omega) (by omega); exact q.1)) (show -10000 ≤ f2 j.toNat ∧ f2 j.toNat ≤ 10000 from (by have q := bd_at i12_3 (z := j) (by omega) (by omega); exact q.1)) (show -10000 ≤ g2 (j - 1).toNat ∧ g2 (j - 1).toNat ≤ 10000 from (by have q := bd_at i12_3 (z := j - 1) (by omega) (by omega); exact q.2)) (show -10000 ≤ g2 j.toNat ∧ g2 j.toNat ≤ 10000 from (by have q := bd_at i12_3 (z := j) (by omega) (by omega); exact q.2))) mf_X12_isAfter kw_1197 hG hP hP (ci := 8) (q0 := 0) rfl rfl rfl rfl hl.1 ⟨⟨Nat.le_of_ble_eq_true rfl, Nat.le_of_ble_eq_true rfl⟩, Nat.le_of_ble_eq_true rfl, Nat.le_refl _, Nat.le_refl _⟩ rfl dX12_order_21 (fun z_21 h_21 => ?_)
              have h_21 : (z_21 = 1 ∧ lt2 (f2 j.toNat) (g2 j.toNat) (f2 (j - 1).toNat) (g2 (j - 1).toNat)) ∨ (z_21 = 0 ∧ ¬ lt2 (f2 j.toNat) (g2 j.toNat) (f2 (j - 1).toNat) (g2 (j - 1).toNat)) := h_21
              refine j_if_eq SS (tgt := 95) (x := z_21) dX12_order_24 (by decide) (by omega) (fun c_24 => ?_) (fun c_24 => ?_)
              · skip
                refine lv_iinc (v := J (i + 1)) (lv' := [(1, .int (J (i + 1))), (0, .ref o), (2, .int (J j))]) SS.1 SS.2.1 dX12_order_95 hl (k := 1) rfl (J_add _ _) (by decide) rfl (fun ls hl => ?_)
                refine lv_goto (tgt := 2) SS.1 SS.2.1 dX12_order_98 (by decide) ?_
                exact ih_2 (i + 1) f2 g2 _ _ hP hS ls (lv_sub hl [1, 0] rfl) (by omega) (by first | exact os_end i12_1 (Or.inl (by omega)) | exact os_end i12_1 (Or.inr ⟨by omega, by omega, by rcases h_21 with h | h; omega; exact h.2⟩)) (i12_2) (i12_4) (by omega)
              · skip
                refine lv_aload_n SS.1 SS.2.1 dX12_order_27 rfl (lv_at hl 0 rfl) ?_
                refine j_get SS hG hP 0 (v := .ref (q 4)) (C := RX12) (T := TX12) (N := 31) rfl rfl inX12 4 (by decide) (ref := RX12) kw_1062 rfl rfl dX12_order_28 ?_
                refine lv_iload_n SS.1 SS.2.1 dX12_order_31 rfl (lv_at hl 2 rfl) ?_
                refine j_iald SS hG hP 5 (n := 640) (f := f2) rfl (z := j) (by omega) (by omega) dX12_order_32 ?_
                refine lv_istore_n (lv' := [(3, .int (J (f2 (j).toNat))), (0, .ref o), (1, .int (J i)), (2, .int (J j))]) SS.1 SS.2.1 dX12_order_33 rfl hl (by decide) rfl (fun ls hl => ?_)
                refine lv_aload_n SS.1 SS.2.1 dX12_order_34 rfl (lv_at hl 1 rfl) ?_
                refine j_get SS hG hP 0 (v := .ref (q 5)) (C := RX12) (T := TX12) (N := 31) rfl rfl inX12 5 (by decide) (ref := RX12) kw_1063 rfl rfl dX12_order_35 ?_
                refine lv_iload_n SS.1 SS.2.1 dX12_order_38 rfl (lv_at hl 3 rfl) ?_
                refine j_iald SS hG hP 6 (n := 640) (f := g2) rfl (z := j) (by omega) (by omega) dX12_order_39 ?_
                refine lv_istore (lv' := [(4, .int (J (g2 (j).toNat))), (3, .int (J (f2 (j).toNat))), (0, .ref o), (1, .int (J i)), (2, .int (J j))]) SS.1 SS.2.1 dX12_order_40 hl (by decide) rfl (fun ls hl => ?_)
                refine lv_aload_n SS.1 SS.2.1 dX12_order_42 rfl (lv_at hl 2 rfl) ?_
                refine j_get SS hG hP 0 (v := .ref (q 4)) (C := RX12) (T := TX12) (N := 31) rfl rfl inX12 4 (by decide) (ref := RX12) kw_1062 rfl rfl dX12_order_43 ?_
                refine lv_iload_n SS.1 SS.2.1 dX12_order_46 rfl (lv_at hl 4 rfl) ?_
                refine lv_aload_n SS.1 SS.2.1 dX12_order_47 rfl (lv_at hl 2 rfl) ?_
                refine j_get SS hG hP 0 (v := .ref (q 4)) (C := RX12) (T := TX12) (N := 31) rfl rfl inX12 4 (by decide) (ref := RX12) kw_1062 rfl rfl dX12_order_48 ?_
                refine lv_iload_n SS.1 SS.2.1 dX12_order_51 rfl (lv_at hl 4 rfl) ?_
                refine j_iconst SS dX12_order_52 ?_
                refine j_isub SS (x := j) (y := 1) dX12_order_53 ?_
                refine j_iald SS hG hP 5 (n := 640) (f := f2) rfl (z := (j - 1)) (by omega) (by omega) dX12_order_54 ?_
                refine j_iast SS hG hP (mW_D hD) hS 5 (n := 640) (f := f2) rfl (z := j) (v := (f2 ((j - 1)).toNat)) (by omega) (by omega) dX12_order_55 (ws' := (mW D o q (uI (uI u 4 (upI f2 (j).toNat (f2 ((j - 1)).toNat))) 5 g2))) rfl (fun H locs hP hS => ?_)
                refine lv_aload_n SS.1 SS.2.1 dX12_order_56 rfl (lv_at hl 2 rfl) ?_
                refine j_get SS hG hP 0 (v := .ref (q 5)) (C := RX12) (T := TX12) (N := 31) rfl rfl inX12 5 (by decide) (ref := RX12) kw_1063 rfl rfl dX12_order_57 ?_
                refine lv_iload_n SS.1 SS.2.1 dX12_order_60 rfl (lv_at hl 4 rfl) ?_
                refine lv_aload_n SS.1 SS.2.1 dX12_order_61 rfl (lv_at hl 2 rfl) ?_
                refine j_get SS hG hP 0 (v := .ref (q 5)) (C := RX12) (T := TX12) (N := 31) rfl rfl inX12 5 (by decide) (ref := RX12) kw_1063 rfl rfl dX12_order_62 ?_
                refine lv_iload_n SS.1 SS.2.1 dX12_order_65 rfl (lv_at hl 4 rfl) ?_
                refine j_iconst SS dX12_order_66 ?_
                refine j_isub SS (x := j) (y := 1) dX12_order_67 ?_
                refine j_iald SS hG hP 6 (n := 640) (f := g2) rfl (z := (j - 1)) (by omega) (by omega) dX12_order_68 ?_
                refine j_iast SS hG hP (mW_D hD) hS 6 (n := 640) (f := g2) rfl (z := j) (v := (g2 ((j - 1)).toNat)) (by omega) (by omega) dX12_order_69 (ws' := (mW D o q (uI (uI u 4 (upI f2 (j).toNat (f2 ((j - 1)).toNat))) 5 (upI g2 (j).toNat (g2 ((j - 1)).toNat))))) rfl (fun H locs hP hS => ?_)
                refine lv_aload_n SS.1 SS.2.1 dX12_order_70 rfl (lv_at hl 2 rfl) ?_
                refine j_get SS hG hP 0 (v := .ref (q 4)) (C := RX12) (T := TX12) (N := 31) rfl rfl inX12 4 (by decide) (ref := RX12) kw_1062 rfl rfl dX12_order_71 ?_
                refine lv_iload_n SS.1 SS.2.1 dX12_order_74 rfl (lv_at hl 4 rfl) ?_
                refine j_iconst SS dX12_order_75 ?_
                refine j_isub SS (x := j) (y := 1) dX12_order_76 ?_
                refine lv_iload_n SS.1 SS.2.1 dX12_order_77 rfl (lv_at hl 1 rfl) ?_
                refine j_iast SS hG hP (mW_D hD) hS 5 (n := 640) (f := (upI f2 (j).toNat (f2 ((j - 1)).toNat))) rfl (z := (j - 1)) (v := (f2 (j).toNat)) (by omega) (by omega) dX12_order_78 (ws' := (mW D o q (uI (uI u 4 (upI (upI f2 (j).toNat (f2 ((j - 1)).toNat)) ((j - 1)).toNat (f2 (j).toNat))) 5 (upI g2 (j).toNat (g2 ((j - 1)).toNat))))) rfl (fun H locs hP hS => ?_)
                refine lv_aload_n SS.1 SS.2.1 dX12_order_79 rfl (lv_at hl 2 rfl) ?_
                refine j_get SS hG hP 0 (v := .ref (q 5)) (C := RX12) (T := TX12) (N := 31) rfl rfl inX12 5 (by decide) (ref := RX12) kw_1063 rfl rfl dX12_order_80 ?_
                refine lv_iload_n SS.1 SS.2.1 dX12_order_83 rfl (lv_at hl 4 rfl) ?_
                refine j_iconst SS dX12_order_84 ?_
                refine j_isub SS (x := j) (y := 1) dX12_order_85 ?_
                refine lv_iload SS.1 SS.2.1 dX12_order_86 (lv_at hl 0 rfl) ?_
                refine j_iast SS hG hP (mW_D hD) hS 6 (n := 640) (f := (upI g2 (j).toNat (g2 ((j - 1)).toNat))) rfl (z := (j - 1)) (v := (g2 (j).toNat)) (by omega) (by omega) dX12_order_88 (ws' := (mW D o q (uI (uI u 4 (upI (upI f2 (j).toNat (f2 ((j - 1)).toNat)) ((j - 1)).toNat (f2 (j).toNat))) 5 (upI (upI g2 (j).toNat (g2 ((j - 1)).toNat)) ((j - 1)).toNat (g2 (j).toNat))))) rfl (fun H locs hP hS => ?_)
                refine lv_iinc (v := J (j + (-1))) (lv' := [(2, .int (J (j + (-1)))), (4, .int (J (g2 (j).toNat))), (3, .int (J (f2 (j).toNat))), (0, .ref o), (1, .int (J i))]) SS.1 SS.2.1 dX12_order_89 hl (k := 4) rfl (J_add _ _) (by decide) rfl (fun ls hl => ?_)
                refine lv_goto (tgt := 12) SS.1 SS.2.1 dX12_order_92 (by decide) ?_
                exact ih_12 (j + (-1)) (upI (upI f2 (j).toNat (f2 ((j - 1)).toNat)) ((j - 1)).toNat (f2 (j).toNat)) (upI (upI g2 (j).toNat (g2 ((j - 1)).toNat)) ((j - 1)).toNat (g2 (j).toNat)) _ _ hP hS ls (lv_sub hl [3, 4, 0] rfl) (by omega) (os_swap (by omega) (by omega) i12_1 (by rcases h_21 with h | h; exact h.2; omega)) (fun K h => by have q := i12_2 K h; have q1 := bd_at q (z := j) (by omega) (by omega); have q2 := bd_at q (z := j - 1) (by omega) (by omega); exact bd_up (bd_up q q2.1 q2.2) q1.1 q1.2) (by have q1 := bd_at i12_3 (z := j) (by omega) (by omega); have q2 := bd_at i12_3 (z := j - 1) (by omega) (by omega); exact bd_up (bd_up i12_3 q2.1 q2.2) q1.1 q1.2) (fun x y => (SWW_swap (by omega) (by omega) (by omega) x y).trans (i12_4 x y)) (by omega)
        exact L_12 (i.toNat + 1) i f g _ _ hP hS ls (lv_sub hl [1, 2, 0] rfl) (by omega) (os_start i2_1) (i2_2) (i2_2 _ p1) (i2_3) (Nat.lt_succ_self _)
  exact L_2 ((u.2.2 6 - (1 : Int)).toNat + 1) 1 (u.1 4) (u.1 5) _ _ hP hS ls (lv_sub hl [1, 0] rfl) (by omega) (fun a h => absurd h (by omega)) (fun _ h => h) (fun _ _ => Iff.rfl) (Nat.lt_succ_self _)

set_option maxHeartbeats 4000000 in
set_option maxRecDepth 100000 in
theorem c_X12_goOn2 (l : Launch) (D : JD) (o : Nat) (q : Nat → Nat) (u : MS) (A : Nat → Prop) (hD : va_D A (mW D o q u)) (i : Int) (b : Int) (p0 : 0 ≤ i ∧ i < 640) (p1 : 0 ≤ b ∧ b ≤ u.2.2 9 ∧ u.2.2 9 < 1300) (p2 : -10000 ≤ u.1 4 i.toNat ∧ u.1 4 i.toNat ≤ 10000) (p3 : -10000 ≤ u.1 5 i.toNat ∧ u.1 5 i.toNat ≤ 10000) (p4 : bd 10000 (u.1 7) (u.1 8) (u.2.2 9)) (p5 : lft (u.1 7) (u.1 8) b (u.2.2 9)) : Met l yX12_goOn (jw yX12_goOn cX12_goOn 8 none) (jr 0 0) (jP [.ref o, .int (J i), .int (J b)] D (fun H => va_P D.1 j_cl (mW D o q u) H)) (jWv (fun u' => ∃ f : Nat → Int, ∃ g : Nat → Int, ∃ w : Int, ∃ v : Int, u' = (uV (uI (uI u 7 f) 8 g) 9 w) ∧ (w = v + 1 ∧ b ≤ v ∧ v ≤ u.2.2 9 ∧ (b < u.2.2 9 → b < v) ∧ f = upI (u.1 7) v.toNat (u.1 4 i.toNat) ∧ g = upI (u.1 8) v.toNat (u.1 5 i.toNat) ∧ lft f g b w ∧ (∀ j : Nat, v ≤ j → (j : Int) < u.2.2 9 → cx (u.1 7 j - u.1 7 (j - 1)) (u.1 8 j - u.1 8 (j - 1)) (u.1 4 i.toNat - u.1 7 (j - 1)) (u.1 5 i.toNat - u.1 8 (j - 1)) ≤ 0) ∧ (v ≤ b + 1 ∨ 0 < cx (u.1 7 (v.toNat - 1) - u.1 7 (v.toNat - 2)) (u.1 8 (v.toNat - 1) - u.1 8 (v.toNat - 2)) (u.1 4 i.toNat - u.1 7 (v.toNat - 2)) (u.1 5 i.toNat - u.1 8 (v.toNat - 2))))) (fun u' H => va_P D.1 j_cl (mW D o q u') H) A) 0 0 A := by
  refine Met.ofW (cc := cX12_goOn) (maxL := 8) (ret := none) (by decide) rfl ?_
  intro pr en st mi args below meth co s₁ B hml hv
  obtain ⟨rfl, hG, hP⟩ := hv
  have hr := B.returns
  have hlk := B.notSynchronized
  have SS : jS pr mi co cX12_goOn 8 st _ RX12 := ⟨B.exec, B.bytes, hml, findClass_of_methodNamed B.named, fun w hw => atoms_spec (ws := (jw yX12_goOn cX12_goOn 8 none)) B.pre w (List.mem_cons_of_mem _ hw)⟩
  have hl := lv_entry ([.ref o, .int (J i), .int (J b)]) (n := 8) (Nat.le_of_ble_eq_true rfl)
  rw [lg_entry_eq]
  generalize (lg_sl ([.ref o, .int (J i), .int (J b)]) ++ List.replicate (8 - (lg_sl ([.ref o, .int (J i), .int (J b)])).length) Slot.unset).toArray = ls at hl ⊢
  have hl : lv_has ls 8 [(0, .ref o), (1, .int (J i)), (2, .int (J b))] := hl
  have hS : va_S A st.heap st.heap [] := va_S.rf
  refine j_iconst SS dX12_goOn_0 ?_
  refine lv_istore_n (lv' := [(3, .int (J 1)), (0, .ref o), (1, .int (J i)), (2, .int (J b))]) SS.1 SS.2.1 dX12_goOn_1 rfl hl (by decide) rfl (fun ls hl => ?_)
  have L_2 : ∀ (nn : Nat) (t : Int) (h : Int) (H : Heap) (locs : List Loc) (hP : va_P D.1 j_cl (mW D o q (uV u 9 h)) H) (hS : va_S A st.heap H locs) (ls : Array Slot) (hl : lv_has ls 8 [(0, .ref o), (1, .int (J i)), (2, .int (J b)), (3, .int (J t))]) (i2_0 : b ≤ h ∧ h ≤ u.2.2 9 ∧ (b < u.2.2 9 → b < h)) (i2_1 : t = 1 ∨ (t = 0 ∧ (h - b ≤ 1 ∨ 0 < (u.1 7 (h - 1).toNat - u.1 7 (h - 2).toNat) * (u.1 5 i.toNat - u.1 8 (h - 2).toNat) - (u.1 8 (h - 1).toNat - u.1 8 (h - 2).toNat) * (u.1 4 i.toNat - u.1 7 (h - 2).toNat)))) (i2_2 : ∀ j : Nat, h ≤ j → (j : Int) < u.2.2 9 → cx (u.1 7 j - u.1 7 (j - 1)) (u.1 8 j - u.1 8 (j - 1)) (u.1 4 i.toNat - u.1 7 (j - 1)) (u.1 5 i.toNat - u.1 8 (j - 1)) ≤ 0), (2 * (h - b) + t).toNat < nn → W pr l en (headSpec (jw yX12_goOn cX12_goOn 8 none) (jr 0 0)).room st mi (([.ref o, .int (J i), .int (J b)] : List Value).toArray) below meth co H locs 0 0 (MQ below (jWv (fun u' => ∃ f : Nat → Int, ∃ g : Nat → Int, ∃ w : Int, ∃ v : Int, u' = (uV (uI (uI u 7 f) 8 g) 9 w) ∧ (w = v + 1 ∧ b ≤ v ∧ v ≤ u.2.2 9 ∧ (b < u.2.2 9 → b < v) ∧ f = upI (u.1 7) v.toNat (u.1 4 i.toNat) ∧ g = upI (u.1 8) v.toNat (u.1 5 i.toNat) ∧ lft f g b w ∧ (∀ j : Nat, v ≤ j → (j : Int) < u.2.2 9 → cx (u.1 7 j - u.1 7 (j - 1)) (u.1 8 j - u.1 8 (j - 1)) (u.1 4 i.toNat - u.1 7 (j - 1)) (u.1 5 i.toNat - u.1 8 (j - 1)) ≤ 0) ∧ (v ≤ b + 1 ∨ 0 < cx (u.1 7 (v.toNat - 1) - u.1 7 (v.toNat - 2)) (u.1 8 (v.toNat - 1) - u.1 8 (v.toNat - 2)) (u.1 4 i.toNat - u.1 7 (v.toNat - 2)) (u.1 5 i.toNat - u.1 8 (v.toNat - 2))))) (fun u' H => va_P D.1 j_cl (mW D o q u') H) A) (([.ref o, .int (J i), .int (J b)] : List Value).toArray) st 0 0 A) (F0 mi 2 ls []) := by
    intro nn
    induction nn with
    | zero => intros; omega
    | succ nn ih_2 =>
      intro t h H locs hP hS ls hl i2_0 i2_1 i2_2 hm
      refine lv_iload_n SS.1 SS.2.1 dX12_goOn_2 rfl (lv_at hl 3 rfl) ?_
      refine j_if_eq SS (tgt := 147) (x := t) dX12_goOn_3 (by decide) (by omega) (fun c_3 => ?_) (fun c_3 => ?_)
      · skip
        refine lv_aload_n SS.1 SS.2.1 dX12_goOn_147 rfl (lv_at hl 0 rfl) ?_
        refine j_get SS hG hP 0 (v := .ref (q 7)) (C := RX12) (T := TX12) (N := 31) rfl rfl inX12 7 (by decide) (ref := RX12) kw_1065 rfl rfl dX12_goOn_148 ?_
        refine lv_aload_n SS.1 SS.2.1 dX12_goOn_151 rfl (lv_at hl 0 rfl) ?_
        refine j_get SS hG hP 0 (v := .int (J h)) (C := RX12) (T := TX12) (N := 31) rfl rfl inX12 9 (by decide) (ref := RX12) kw_1067 rfl rfl dX12_goOn_152 ?_
        refine lv_aload_n SS.1 SS.2.1 dX12_goOn_155 rfl (lv_at hl 0 rfl) ?_
        refine j_get SS hG hP 0 (v := .ref (q 4)) (C := RX12) (T := TX12) (N := 31) rfl rfl inX12 4 (by decide) (ref := RX12) kw_1062 rfl rfl dX12_goOn_156 ?_
        refine lv_iload_n SS.1 SS.2.1 dX12_goOn_159 rfl (lv_at hl 1 rfl) ?_
        refine j_iald SS hG hP 5 (n := 640) (f := (u.1 4)) rfl (z := i) (by omega) (by omega) dX12_goOn_160 ?_
        refine j_iast SS hG hP (mW_D hD) hS 7 (n := 1300) (f := (u.1 7)) rfl (z := h) (v := ((u.1 4) (i).toNat)) (by omega) (by omega) dX12_goOn_161 (ws' := (mW D o q (uV (uI u 7 (upI (u.1 7) (h).toNat ((u.1 4) (i).toNat))) 9 h))) rfl (fun H locs hP hS => ?_)
        refine lv_aload_n SS.1 SS.2.1 dX12_goOn_162 rfl (lv_at hl 0 rfl) ?_
        refine j_get SS hG hP 0 (v := .ref (q 8)) (C := RX12) (T := TX12) (N := 31) rfl rfl inX12 8 (by decide) (ref := RX12) kw_1066 rfl rfl dX12_goOn_163 ?_
        refine lv_aload_n SS.1 SS.2.1 dX12_goOn_166 rfl (lv_at hl 0 rfl) ?_
        refine j_get SS hG hP 0 (v := .int (J h)) (C := RX12) (T := TX12) (N := 31) rfl rfl inX12 9 (by decide) (ref := RX12) kw_1067 rfl rfl dX12_goOn_167 ?_
        refine lv_aload_n SS.1 SS.2.1 dX12_goOn_170 rfl (lv_at hl 0 rfl) ?_
        refine j_get SS hG hP 0 (v := .ref (q 5)) (C := RX12) (T := TX12) (N := 31) rfl rfl inX12 5 (by decide) (ref := RX12) kw_1063 rfl rfl dX12_goOn_171 ?_
        refine lv_iload_n SS.1 SS.2.1 dX12_goOn_174 rfl (lv_at hl 1 rfl) ?_
        refine j_iald SS hG hP 6 (n := 640) (f := (u.1 5)) rfl (z := i) (by omega) (by omega) dX12_goOn_175 ?_
        refine j_iast SS hG hP (mW_D hD) hS 8 (n := 1300) (f := (u.1 8)) rfl (z := h) (v := ((u.1 5) (i).toNat)) (by omega) (by omega) dX12_goOn_176 (ws' := (mW D o q (uV (uI (uI u 7 (upI (u.1 7) (h).toNat ((u.1 4) (i).toNat))) 8 (upI (u.1 8) (h).toNat ((u.1 5) (i).toNat))) 9 h))) rfl (fun H locs hP hS => ?_)
        refine lv_aload_n SS.1 SS.2.1 dX12_goOn_177 rfl (lv_at hl 0 rfl) ?_
        refine lv_dup SS.1 SS.2.1 dX12_goOn_178 rfl ?_
        refine j_get SS hG hP 0 (v := .int (J h)) (C := RX12) (T := TX12) (N := 31) rfl rfl inX12 9 (by decide) (ref := RX12) kw_1067 rfl rfl dX12_goOn_179 ?_
        refine j_iconst SS dX12_goOn_182 ?_
        refine j_iadd SS (x := h) (y := 1) dX12_goOn_183 ?_
        refine j_put SS hG hP (mW_D hD) hS 0 (v := .int (J (h + 1))) (ty := .int) (C := RX12) (T := TX12) (N := 31) rfl rfl inX12 tyX12 tyX12_ok nmX12 9 (by decide) (ref := RX12) kw_1067 rfl rfl (by decide +kernel) rfl rfl (Nat.le_of_ble_eq_true rfl) dX12_goOn_184 (ws' := (mW D o q (uV (uI (uI u 7 (upI (u.1 7) (h).toNat ((u.1 4) (i).toNat))) 8 (upI (u.1 8) (h).toNat ((u.1 5) (i).toNat))) 9 (h + 1)))) rfl (fun H locs hP hS => ?_)
        exact W.vret SS.1 SS.2.1 hr (fun t ht hW => ⟨⟨(uV (uI (uI u 7 (upI (u.1 7) (h).toNat ((u.1 4) (i).toNat))) 8 (upI (u.1 8) (h).toNat ((u.1 5) (i).toNat))) 9 (h + 1)), rfl, (⟨(upI (u.1 7) (h).toNat ((u.1 4) (i).toNat)), (upI (u.1 8) (h).toNat ((u.1 5) (i).toNat)), (h + 1), h, rfl, ⟨rfl, by omega, by omega, by omega, rfl, rfl, lft_put (by omega) (by omega) (lft_le p5 (by omega)) (by first | (rcases i2_1 with h | h; omega; exact h.2) | exact Or.inl (by omega)), i2_2, by first | exact Or.inl (by omega) | (rcases i2_1 with h9 | h9; omega; rcases h9.2 with h8 | h8; exact Or.inl (by omega); refine Or.inr ?_; rw [show h.toNat - 1 = (h - 1).toNat by omega, show h.toNat - 2 = (h - 2).toNat by omega]; unfold cx; exact h8)⟩⟩), by show va_P D.1 j_cl (mW D o q (uV (uI (uI u 7 (upI (u.1 7) (h).toNat ((u.1 4) (i).toNat))) 8 (upI (u.1 8) (h).toNat ((u.1 5) (i).toNat))) 9 (h + 1))) t.heap; rw [ht]; exact hP⟩, hS.F ht⟩) hS.2.2 dX12_goOn_187 hlk
      · skip
        refine lv_aload_n SS.1 SS.2.1 dX12_goOn_6 rfl (lv_at hl 0 rfl) ?_
        refine j_get SS hG hP 0 (v := .int (J h)) (C := RX12) (T := TX12) (N := 31) rfl rfl inX12 9 (by decide) (ref := RX12) kw_1067 rfl rfl dX12_goOn_7 ?_
        refine lv_iload_n SS.1 SS.2.1 dX12_goOn_10 rfl (lv_at hl 2 rfl) ?_
        refine j_isub SS (x := h) (y := b) dX12_goOn_11 ?_
        refine j_iconst SS dX12_goOn_12 ?_
        try have hh : b ≤ h ∧ h ≤ u.2.2 9 := ⟨i2_0.1, i2_0.2.1⟩
        refine j_icmp_le SS (tgt := 147) (x := (h - b)) (y := 1) dX12_goOn_13 (by decide) (by omega) (by decide) (fun c_13 => ?_) (fun c_13 => ?_)
        · skip
          refine lv_aload_n SS.1 SS.2.1 dX12_goOn_147 rfl (lv_at hl 0 rfl) ?_
          refine j_get SS hG hP 0 (v := .ref (q 7)) (C := RX12) (T := TX12) (N := 31) rfl rfl inX12 7 (by decide) (ref := RX12) kw_1065 rfl rfl dX12_goOn_148 ?_
          refine lv_aload_n SS.1 SS.2.1 dX12_goOn_151 rfl (lv_at hl 0 rfl) ?_
          refine j_get SS hG hP 0 (v := .int (J h)) (C := RX12) (T := TX12) (N := 31) rfl rfl inX12 9 (by decide) (ref := RX12) kw_1067 rfl rfl dX12_goOn_152 ?_
          refine lv_aload_n SS.1 SS.2.1 dX12_goOn_155 rfl (lv_at hl 0 rfl) ?_
          refine j_get SS hG hP 0 (v := .ref (q 4)) (C := RX12) (T := TX12) (N := 31) rfl rfl inX12 4 (by decide) (ref := RX12) kw_1062 rfl rfl dX12_goOn_156 ?_
          refine lv_iload_n SS.1 SS.2.1 dX12_goOn_159 rfl (lv_at hl 1 rfl) ?_
          refine j_iald SS hG hP 5 (n := 640) (f := (u.1 4)) rfl (z := i) (by omega) (by omega) dX12_goOn_160 ?_
          refine j_iast SS hG hP (mW_D hD) hS 7 (n := 1300) (f := (u.1 7)) rfl (z := h) (v := ((u.1 4) (i).toNat)) (by omega) (by omega) dX12_goOn_161 (ws' := (mW D o q (uV (uI u 7 (upI (u.1 7) (h).toNat ((u.1 4) (i).toNat))) 9 h))) rfl (fun H locs hP hS => ?_)
          refine lv_aload_n SS.1 SS.2.1 dX12_goOn_162 rfl (lv_at hl 0 rfl) ?_
          refine j_get SS hG hP 0 (v := .ref (q 8)) (C := RX12) (T := TX12) (N := 31) rfl rfl inX12 8 (by decide) (ref := RX12) kw_1066 rfl rfl dX12_goOn_163 ?_
          refine lv_aload_n SS.1 SS.2.1 dX12_goOn_166 rfl (lv_at hl 0 rfl) ?_
          refine j_get SS hG hP 0 (v := .int (J h)) (C := RX12) (T := TX12) (N := 31) rfl rfl inX12 9 (by decide) (ref := RX12) kw_1067 rfl rfl dX12_goOn_167 ?_
          refine lv_aload_n SS.1 SS.2.1 dX12_goOn_170 rfl (lv_at hl 0 rfl) ?_
          refine j_get SS hG hP 0 (v := .ref (q 5)) (C := RX12) (T := TX12) (N := 31) rfl rfl inX12 5 (by decide) (ref := RX12) kw_1063 rfl rfl dX12_goOn_171 ?_
          refine lv_iload_n SS.1 SS.2.1 dX12_goOn_174 rfl (lv_at hl 1 rfl) ?_
          refine j_iald SS hG hP 6 (n := 640) (f := (u.1 5)) rfl (z := i) (by omega) (by omega) dX12_goOn_175 ?_
          refine j_iast SS hG hP (mW_D hD) hS 8 (n := 1300) (f := (u.1 8)) rfl (z := h) (v := ((u.1 5) (i).toNat)) (by omega) (by omega) dX12_goOn_176 (ws' := (mW D o q (uV (uI (uI u 7 (upI (u.1 7) (h).toNat ((u.1 4) (i).toNat))) 8 (upI (u.1 8) (h).toNat ((u.1 5) (i).toNat))) 9 h))) rfl (fun H locs hP hS => ?_)
          refine lv_aload_n SS.1 SS.2.1 dX12_goOn_177 rfl (lv_at hl 0 rfl) ?_
          refine lv_dup SS.1 SS.2.1 dX12_goOn_178 rfl ?_
          refine j_get SS hG hP 0 (v := .int (J h)) (C := RX12) (T := TX12) (N := 31) rfl rfl inX12 9 (by decide) (ref := RX12) kw_1067 rfl rfl dX12_goOn_179 ?_
          refine j_iconst SS dX12_goOn_182 ?_
          refine j_iadd SS (x := h) (y := 1) dX12_goOn_183 ?_
          refine j_put SS hG hP (mW_D hD) hS 0 (v := .int (J (h + 1))) (ty := .int) (C := RX12) (T := TX12) (N := 31) rfl rfl inX12 tyX12 tyX12_ok nmX12 9 (by decide) (ref := RX12) kw_1067 rfl rfl (by decide +kernel) rfl rfl (Nat.le_of_ble_eq_true rfl) dX12_goOn_184 (ws' := (mW D o q (uV (uI (uI u 7 (upI (u.1 7) (h).toNat ((u.1 4) (i).toNat))) 8 (upI (u.1 8) (h).toNat ((u.1 5) (i).toNat))) 9 (h + 1)))) rfl (fun H locs hP hS => ?_)
          exact W.vret SS.1 SS.2.1 hr (fun t ht hW => ⟨⟨(uV (uI (uI u 7 (upI (u.1 7) (h).toNat ((u.1 4) (i).toNat))) 8 (upI (u.1 8) (h).toNat ((u.1 5) (i).toNat))) 9 (h + 1)), rfl, (⟨(upI (u.1 7) (h).toNat ((u.1 4) (i).toNat)), (upI (u.1 8) (h).toNat ((u.1 5) (i).toNat)), (h + 1), h, rfl, ⟨rfl, by omega, by omega, by omega, rfl, rfl, lft_put (by omega) (by omega) (lft_le p5 (by omega)) (by first | (rcases i2_1 with h | h; omega; exact h.2) | exact Or.inl (by omega)), i2_2, by first | exact Or.inl (by omega) | (rcases i2_1 with h9 | h9; omega; rcases h9.2 with h8 | h8; exact Or.inl (by omega); refine Or.inr ?_; rw [show h.toNat - 1 = (h - 1).toNat by omega, show h.toNat - 2 = (h - 2).toNat by omega]; unfold cx; exact h8)⟩⟩), by show va_P D.1 j_cl (mW D o q (uV (uI (uI u 7 (upI (u.1 7) (h).toNat ((u.1 4) (i).toNat))) 8 (upI (u.1 8) (h).toNat ((u.1 5) (i).toNat))) 9 (h + 1))) t.heap; rw [ht]; exact hP⟩, hS.F ht⟩) hS.2.2 dX12_goOn_187 hlk
        · skip
          have q1 := bd_at p4 (z := h - 1) (by omega) (by omega)
          have q2 := bd_at p4 (z := h - 2) (by omega) (by omega)
          refine lv_aload_n SS.1 SS.2.1 dX12_goOn_16 rfl (lv_at hl 0 rfl) ?_
          refine j_get SS hG hP 0 (v := .ref (q 7)) (C := RX12) (T := TX12) (N := 31) rfl rfl inX12 7 (by decide) (ref := RX12) kw_1065 rfl rfl dX12_goOn_17 ?_
          refine lv_aload_n SS.1 SS.2.1 dX12_goOn_20 rfl (lv_at hl 0 rfl) ?_
          refine j_get SS hG hP 0 (v := .int (J h)) (C := RX12) (T := TX12) (N := 31) rfl rfl inX12 9 (by decide) (ref := RX12) kw_1067 rfl rfl dX12_goOn_21 ?_
          refine j_iconst SS dX12_goOn_24 ?_
          refine j_isub SS (x := h) (y := 1) dX12_goOn_25 ?_
          refine j_iald SS hG hP 7 (n := 1300) (f := (u.1 7)) rfl (z := (h - 1)) (by omega) (by omega) dX12_goOn_26 ?_
          refine lv_aload_n SS.1 SS.2.1 dX12_goOn_27 rfl (lv_at hl 0 rfl) ?_
          refine j_get SS hG hP 0 (v := .ref (q 7)) (C := RX12) (T := TX12) (N := 31) rfl rfl inX12 7 (by decide) (ref := RX12) kw_1065 rfl rfl dX12_goOn_28 ?_
          refine lv_aload_n SS.1 SS.2.1 dX12_goOn_31 rfl (lv_at hl 0 rfl) ?_
          refine j_get SS hG hP 0 (v := .int (J h)) (C := RX12) (T := TX12) (N := 31) rfl rfl inX12 9 (by decide) (ref := RX12) kw_1067 rfl rfl dX12_goOn_32 ?_
          refine j_iconst SS dX12_goOn_35 ?_
          refine j_isub SS (x := h) (y := 2) dX12_goOn_36 ?_
          refine j_iald SS hG hP 7 (n := 1300) (f := (u.1 7)) rfl (z := (h - 2)) (by omega) (by omega) dX12_goOn_37 ?_
          refine j_isub SS (x := ((u.1 7) ((h - 1)).toNat)) (y := ((u.1 7) ((h - 2)).toNat)) dX12_goOn_38 ?_
          obtain ⟨ax, eax⟩ : ∃ z : Int, z = (((u.1 7) ((h - 1)).toNat) - ((u.1 7) ((h - 2)).toNat)) := ⟨_, rfl⟩
          rw [← eax]
          refine lv_istore (lv' := [(4, .int (J ax)), (0, .ref o), (1, .int (J i)), (2, .int (J b)), (3, .int (J t))]) SS.1 SS.2.1 dX12_goOn_39 hl (by decide) rfl (fun ls hl => ?_)
          refine lv_aload_n SS.1 SS.2.1 dX12_goOn_41 rfl (lv_at hl 1 rfl) ?_
          refine j_get SS hG hP 0 (v := .ref (q 8)) (C := RX12) (T := TX12) (N := 31) rfl rfl inX12 8 (by decide) (ref := RX12) kw_1066 rfl rfl dX12_goOn_42 ?_
          refine lv_aload_n SS.1 SS.2.1 dX12_goOn_45 rfl (lv_at hl 1 rfl) ?_
          refine j_get SS hG hP 0 (v := .int (J h)) (C := RX12) (T := TX12) (N := 31) rfl rfl inX12 9 (by decide) (ref := RX12) kw_1067 rfl rfl dX12_goOn_46 ?_
          refine j_iconst SS dX12_goOn_49 ?_
          refine j_isub SS (x := h) (y := 1) dX12_goOn_50 ?_
          refine j_iald SS hG hP 8 (n := 1300) (f := (u.1 8)) rfl (z := (h - 1)) (by omega) (by omega) dX12_goOn_51 ?_
          refine lv_aload_n SS.1 SS.2.1 dX12_goOn_52 rfl (lv_at hl 1 rfl) ?_
          refine j_get SS hG hP 0 (v := .ref (q 8)) (C := RX12) (T := TX12) (N := 31) rfl rfl inX12 8 (by decide) (ref := RX12) kw_1066 rfl rfl dX12_goOn_53 ?_
          refine lv_aload_n SS.1 SS.2.1 dX12_goOn_56 rfl (lv_at hl 1 rfl) ?_
          refine j_get SS hG hP 0 (v := .int (J h)) (C := RX12) (T := TX12) (N := 31) rfl rfl inX12 9 (by decide) (ref := RX12) kw_1067 rfl rfl dX12_goOn_57 ?_
          refine j_iconst SS dX12_goOn_60 ?_
          refine j_isub SS (x := h) (y := 2) dX12_goOn_61 ?_
          refine j_iald SS hG hP 8 (n := 1300) (f := (u.1 8)) rfl (z := (h - 2)) (by omega) (by omega) dX12_goOn_62 ?_
          refine j_isub SS (x := ((u.1 8) ((h - 1)).toNat)) (y := ((u.1 8) ((h - 2)).toNat)) dX12_goOn_63 ?_
          obtain ⟨ay, eay⟩ : ∃ z : Int, z = (((u.1 8) ((h - 1)).toNat) - ((u.1 8) ((h - 2)).toNat)) := ⟨_, rfl⟩
          rw [← eay]
          refine lv_istore (lv' := [(5, .int (J ay)), (4, .int (J ax)), (0, .ref o), (1, .int (J i)), (2, .int (J b)), (3, .int (J t))]) SS.1 SS.2.1 dX12_goOn_64 hl (by decide) rfl (fun ls hl => ?_)
          refine lv_aload_n SS.1 SS.2.1 dX12_goOn_66 rfl (lv_at hl 2 rfl) ?_
          refine j_get SS hG hP 0 (v := .ref (q 4)) (C := RX12) (T := TX12) (N := 31) rfl rfl inX12 4 (by decide) (ref := RX12) kw_1062 rfl rfl dX12_goOn_67 ?_
          refine lv_iload_n SS.1 SS.2.1 dX12_goOn_70 rfl (lv_at hl 3 rfl) ?_
          refine j_iald SS hG hP 5 (n := 640) (f := (u.1 4)) rfl (z := i) (by omega) (by omega) dX12_goOn_71 ?_
          refine lv_aload_n SS.1 SS.2.1 dX12_goOn_72 rfl (lv_at hl 2 rfl) ?_
          refine j_get SS hG hP 0 (v := .ref (q 7)) (C := RX12) (T := TX12) (N := 31) rfl rfl inX12 7 (by decide) (ref := RX12) kw_1065 rfl rfl dX12_goOn_73 ?_
          refine lv_aload_n SS.1 SS.2.1 dX12_goOn_76 rfl (lv_at hl 2 rfl) ?_
          refine j_get SS hG hP 0 (v := .int (J h)) (C := RX12) (T := TX12) (N := 31) rfl rfl inX12 9 (by decide) (ref := RX12) kw_1067 rfl rfl dX12_goOn_77 ?_
          refine j_iconst SS dX12_goOn_80 ?_
          refine j_isub SS (x := h) (y := 2) dX12_goOn_81 ?_
          refine j_iald SS hG hP 7 (n := 1300) (f := (u.1 7)) rfl (z := (h - 2)) (by omega) (by omega) dX12_goOn_82 ?_
          refine j_isub SS (x := ((u.1 4) (i).toNat)) (y := ((u.1 7) ((h - 2)).toNat)) dX12_goOn_83 ?_
          obtain ⟨bx, ebx⟩ : ∃ z : Int, z = (((u.1 4) (i).toNat) - ((u.1 7) ((h - 2)).toNat)) := ⟨_, rfl⟩
          rw [← ebx]
          refine lv_istore (lv' := [(6, .int (J bx)), (5, .int (J ay)), (4, .int (J ax)), (0, .ref o), (1, .int (J i)), (2, .int (J b)), (3, .int (J t))]) SS.1 SS.2.1 dX12_goOn_84 hl (by decide) rfl (fun ls hl => ?_)
          refine lv_aload_n SS.1 SS.2.1 dX12_goOn_86 rfl (lv_at hl 3 rfl) ?_
          refine j_get SS hG hP 0 (v := .ref (q 5)) (C := RX12) (T := TX12) (N := 31) rfl rfl inX12 5 (by decide) (ref := RX12) kw_1063 rfl rfl dX12_goOn_87 ?_
          refine lv_iload_n SS.1 SS.2.1 dX12_goOn_90 rfl (lv_at hl 4 rfl) ?_
          refine j_iald SS hG hP 6 (n := 640) (f := (u.1 5)) rfl (z := i) (by omega) (by omega) dX12_goOn_91 ?_
          refine lv_aload_n SS.1 SS.2.1 dX12_goOn_92 rfl (lv_at hl 3 rfl) ?_
          refine j_get SS hG hP 0 (v := .ref (q 8)) (C := RX12) (T := TX12) (N := 31) rfl rfl inX12 8 (by decide) (ref := RX12) kw_1066 rfl rfl dX12_goOn_93 ?_
          refine lv_aload_n SS.1 SS.2.1 dX12_goOn_96 rfl (lv_at hl 3 rfl) ?_
          refine j_get SS hG hP 0 (v := .int (J h)) (C := RX12) (T := TX12) (N := 31) rfl rfl inX12 9 (by decide) (ref := RX12) kw_1067 rfl rfl dX12_goOn_97 ?_
          refine j_iconst SS dX12_goOn_100 ?_
          refine j_isub SS (x := h) (y := 2) dX12_goOn_101 ?_
          refine j_iald SS hG hP 8 (n := 1300) (f := (u.1 8)) rfl (z := (h - 2)) (by omega) (by omega) dX12_goOn_102 ?_
          refine j_isub SS (x := ((u.1 5) (i).toNat)) (y := ((u.1 8) ((h - 2)).toNat)) dX12_goOn_103 ?_
          obtain ⟨by4, eby4⟩ : ∃ z : Int, z = (((u.1 5) (i).toNat) - ((u.1 8) ((h - 2)).toNat)) := ⟨_, rfl⟩
          rw [← eby4]
          refine lv_istore (lv' := [(7, .int (J by4)), (6, .int (J bx)), (5, .int (J ay)), (4, .int (J ax)), (0, .ref o), (1, .int (J i)), (2, .int (J b)), (3, .int (J t))]) SS.1 SS.2.1 dX12_goOn_104 hl (by decide) rfl (fun ls hl => ?_)
          refine lv_iload SS.1 SS.2.1 dX12_goOn_106 (lv_at hl 3 rfl) ?_
          refine lv_iload SS.1 SS.2.1 dX12_goOn_108 (lv_at hl 0 rfl) ?_
          refine j_imul SS (x := ax) (y := by4) dX12_goOn_110 ?_
          refine lv_iload SS.1 SS.2.1 dX12_goOn_111 (lv_at hl 2 rfl) ?_
          refine lv_iload SS.1 SS.2.1 dX12_goOn_113 (lv_at hl 1 rfl) ?_
          refine j_imul SS (x := ay) (y := bx) dX12_goOn_115 ?_
          refine j_isub SS (x := (ax * by4)) (y := (ay * bx)) dX12_goOn_116 ?_
          have m1 := mulb (A := 20000) (B := 20000) (a := ax) (b := by4) (by omega) (by omega)
          have m2 := mulb (A := 20000) (B := 20000) (a := ay) (b := bx) (by omega) (by omega)
          refine j_if_gt SS (tgt := 124) (x := ((ax * by4) - (ay * bx))) dX12_goOn_117 (by decide) (by omega) (fun c_117 => ?_) (fun c_117 => ?_)
          · skip
            refine j_iconst SS dX12_goOn_124 ?_
            refine lv_istore_n (lv' := [(3, .int (J 0)), (7, .int (J by4)), (6, .int (J bx)), (5, .int (J ay)), (4, .int (J ax)), (0, .ref o), (1, .int (J i)), (2, .int (J b))]) SS.1 SS.2.1 dX12_goOn_125 rfl hl (by decide) rfl (fun ls hl => ?_)
            refine lv_aload_n SS.1 SS.2.1 dX12_goOn_126 rfl (lv_at hl 5 rfl) ?_
            refine lv_dup SS.1 SS.2.1 dX12_goOn_127 rfl ?_
            refine j_get SS hG hP 0 (v := .int (J h)) (C := RX12) (T := TX12) (N := 31) rfl rfl inX12 9 (by decide) (ref := RX12) kw_1067 rfl rfl dX12_goOn_128 ?_
            refine lv_iload_n SS.1 SS.2.1 dX12_goOn_131 rfl (lv_at hl 0 rfl) ?_
            refine j_if_eq SS (tgt := 139) dX12_goOn_132 (by decide) (by decide) (fun c_132 => ?_) (fun c_132 => absurd c_132 (by decide))
            refine j_iconst SS dX12_goOn_139 ?_
            refine j_isub SS (x := h) (y := 0) dX12_goOn_140 ?_
            refine j_put SS hG hP (mW_D hD) hS 0 (v := .int (J (h - 0))) (ty := .int) (C := RX12) (T := TX12) (N := 31) rfl rfl inX12 tyX12 tyX12_ok nmX12 9 (by decide) (ref := RX12) kw_1067 rfl rfl (by decide +kernel) rfl rfl (Nat.le_of_ble_eq_true rfl) dX12_goOn_141 (ws' := (mW D o q (uV u 9 (h - 0)))) rfl (fun H locs hP hS => ?_)
            refine lv_goto (tgt := 2) SS.1 SS.2.1 dX12_goOn_144 (by decide) ?_
            exact ih_2 0 (h - 0) _ _ hP hS ls (lv_sub hl [5, 6, 7, 0] rfl) (by omega) (by first | exact Or.inl rfl | exact Or.inr ⟨rfl, Or.inr (by rw [eax, eay, ebx, eby4] at c_117; rw [show h - 0 = h by omega]; exact c_117)⟩) (by first | exact (fun j h1 h2 => i2_2 j (by omega) h2) | exact (fun j h1 h2 => by by_cases e : (j : Int) = h - 1; (rw [show j - 1 = (h - 2).toNat by omega, show j = (h - 1).toNat by omega]; unfold cx; rw [eax, eay, ebx, eby4] at c_117; exact c_117); exact i2_2 j (by omega) h2)) (by omega)
          · skip
            refine j_iconst SS dX12_goOn_120 ?_
            refine lv_goto (tgt := 125) SS.1 SS.2.1 dX12_goOn_121 (by decide) ?_
            refine lv_istore_n (lv' := [(3, .int (J 1)), (7, .int (J by4)), (6, .int (J bx)), (5, .int (J ay)), (4, .int (J ax)), (0, .ref o), (1, .int (J i)), (2, .int (J b))]) SS.1 SS.2.1 dX12_goOn_125 rfl hl (by decide) rfl (fun ls hl => ?_)
            refine lv_aload_n SS.1 SS.2.1 dX12_goOn_126 rfl (lv_at hl 5 rfl) ?_
            refine lv_dup SS.1 SS.2.1 dX12_goOn_127 rfl ?_
            refine j_get SS hG hP 0 (v := .int (J h)) (C := RX12) (T := TX12) (N := 31) rfl rfl inX12 9 (by decide) (ref := RX12) kw_1067 rfl rfl dX12_goOn_128 ?_
            refine lv_iload_n SS.1 SS.2.1 dX12_goOn_131 rfl (lv_at hl 0 rfl) ?_
            refine j_if_eq SS (tgt := 139) dX12_goOn_132 (by decide) (by decide) (fun c_132 => absurd c_132 (by decide)) (fun c_132 => ?_)
            refine j_iconst SS dX12_goOn_135 ?_
            refine lv_goto (tgt := 140) SS.1 SS.2.1 dX12_goOn_136 (by decide) ?_
            refine j_isub SS (x := h) (y := 1) dX12_goOn_140 ?_
            refine j_put SS hG hP (mW_D hD) hS 0 (v := .int (J (h - 1))) (ty := .int) (C := RX12) (T := TX12) (N := 31) rfl rfl inX12 tyX12 tyX12_ok nmX12 9 (by decide) (ref := RX12) kw_1067 rfl rfl (by decide +kernel) rfl rfl (Nat.le_of_ble_eq_true rfl) dX12_goOn_141 (ws' := (mW D o q (uV u 9 (h - 1)))) rfl (fun H locs hP hS => ?_)
            refine lv_goto (tgt := 2) SS.1 SS.2.1 dX12_goOn_144 (by decide) ?_
            exact ih_2 1 (h - 1) _ _ hP hS ls (lv_sub hl [5, 6, 7, 0] rfl) (by omega) (by first | exact Or.inl rfl | exact Or.inr ⟨rfl, Or.inr (by rw [eax, eay, ebx, eby4] at c_117; rw [show h - 0 = h by omega]; exact c_117)⟩) (by first | exact (fun j h1 h2 => i2_2 j (by omega) h2) | exact (fun j h1 h2 => by by_cases e : (j : Int) = h - 1; (rw [show j - 1 = (h - 2).toNat by omega, show j = (h - 1).toNat by omega]; unfold cx; rw [eax, eay, ebx, eby4] at c_117; exact c_117); exact i2_2 j (by omega) h2)) (by omega)
  exact L_2 ((2 * ((u.2.2 9) - b) + (1 : Int)).toNat + 1) 1 (u.2.2 9) _ _ hP hS ls (lv_sub hl [1, 2, 3, 0] rfl) (by omega) (Or.inl rfl) (fun j h1 h2 => by omega) (Nat.lt_succ_self _)

set_option maxHeartbeats 4000000 in
set_option maxRecDepth 100000 in
theorem c_X12_findHull2 (l : Launch) (D : JD) (o : Nat) (q : Nat → Nat) (u : MS) (A : Nat → Prop) (hD : va_D A (mW D o q u)) (p0 : 0 ≤ u.2.2 6 ∧ u.2.2 6 ≤ 640) (p1 : bd 10000 (u.1 4) (u.1 5) (u.2.2 6)) : Met l yX12_findHull (jw yX12_findHull cX12_findHull 3 none) (jr 2 46) (jP [.ref o] D (fun H => va_P D.1 j_cl (mW D o q u) H)) (jWv (fun u' => ∃ f : Nat → Int, ∃ g : Nat → Int, ∃ w : Int, ∃ X : Nat → Int, ∃ Y : Nat → Int, ∃ nh : Int, u' = (uV (uI (uI (uV (uI (uI u 4 f) 5 g) 6 w) 7 X) 8 Y) 9 nh) ∧ (0 ≤ nh ∧ nh ≤ 1290 ∧ Ch nh X Y ∧ (0 < u.2.2 6 → 0 < nh) ∧ bd 10000 X Y nh ∧ (∀ K : Int, bd K (u.1 4) (u.1 5) (u.2.2 6) → bd K X Y nh) ∧ HS (SWW (u.1 4) (u.1 5) (u.2.2 6)) nh X Y)) (fun u' H => va_P D.1 j_cl (mW D o q u') H) A) 0 0 A := by
  refine Met.ofW (cc := cX12_findHull) (maxL := 3) (ret := none) (by decide) rfl ?_
  intro pr en st mi args below meth co s₁ B hml hv
  obtain ⟨rfl, hG, hP⟩ := hv
  have hr := B.returns
  have hlk := B.notSynchronized
  have SS : jS pr mi co cX12_findHull 3 st _ RX12 := ⟨B.exec, B.bytes, hml, findClass_of_methodNamed B.named, fun w hw => atoms_spec (ws := (jw yX12_findHull cX12_findHull 3 none)) B.pre w (List.mem_cons_of_mem _ hw)⟩
  have hl := lv_entry ([.ref o]) (n := 3) (Nat.le_of_ble_eq_true rfl)
  rw [lg_entry_eq]
  generalize (lg_sl ([.ref o]) ++ List.replicate (3 - (lg_sl ([.ref o])).length) Slot.unset).toArray = ls at hl ⊢
  have hl : lv_has ls 3 [(0, .ref o)] := hl
  have hS : va_S A st.heap st.heap [] := va_S.rf
  refine lv_aload_n SS.1 SS.2.1 dX12_findHull_0 rfl (lv_at hl 0 rfl) ?_
  refine j_vWv SS (As := []) (rest := []) (c_X12_order2 l D o q u A (mW_D hD)  (show 0 ≤ (u.2.2 6) ∧ (u.2.2 6) ≤ 640 from (by omega)) (show bd 10000 ((u.1 4)) ((u.1 5)) ((u.2.2 6)) from (p1))) mf_X12_order kw_1193 hG hP hP (ci := 8) (q0 := 0) rfl rfl rfl hS (fun _ h => h) rfl hl.1 ⟨⟨Nat.le_of_ble_eq_true rfl, Nat.le_of_ble_eq_true rfl⟩, Nat.le_of_ble_eq_true rfl, Nat.le_refl _, Nat.le_refl _⟩ rfl dX12_findHull_1 (fun u1 H locs h_1 hP _ hS => ?_)
  obtain ⟨f_1, g_1, w_1, rfl, h_1⟩ := h_1
  have hP : va_P D.1 j_cl (mW D o q (uV (uI (uI u 4 f_1) 5 g_1) 6 w_1)) H := hP
  have h_1 : 0 ≤ w_1 ∧ w_1 ≤ (u.2.2 6) ∧ (0 < (u.2.2 6) → 0 < w_1) ∧ os_s f_1 g_1 w_1 ∧ bd 10000 f_1 g_1 w_1 ∧ (∀ K : Int, bd K ((u.1 4)) ((u.1 5)) ((u.2.2 6)) → bd K f_1 g_1 w_1) ∧ ∀ x y : Int, SWW f_1 g_1 w_1 x y ↔ SWW ((u.1 4)) ((u.1 5)) ((u.2.2 6)) x y := h_1
  obtain ⟨hw1, hw2, hwp, hw3, hwb, hwK, hwS⟩ := h_1
  refine lv_aload_n SS.1 SS.2.1 dX12_findHull_4 rfl (lv_at hl 0 rfl) ?_
  refine j_iconst SS dX12_findHull_5 ?_
  refine j_put SS hG hP (mW_D hD) hS 0 (v := .int (J 0)) (ty := .int) (C := RX12) (T := TX12) (N := 31) rfl rfl inX12 tyX12 tyX12_ok nmX12 9 (by decide) (ref := RX12) kw_1067 rfl rfl (by decide +kernel) rfl rfl (Nat.le_of_ble_eq_true rfl) dX12_findHull_6 (ws' := (mW D o q (uV (uV (uI (uI u 4 f_1) 5 g_1) 6 w_1) 9 0))) rfl (fun H locs hP hS => ?_)
  refine j_iconst SS dX12_findHull_9 ?_
  refine lv_istore_n (lv' := [(1, .int (J 0)), (0, .ref o)]) SS.1 SS.2.1 dX12_findHull_10 rfl hl (by decide) rfl (fun ls hl => ?_)
  have L_11 : ∀ (nn : Nat) (i : Int) (X : Nat → Int) (Y : Nat → Int) (h : Int) (H : Heap) (locs : List Loc) (hP : va_P D.1 j_cl (mW D o q (uV (uI (uI (uV (uI (uI u 4 f_1) 5 g_1) 6 w_1) 7 X) 8 Y) 9 h)) H) (hS : va_S A st.heap H locs) (ls : Array Slot) (hl : lv_has ls 3 [(0, .ref o), (1, .int (J i))]) (i11_0 : 0 ≤ i ∧ i ≤ w_1) (i11_1 : fl f_1 g_1 X Y i h) (i11_2 : bd 10000 X Y h) (i11_3 : 0 < i → chx (SWW f_1 g_1 i) X Y 0 h.toNat), (w_1 - i).toNat < nn → W pr l en (headSpec (jw yX12_findHull cX12_findHull 3 none) (jr 2 46)).room st mi (([.ref o] : List Value).toArray) below meth co H locs 0 0 (MQ below (jWv (fun u' => ∃ f : Nat → Int, ∃ g : Nat → Int, ∃ w : Int, ∃ X : Nat → Int, ∃ Y : Nat → Int, ∃ nh : Int, u' = (uV (uI (uI (uV (uI (uI u 4 f) 5 g) 6 w) 7 X) 8 Y) 9 nh) ∧ (0 ≤ nh ∧ nh ≤ 1290 ∧ Ch nh X Y ∧ (0 < u.2.2 6 → 0 < nh) ∧ bd 10000 X Y nh ∧ (∀ K : Int, bd K (u.1 4) (u.1 5) (u.2.2 6) → bd K X Y nh) ∧ HS (SWW (u.1 4) (u.1 5) (u.2.2 6)) nh X Y)) (fun u' H => va_P D.1 j_cl (mW D o q u') H) A) (([.ref o] : List Value).toArray) st 0 0 A) (F0 mi 11 ls []) := by
    intro nn
    induction nn with
    | zero => intros; omega
    | succ nn ih_11 =>
      intro i X Y h H locs hP hS ls hl i11_0 i11_1 i11_2 i11_3 hm
      have hf1 := i11_1.1
      have hf2 := i11_1.2.1
      refine lv_iload_n SS.1 SS.2.1 dX12_findHull_11 rfl (lv_at hl 1 rfl) ?_
      refine lv_aload_n SS.1 SS.2.1 dX12_findHull_12 rfl (lv_at hl 0 rfl) ?_
      refine j_get SS hG hP 0 (v := .int (J w_1)) (C := RX12) (T := TX12) (N := 31) rfl rfl inX12 6 (by decide) (ref := RX12) kw_1064 rfl rfl dX12_findHull_13 ?_
      refine j_icmp_ge SS (tgt := 31) (x := i) (y := w_1) dX12_findHull_16 (by decide) (by omega) (by omega) (fun c_16 => ?_) (fun c_16 => ?_)
      · skip
        have hh : 0 < w_1 → 0 < h := fun q => (i11_1.2.2.1 (by omega)).1
        have hh2 : 1 < w_1 → 1 < h := fun q => i11_1.2.2.2.1 (by omega)
        refine lv_aload_n SS.1 SS.2.1 dX12_findHull_31 rfl (lv_at hl 0 rfl) ?_
        refine j_get SS hG hP 0 (v := .int (J h)) (C := RX12) (T := TX12) (N := 31) rfl rfl inX12 9 (by decide) (ref := RX12) kw_1067 rfl rfl dX12_findHull_32 ?_
        refine j_iconst SS dX12_findHull_35 ?_
        refine j_isub SS (x := h) (y := 1) dX12_findHull_36 ?_
        refine lv_istore_n (lv' := [(1, .int (J (h - 1))), (0, .ref o)]) SS.1 SS.2.1 dX12_findHull_37 rfl hl (by decide) rfl (fun ls hl => ?_)
        refine lv_aload_n SS.1 SS.2.1 dX12_findHull_38 rfl (lv_at hl 1 rfl) ?_
        refine j_get SS hG hP 0 (v := .int (J w_1)) (C := RX12) (T := TX12) (N := 31) rfl rfl inX12 6 (by decide) (ref := RX12) kw_1064 rfl rfl dX12_findHull_39 ?_
        refine j_iconst SS dX12_findHull_42 ?_
        refine j_isub SS (x := w_1) (y := 2) dX12_findHull_43 ?_
        refine lv_istore_n (lv' := [(2, .int (J (w_1 - 2))), (1, .int (J (h - 1))), (0, .ref o)]) SS.1 SS.2.1 dX12_findHull_44 rfl hl (by decide) rfl (fun ls hl => ?_)
        have L_45 : ∀ (nn : Nat) (i2 : Int) (X2 : Nat → Int) (Y2 : Nat → Int) (h2 : Int) (H : Heap) (locs : List Loc) (hP : va_P D.1 j_cl (mW D o q (uV (uI (uI (uV (uI (uI u 4 f_1) 5 g_1) 6 w_1) 7 X2) 8 Y2) 9 h2)) H) (hS : va_S A st.heap H locs) (ls : Array Slot) (hl : lv_has ls 3 [(0, .ref o), (1, .int (J (h - 1))), (2, .int (J i2))]) (i45_0 : -1 ≤ i2 ∧ i2 ≤ w_1 - 2 ∧ 1 ≤ w_1 ∨ (w_1 = 0 ∧ h2 = 0 ∧ i2 = -2)) (i45_1 : 1 ≤ w_1 → fu f_1 g_1 X Y X2 Y2 (h - 1) w_1 i2 h2) (i45_2 : bd 10000 X2 Y2 h2) (i45_3 : 1 ≤ w_1 → chx (ngS (SU f_1 g_1 i2 w_1)) (ng X2) (ng Y2) (h - 1).toNat h2.toNat), (i2 + 2).toNat < nn → W pr l en (headSpec (jw yX12_findHull cX12_findHull 3 none) (jr 2 46)).room st mi (([.ref o] : List Value).toArray) below meth co H locs 0 0 (MQ below (jWv (fun u' => ∃ f : Nat → Int, ∃ g : Nat → Int, ∃ w : Int, ∃ X : Nat → Int, ∃ Y : Nat → Int, ∃ nh : Int, u' = (uV (uI (uI (uV (uI (uI u 4 f) 5 g) 6 w) 7 X) 8 Y) 9 nh) ∧ (0 ≤ nh ∧ nh ≤ 1290 ∧ Ch nh X Y ∧ (0 < u.2.2 6 → 0 < nh) ∧ bd 10000 X Y nh ∧ (∀ K : Int, bd K (u.1 4) (u.1 5) (u.2.2 6) → bd K X Y nh) ∧ HS (SWW (u.1 4) (u.1 5) (u.2.2 6)) nh X Y)) (fun u' H => va_P D.1 j_cl (mW D o q u') H) A) (([.ref o] : List Value).toArray) st 0 0 A) (F0 mi 45 ls []) := by
          intro nn
          induction nn with
          | zero => intros; omega
          | succ nn ih_45 =>
            intro i2 X2 Y2 h2 H locs hP hS ls hl i45_0 i45_1 i45_2 i45_3 hm
            refine lv_iload_n SS.1 SS.2.1 dX12_findHull_45 rfl (lv_at hl 2 rfl) ?_
            refine j_if_lt SS (tgt := 61) (x := i2) dX12_findHull_46 (by decide) (by omega) (fun c_46 => ?_) (fun c_46 => ?_)
            · skip
              have hq : 1 ≤ w_1 → h ≤ h2 ∧ h2 ≤ h + w_1 - i2 - 2 := fun q => ⟨by have := (i45_1 q).1; omega, by have := (i45_1 q).2.1; omega⟩
              refine lv_aload_n SS.1 SS.2.1 dX12_findHull_61 rfl (lv_at hl 0 rfl) ?_
              refine lv_dup SS.1 SS.2.1 dX12_findHull_62 rfl ?_
              refine j_get SS hG hP 0 (v := .int (J h2)) (C := RX12) (T := TX12) (N := 31) rfl rfl inX12 9 (by decide) (ref := RX12) kw_1067 rfl rfl dX12_findHull_63 ?_
              refine lv_aload_n SS.1 SS.2.1 dX12_findHull_66 rfl (lv_at hl 0 rfl) ?_
              refine j_get SS hG hP 0 (v := .int (J w_1)) (C := RX12) (T := TX12) (N := 31) rfl rfl inX12 6 (by decide) (ref := RX12) kw_1064 rfl rfl dX12_findHull_67 ?_
              refine j_iconst SS dX12_findHull_70 ?_
              refine j_icmp_le SS (tgt := 78) (x := w_1) (y := 1) dX12_findHull_71 (by decide) (by omega) (by decide) (fun c_71 => ?_) (fun c_71 => ?_)
              · skip
                refine j_iconst SS dX12_findHull_78 ?_
                refine j_isub SS (x := h2) (y := 0) dX12_findHull_79 ?_
                refine j_put SS hG hP (mW_D hD) hS 0 (v := .int (J (h2 - 0))) (ty := .int) (C := RX12) (T := TX12) (N := 31) rfl rfl inX12 tyX12 tyX12_ok nmX12 9 (by decide) (ref := RX12) kw_1067 rfl rfl (by decide +kernel) rfl rfl (Nat.le_of_ble_eq_true rfl) dX12_findHull_80 (ws' := (mW D o q (uV (uI (uI (uV (uI (uI u 4 f_1) 5 g_1) 6 w_1) 7 X2) 8 Y2) 9 (h2 - 0)))) rfl (fun H locs hP hS => ?_)
                exact W.vret SS.1 SS.2.1 hr (fun t ht hW => ⟨⟨(uV (uI (uI (uV (uI (uI u 4 f_1) 5 g_1) 6 w_1) 7 X2) 8 Y2) 9 (h2 - 0)), rfl, (⟨f_1, g_1, w_1, X2, Y2, (h2 - 0), rfl, ⟨by omega, by omega, by first | exact Or.inl (by omega) | exact fu_e (by omega) (by rw [show i = w_1 by omega] at i11_1; exact i11_1) (by omega) (i45_1 (by omega)), fun q => by omega, bd_le i45_2 (by omega), fun K hK => by rcases (show 1 ≤ w_1 ∨ w_1 = 0 by omega) with q | q; exact bd_le ((i45_1 q).2.2.2.2.2.2.2 K (hwK K hK)) (by omega); exact fun a ha => by omega, HS_c (hu_r (by omega) (by omega) (by rw [show i = w_1 by omega] at i11_1; exact i11_1) (by rw [show i = w_1 by omega] at i11_3; exact i11_3) i45_0 (by omega) i45_1 i45_3) hwS (fun a _ => ⟨rfl, rfl⟩)⟩⟩), by show va_P D.1 j_cl (mW D o q (uV (uI (uI (uV (uI (uI u 4 f_1) 5 g_1) 6 w_1) 7 X2) 8 Y2) 9 (h2 - 0))) t.heap; rw [ht]; exact hP⟩, hS.F ht⟩) hS.2.2 dX12_findHull_83 hlk
              · skip
                refine j_iconst SS dX12_findHull_74 ?_
                refine lv_goto (tgt := 79) SS.1 SS.2.1 dX12_findHull_75 (by decide) ?_
                refine j_isub SS (x := h2) (y := 1) dX12_findHull_79 ?_
                refine j_put SS hG hP (mW_D hD) hS 0 (v := .int (J (h2 - 1))) (ty := .int) (C := RX12) (T := TX12) (N := 31) rfl rfl inX12 tyX12 tyX12_ok nmX12 9 (by decide) (ref := RX12) kw_1067 rfl rfl (by decide +kernel) rfl rfl (Nat.le_of_ble_eq_true rfl) dX12_findHull_80 (ws' := (mW D o q (uV (uI (uI (uV (uI (uI u 4 f_1) 5 g_1) 6 w_1) 7 X2) 8 Y2) 9 (h2 - 1)))) rfl (fun H locs hP hS => ?_)
                exact W.vret SS.1 SS.2.1 hr (fun t ht hW => ⟨⟨(uV (uI (uI (uV (uI (uI u 4 f_1) 5 g_1) 6 w_1) 7 X2) 8 Y2) 9 (h2 - 1)), rfl, (⟨f_1, g_1, w_1, X2, Y2, (h2 - 1), rfl, ⟨by omega, by omega, by first | exact Or.inl (by omega) | exact fu_e (by omega) (by rw [show i = w_1 by omega] at i11_1; exact i11_1) (by omega) (i45_1 (by omega)), fun q => by omega, bd_le i45_2 (by omega), fun K hK => by rcases (show 1 ≤ w_1 ∨ w_1 = 0 by omega) with q | q; exact bd_le ((i45_1 q).2.2.2.2.2.2.2 K (hwK K hK)) (by omega); exact fun a ha => by omega, HS_c (hu_r (by omega) (by omega) (by rw [show i = w_1 by omega] at i11_1; exact i11_1) (by rw [show i = w_1 by omega] at i11_3; exact i11_3) i45_0 (by omega) i45_1 i45_3) hwS (fun a _ => ⟨rfl, rfl⟩)⟩⟩), by show va_P D.1 j_cl (mW D o q (uV (uI (uI (uV (uI (uI u 4 f_1) 5 g_1) 6 w_1) 7 X2) 8 Y2) 9 (h2 - 1))) t.heap; rw [ht]; exact hP⟩, hS.F ht⟩) hS.2.2 dX12_findHull_83 hlk
            · skip
              have hb := fun (j : Int) => bd_at hwb (z := i2) (by omega) (by omega)
              have hw : 1 ≤ w_1 := by omega
              have hfu := i45_1 hw
              have hfu1 := hfu.1
              have hfu2 := hfu.2.1
              refine lv_aload_n SS.1 SS.2.1 dX12_findHull_49 rfl (lv_at hl 0 rfl) ?_
              refine lv_iload_n SS.1 SS.2.1 dX12_findHull_50 rfl (lv_at hl 2 rfl) ?_
              refine lv_iload_n SS.1 SS.2.1 dX12_findHull_51 rfl (lv_at hl 1 rfl) ?_
              refine j_vWv SS (As := [.int (J i2), .int (J (h - 1))]) (rest := []) (c_X12_goOn2 l D o q (uV (uI (uI (uV (uI (uI u 4 f_1) 5 g_1) 6 w_1) 7 X2) 8 Y2) 9 h2) A (mW_D hD) i2 (h - 1) (show 0 ≤ i2 ∧ i2 < 640 from (by omega)) (show 0 ≤ (h - 1) ∧ (h - 1) ≤ h2 ∧ h2 < 1300 from (by omega)) (show -10000 ≤ f_1 i2.toNat ∧ f_1 i2.toNat ≤ 10000 from ((hb i2).1)) (show -10000 ≤ g_1 i2.toNat ∧ g_1 i2.toNat ≤ 10000 from ((hb i2).2)) (show bd 10000 (X2) (Y2) (h2) from (i45_2)) (show lft (X2) (Y2) (h - 1) (h2) from (hfu.2.2.2.2.2.1))) mf_X12_goOn kw_1201 hG hP hP (ci := 8) (q0 := 0) rfl rfl rfl hS (fun _ h => h) rfl hl.1 ⟨⟨Nat.le_of_ble_eq_true rfl, Nat.le_of_ble_eq_true rfl⟩, Nat.le_of_ble_eq_true rfl, Nat.le_refl _, Nat.le_refl _⟩ rfl dX12_findHull_52 (fun u52 H locs h_52 hP _ hS => ?_)
              obtain ⟨f_52, g_52, w_52, v_52, rfl, h_52⟩ := h_52
              have hP : va_P D.1 j_cl (mW D o q (uV (uI (uI (uV (uI (uI u 4 f_1) 5 g_1) 6 w_1) 7 f_52) 8 g_52) 9 w_52)) H := hP
              have h_52 : w_52 = v_52 + 1 ∧ (h - 1) ≤ v_52 ∧ v_52 ≤ h2 ∧ ((h - 1) < h2 → (h - 1) < v_52) ∧ f_52 = upI (X2) v_52.toNat (f_1 i2.toNat) ∧ g_52 = upI (Y2) v_52.toNat (g_1 i2.toNat) ∧ lft f_52 g_52 (h - 1) w_52 ∧ (∀ j : Nat, v_52 ≤ j → (j : Int) < h2 → cx (X2 j - X2 (j - 1)) (Y2 j - Y2 (j - 1)) (f_1 i2.toNat - X2 (j - 1)) (g_1 i2.toNat - Y2 (j - 1)) ≤ 0) ∧ (v_52 ≤ (h - 1) + 1 ∨ 0 < cx (X2 (v_52.toNat - 1) - X2 (v_52.toNat - 2)) (Y2 (v_52.toNat - 1) - Y2 (v_52.toNat - 2)) (f_1 i2.toNat - X2 (v_52.toNat - 2)) (g_1 i2.toNat - Y2 (v_52.toNat - 2))) := h_52
              refine lv_iinc (v := J (i2 + (-1))) (lv' := [(2, .int (J (i2 + (-1)))), (0, .ref o), (1, .int (J (h - 1)))]) SS.1 SS.2.1 dX12_findHull_55 hl (k := 2) rfl (J_add _ _) (by decide) rfl (fun ls hl => ?_)
              refine lv_goto (tgt := 45) SS.1 SS.2.1 dX12_findHull_58 (by decide) ?_
              exact ih_45 (i2 + (-1)) f_52 g_52 w_52 _ _ hP hS ls (lv_sub hl [1, 2, 0] rfl) (by omega) (fun hw => by obtain ⟨rfl, k1, k2, k3, rfl, rfl, k4, k5, k6⟩ := h_52; exact fu_s (by omega) hw3 (by omega) (by omega) (i45_1 hw) k1 k2 (k3 (by omega)) k4) (by obtain ⟨rfl, k1, k2, k3, rfl, rfl, k4, k5, k6⟩ := h_52; exact bd_put (by omega) (bd_le i45_2 k2) (hb i2).1 (hb i2).2) (fun hw => by obtain ⟨rfl, k1, k2, k3, rfl, rfl, k4, k5, k6⟩ := h_52; exact cu_s (by omega) hw3 (by omega) (by omega) (i45_1 hw) (i45_3 hw) k1 k2 (k3 (by omega)) k5 k6) (by omega)
        exact L_45 (((w_1 - 2) + 2).toNat + 1) (w_1 - 2) X Y h _ _ hP hS ls (lv_sub hl [2, 1, 0] rfl) (by omega) (fun hw => fu_0 hw (by rw [show i = w_1 by omega] at i11_1; exact i11_1)) (i11_2) (fun hw => cu_0 hw (by rw [show i = w_1 by omega] at i11_1; exact i11_1)) (Nat.lt_succ_self _)
      · skip
        have hb : ∀ i : Int, 0 ≤ i → i < w_1 → (-10000 ≤ f_1 i.toNat ∧ f_1 i.toNat ≤ 10000) ∧ (-10000 ≤ g_1 i.toNat ∧ g_1 i.toNat ≤ 10000) := fun i h1 h2 => bd_at hwb h1 h2
        have hb := fun (j : Int) => hb i (by omega) (by omega)
        refine lv_aload_n SS.1 SS.2.1 dX12_findHull_19 rfl (lv_at hl 0 rfl) ?_
        refine lv_iload_n SS.1 SS.2.1 dX12_findHull_20 rfl (lv_at hl 1 rfl) ?_
        refine j_iconst SS dX12_findHull_21 ?_
        refine j_vWv SS (As := [.int (J i), .int (J 0)]) (rest := []) (c_X12_goOn2 l D o q (uV (uI (uI (uV (uI (uI u 4 f_1) 5 g_1) 6 w_1) 7 X) 8 Y) 9 h) A (mW_D hD) i 0 (show 0 ≤ i ∧ i < 640 from (by omega)) (show 0 ≤ (0 : Int) ∧ (0 : Int) ≤ h ∧ h < 1300 from (by omega)) (show -10000 ≤ f_1 i.toNat ∧ f_1 i.toNat ≤ 10000 from ((hb i).1)) (show -10000 ≤ g_1 i.toNat ∧ g_1 i.toNat ≤ 10000 from ((hb i).2)) (show bd 10000 (X) (Y) (h) from (i11_2)) (show lft (X) (Y) (0 : Int) (h) from (i11_1.2.2.2.2.1))) mf_X12_goOn kw_1201 hG hP hP (ci := 8) (q0 := 0) rfl rfl rfl hS (fun _ h => h) rfl hl.1 ⟨⟨Nat.le_of_ble_eq_true rfl, Nat.le_of_ble_eq_true rfl⟩, Nat.le_of_ble_eq_true rfl, Nat.le_refl _, Nat.le_refl _⟩ rfl dX12_findHull_22 (fun u22 H locs h_22 hP _ hS => ?_)
        obtain ⟨f_22, g_22, w_22, v_22, rfl, h_22⟩ := h_22
        have hP : va_P D.1 j_cl (mW D o q (uV (uI (uI (uV (uI (uI u 4 f_1) 5 g_1) 6 w_1) 7 f_22) 8 g_22) 9 w_22)) H := hP
        have h_22 : w_22 = v_22 + 1 ∧ (0 : Int) ≤ v_22 ∧ v_22 ≤ h ∧ ((0 : Int) < h → (0 : Int) < v_22) ∧ f_22 = upI (X) v_22.toNat (f_1 i.toNat) ∧ g_22 = upI (Y) v_22.toNat (g_1 i.toNat) ∧ lft f_22 g_22 (0 : Int) w_22 ∧ (∀ j : Nat, v_22 ≤ j → (j : Int) < h → cx (X j - X (j - 1)) (Y j - Y (j - 1)) (f_1 i.toNat - X (j - 1)) (g_1 i.toNat - Y (j - 1)) ≤ 0) ∧ (v_22 ≤ (0 : Int) + 1 ∨ 0 < cx (X (v_22.toNat - 1) - X (v_22.toNat - 2)) (Y (v_22.toNat - 1) - Y (v_22.toNat - 2)) (f_1 i.toNat - X (v_22.toNat - 2)) (g_1 i.toNat - Y (v_22.toNat - 2))) := h_22
        refine lv_iinc (v := J (i + 1)) (lv' := [(1, .int (J (i + 1))), (0, .ref o)]) SS.1 SS.2.1 dX12_findHull_25 hl (k := 1) rfl (J_add _ _) (by decide) rfl (fun ls hl => ?_)
        refine lv_goto (tgt := 11) SS.1 SS.2.1 dX12_findHull_28 (by decide) ?_
        exact ih_11 (i + 1) f_22 g_22 w_22 _ _ hP hS ls (lv_sub hl [1, 0] rfl) (by omega) (by obtain ⟨rfl, k1, k2, k3, rfl, rfl, k4, k5, k6⟩ := h_22; exact fl_s hw3 (by omega) (by omega) i11_1 k1 k2 k3 k4) (by obtain ⟨rfl, k1, k2, k3, rfl, rfl, k4, k5, k6⟩ := h_22; exact bd_put k1 (bd_le i11_2 k2) (hb i).1 (hb i).2) (fun _ => by obtain ⟨rfl, k1, k2, k3, rfl, rfl, k4, k5, k6⟩ := h_22; exact cl_s hw3 (by omega) (by omega) i11_1 i11_3 k1 k2 k3 k5 (by rcases k6 with q | q; exact Or.inl (by omega); exact Or.inr q)) (by omega)
  exact L_11 ((w_1 - (0 : Int)).toNat + 1) 0 (u.1 7) (u.1 8) 0 _ _ hP hS ls (lv_sub hl [1, 0] rfl) (by omega) (fl_0) (fun a ha => by omega) (fun q => absurd q (by omega)) (Nat.lt_succ_self _)

