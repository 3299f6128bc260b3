
/-- the first w points -/
def SWW (f g : Nat → Int) (w : Int) : Int → Int → Prop := fun x y => ∃ a : Nat, (a : Int) < w ∧ x = f a ∧ y = g a
theorem SWW_put {f g : Nat → Int} {w x0 y0 : Int} (h : 0 ≤ w) (x y : Int) : SWW (upI f w.toNat x0) (upI g w.toNat y0) (w + 1) x y ↔ SWW f g w x y ∨ (x = x0 ∧ y = y0) := by
  constructor
  · rintro ⟨a, h1, h2, h3⟩
    by_cases e : (a : Int) = w
    · rw [show a = w.toNat by omega, upI_s] at h2 h3
      exact Or.inr ⟨h2, h3⟩
    · rw [upI_n (by omega)] at h2 h3
      exact Or.inl ⟨a, by omega, h2, h3⟩
  · rintro (⟨a, h1, h2, h3⟩ | ⟨h2, h3⟩)
    · exact ⟨a, by omega, by rw [upI_n (by omega)]; exact h2, by rw [upI_n (by omega)]; exact h3⟩
    · exact ⟨w.toNat, by omega, by rw [upI_s]; exact h2, by rw [upI_s]; exact h3⟩
theorem SWW_swap {f g : Nat → Int} {w : Int} {j k : Nat} (hj : (j : Int) < w) (hk : (k : Int) < w) (hjk : j ≠ k) (x y : Int) : SWW (upI (upI f j (f k)) k (f j)) (upI (upI g j (g k)) k (g j)) w x y ↔ SWW f g w x y := by
  have s0 : ∀ (p : Nat → Int), upI (upI p j (p k)) k (p j) k = p j := fun p => upI_s
  have s1 : ∀ (p : Nat → Int), upI (upI p j (p k)) k (p j) j = p k := fun p => by rw [upI_n hjk, upI_s]
  have s2 : ∀ (p : Nat → Int) (a : Nat), a ≠ k → a ≠ j → upI (upI p j (p k)) k (p j) a = p a := fun p a h1 h2 => by rw [upI_n h1, upI_n h2]
  constructor
  · rintro ⟨a, h1, h2, h3⟩
    by_cases e1 : a = k
    · subst e1; rw [s0] at h2 h3; exact ⟨j, hj, h2, h3⟩
    · by_cases e2 : a = j
      · subst e2; rw [s1] at h2 h3; exact ⟨k, hk, h2, h3⟩
      · rw [s2 _ a e1 e2] at h2 h3; exact ⟨a, h1, h2, h3⟩
  · rintro ⟨a, h1, h2, h3⟩
    by_cases e1 : a = k
    · subst e1; exact ⟨j, hj, by rw [s1]; exact h2, by rw [s1]; exact h3⟩
    · by_cases e2 : a = j
      · subst e2; exact ⟨k, hk, by rw [s0]; exact h2, by rw [s0]; exact h3⟩
      · exact ⟨a, h1, by rw [s2 _ a e1 e2]; exact h2, by rw [s2 _ a e1 e2]; exact h3⟩
/-- n points kept out of the first i, and the rest -/
def SD (f g : Nat → Int) (n i w : Int) : Int → Int → Prop := fun x y => ∃ a : Nat, ((a : Int) < n ∨ (i ≤ a ∧ (a : Int) < w)) ∧ x = f a ∧ y = g a
theorem SD_0 {f g : Nat → Int} {w : Int} (x y : Int) : SD f g 0 0 w x y ↔ SWW f g w x y := ⟨fun ⟨a, h1, h2⟩ => ⟨a, by omega, h2⟩, fun ⟨a, h1, h2⟩ => ⟨a, by omega, h2⟩⟩
theorem SD_e {f g : Nat → Int} {n i w : Int} (h : w ≤ i) (x y : Int) : SD f g n i w x y ↔ SWW f g n x y := ⟨fun ⟨a, h1, h2⟩ => ⟨a, by omega, h2⟩, fun ⟨a, h1, h2⟩ => ⟨a, by omega, h2⟩⟩
theorem SD_skip {f g : Nat → Int} {n i w : Int} (h0 : 0 ≤ i) (hi : i < w) (hn : 0 < n) (e1 : f i.toNat = f (n - 1).toNat) (e2 : g i.toNat = g (n - 1).toNat) (x y : Int) : SD f g n (i + 1) w x y ↔ SD f g n i w x y := by
  constructor
  · rintro ⟨a, h1, h2⟩; exact ⟨a, by omega, h2⟩
  · rintro ⟨a, h1, h2, h3⟩
    by_cases e : (a : Int) = i
    · rw [show a = i.toNat by omega, e1] at h2
      rw [show a = i.toNat by omega, e2] at h3
      exact ⟨(n - 1).toNat, by omega, h2, h3⟩
    · exact ⟨a, by omega, h2, h3⟩
theorem SD_put {f g : Nat → Int} {n i w : Int} (h0 : 0 ≤ n) (hni : n ≤ i) (hi : i < w) (x y : Int) : SD (upI f n.toNat (f i.toNat)) (upI g n.toNat (g i.toNat)) (n + 1) (i + 1) w x y ↔ SD f g n i w x y := by
  constructor
  · rintro ⟨a, h1, h2, h3⟩
    by_cases e : (a : Int) = n
    · rw [show a = n.toNat by omega, upI_s] at h2 h3
      exact ⟨i.toNat, by omega, h2, h3⟩
    · rw [upI_n (by omega)] at h2 h3
      exact ⟨a, by omega, h2, h3⟩
  · rintro ⟨a, h1, h2, h3⟩
    by_cases e : (a : Int) = i
    · rw [show a = i.toNat by omega] at h2 h3
      exact ⟨n.toNat, by omega, by rw [upI_s]; exact h2, by rw [upI_s]; exact h3⟩
    · exact ⟨a, by omega, by rw [upI_n (by omega)]; exact h2, by rw [upI_n (by omega)]; exact h3⟩
theorem os_lp {f g : Nat → Int} {n : Int} (h : os_s f g n) {a : Nat} (ha : (a : Int) + 1 < n) : lxp (f (a + 1) - f a) (g (a + 1) - g a) := by
  have := h a ha
  unfold lt2 at this; unfold lxp; omega
/-- the lower chain goes on -/
theorem cl_s {f g X Y : Nat → Int} {i h v n : Int} (hs : os_s f g n) (hi : 0 ≤ i) (hn : i < n) (F : fl f g X Y i h) (C : 0 < i → chx (SWW f g i) X Y 0 h.toNat) (h1 : 0 ≤ v) (h2 : v ≤ h) (h3 : 0 < h → 0 < v) (hp : ∀ j : Nat, v ≤ j → (j : Int) < h → cx (X j - X (j - 1)) (Y j - Y (j - 1)) (f i.toNat - X (j - 1)) (g i.toNat - Y (j - 1)) ≤ 0) (hk : v ≤ 1 ∨ 0 < cx (X (v.toNat - 1) - X (v.toNat - 2)) (Y (v.toNat - 1) - Y (v.toNat - 2)) (f i.toNat - X (v.toNat - 2)) (g i.toNat - Y (v.toNat - 2))) : chx (SWW f g (i + 1)) (upI X v.toNat (f i.toNat)) (upI Y v.toNat (g i.toNat)) 0 (v + 1).toNat := by
  obtain ⟨a1, a2, a3, a4, a5, a6, a7⟩ := F
  by_cases e : i = 0
  · have hv : v = 0 := by omega
    subst hv
    refine chx_1 (b := 0) (fun x y => ?_)
    rw [show (0 : Int).toNat = 0 from rfl, upI_s, upI_s]
    subst e
    exact ⟨fun ⟨a, q1, q2, q3⟩ => by rw [show a = 0 by omega] at q2 q3; exact ⟨q2, q3⟩, fun ⟨q2, q3⟩ => ⟨0, by omega, q2, q3⟩⟩
  · obtain ⟨b1, b2, b3, b4, b5⟩ := a3 (by omega)
    have d := os_lp hs (a := (i - 1).toNat) (by omega)
    rw [show (i - 1).toNat + 1 = i.toNat by omega] at d
    have h4 := h3 b1
    rw [show (v + 1).toNat = v.toNat + 1 by omega]
    refine chx_s (v := v.toNat) (C (by omega)) (wx := f i.toNat) (wy := g i.toNat) ?_ (by omega) (by omega) (fun j q1 q2 => hp j (by omega) (by omega)) ?_ (fun a ha => ⟨upI_n (by omega), upI_n (by omega)⟩) upI_s upI_s (fun x y => ?_)
    · rw [show h.toNat - 1 = (h - 1).toNat by omega, b4, b5]; exact d
    · rcases hk with q | q
      · exact Or.inl (by omega)
      · exact Or.inr q
    · constructor
      · rintro ⟨a, q1, q2, q3⟩
        by_cases w : (a : Int) = i
        · rw [show a = i.toNat by omega] at q2 q3; exact Or.inr ⟨q2, q3⟩
        · exact Or.inl ⟨a, by omega, q2, q3⟩
      · rintro (⟨a, q1, q2, q3⟩ | ⟨q2, q3⟩)
        · exact ⟨a, by omega, q2, q3⟩
        · exact ⟨i.toNat, by omega, q2, q3⟩
/-- the points behind i -/
def SU (f g : Nat → Int) (i w : Int) : Int → Int → Prop := fun x y => ∃ a : Nat, i < a ∧ (a : Int) < w ∧ x = f a ∧ y = g a
theorem cu_0 {f g X Y : Nat → Int} {w h : Int} (hw : 1 ≤ w) (H : fl f g X Y w h) : chx (ngS (SU f g (w - 2) w)) (ng X) (ng Y) (h - 1).toNat h.toNat := by
  obtain ⟨a1, a2, a3, a4, a5, a6, a7⟩ := H
  obtain ⟨b1, b2, b3, b4, b5⟩ := a3 (by omega)
  rw [show h.toNat = (h - 1).toNat + 1 by omega]
  refine chx_1 (fun x y => ?_)
  unfold ng ngS
  rw [b4, b5]
  exact ⟨fun ⟨a, q1, q2, q3, q4⟩ => by rw [show a = (w - 1).toNat by omega] at q3 q4; omega, fun ⟨q3, q4⟩ => ⟨(w - 1).toNat, by omega, by omega, by omega, by omega⟩⟩
theorem cx_ng {a b c d e f : Int} : cx (-a - -b) (-c - -d) (-e - -b) (-f - -d) = cx (a - b) (c - d) (e - b) (f - d) := by unfold cx; grind
theorem cu_s {f g FX FY X Y : Nat → Int} {t w i h v : Int} (ht : 0 ≤ t) (hs : os_s f g w) (hi : 0 ≤ i) (hw : i + 1 < w) (H : fu f g FX FY X Y t w i h) (C : chx (ngS (SU f g i w)) (ng X) (ng Y) t.toNat h.toNat) (h1 : t ≤ v) (h2 : v ≤ h) (h3 : t < v) (hp : ∀ j : Nat, v ≤ j → (j : Int) < h → cx (X j - X (j - 1)) (Y j - Y (j - 1)) (f i.toNat - X (j - 1)) (g i.toNat - Y (j - 1)) ≤ 0) (hk : v ≤ t + 1 ∨ 0 < cx (X (v.toNat - 1) - X (v.toNat - 2)) (Y (v.toNat - 1) - Y (v.toNat - 2)) (f i.toNat - X (v.toNat - 2)) (g i.toNat - Y (v.toNat - 2))) : chx (ngS (SU f g (i + -1) w)) (ng (upI X v.toNat (f i.toNat))) (ng (upI Y v.toNat (g i.toNat))) t.toNat (v + 1).toNat := by
  obtain ⟨a1, a2, a3, a4, ⟨a5, a6⟩, a7, a8, a9⟩ := H
  have d := os_lp hs (a := i.toNat) (by omega)
  rw [show i.toNat + 1 = (i + 1).toNat by omega] at d
  rw [show (v + 1).toNat = v.toNat + 1 by omega]
  refine chx_s C (wx := -(f i.toNat)) (wy := -(g i.toNat)) ?_ (by omega) (by omega) (fun j q1 q2 => ?_) ?_ (fun a ha => ⟨?_, ?_⟩) ?_ ?_ (fun x y => ?_)
  · unfold ng
    rw [show h.toNat - 1 = (h - 1).toNat by omega, a5, a6]
    unfold lxp at d ⊢; omega
  · unfold ng; rw [cx_ng]; exact hp j (by omega) (by omega)
  · rcases hk with q | q
    · exact Or.inl (by omega)
    · exact Or.inr (by unfold ng; rw [cx_ng]; exact q)
  · unfold ng; rw [upI_n (by omega)]
  · unfold ng; rw [upI_n (by omega)]
  · unfold ng; rw [upI_s]
  · unfold ng; rw [upI_s]
  · unfold ngS
    constructor
    · rintro ⟨a, q1, q2, q3, q4⟩
      by_cases e : (a : Int) = i
      · rw [show a = i.toNat by omega] at q3 q4; exact Or.inr ⟨by omega, by omega⟩
      · exact Or.inl ⟨a, by omega, q2, q3, q4⟩
    · rintro (⟨a, q1, q2, q3, q4⟩ | ⟨q2, q3⟩)
      · exact ⟨a, by omega, q2, q3, q4⟩
      · exact ⟨i.toNat, by omega, by omega, by omega, by omega⟩
theorem hu_e {f g FX FY X Y : Nat → Int} {w h0 i h : Int} (hw : 1 < w) (H0 : fl f g FX FY w h0) (C0 : chx (SWW f g w) FX FY 0 h0.toNat) (hi : i = -1) (H : fu f g FX FY X Y (h0 - 1) w i h) (C : chx (ngS (SU f g i w)) (ng X) (ng Y) (h0 - 1).toNat h.toNat) : HS (SWW f g w) (h - 1) X Y := by
  obtain ⟨a1, a2, a3, a4, ⟨a5, a6⟩, a7, a8, a9⟩ := H
  obtain ⟨b1, b2, b3, b4, b5, b6, b7⟩ := H0
  have b4 := b4 hw
  obtain ⟨c1, c2, c3, c4, c5⟩ := b3 (by omega)
  have a3 := a3 (by omega)
  subst hi
  have e0 : X 0 = FX 0 ∧ Y 0 = FY 0 := a4 0 (by omega)
  have hC1 : chx (SWW f g w) X Y 0 ((h0 - 1).toNat + 1) := chx_cong (X := FX) (Y := FY) (by rw [show (h0 - 1).toNat + 1 = h0.toNat by omega]; exact C0) (fun a _ ha => a4 a (by omega)) (fun _ _ => Iff.rfl)
  have hC2 : chx (ngS (SWW f g w)) (ng X) (ng Y) (h0 - 1).toNat ((h - 1).toNat + 1) := by
    rw [show (h - 1).toNat + 1 = h.toNat by omega]
    refine chx_cong C (fun a _ _ => ⟨rfl, rfl⟩) (fun x y => ?_)
    unfold ngS
    exact ⟨fun ⟨a, q1, q2⟩ => ⟨a, by omega, q1, q2⟩, fun ⟨a, q0, q1, q2⟩ => ⟨a, q1, q2⟩⟩
  have q := HS_m hC1 hC2 (by omega) (by omega) (by rw [a5, e0.1, c2]; rfl) (by rw [a6, e0.2, c3]; rfl)
  rw [show (((h - 1).toNat : Nat) : Int) = h - 1 by omega] at q
  exact q
theorem hu_r {f g FX FY X Y : Nat → Int} {w h0 i h n : Int} (hw : 0 ≤ w) (hn : (1 < w ∧ n = h - 1) ∨ (w ≤ 1 ∧ n = h)) (H0 : fl f g FX FY w h0) (C0 : 0 < w → chx (SWW f g w) FX FY 0 h0.toNat) (hc : -1 ≤ i ∧ i ≤ w - 2 ∧ 1 ≤ w ∨ (w = 0 ∧ h = 0 ∧ i = -2)) (hi : i < 0) (H : 1 ≤ w → fu f g FX FY X Y (h0 - 1) w i h) (C : 1 ≤ w → chx (ngS (SU f g i w)) (ng X) (ng Y) (h0 - 1).toNat h.toNat) : HS (SWW f g w) n X Y := by
  by_cases g0 : w = 0
  · exact Or.inl ⟨by omega, fun x y ⟨a, q1, _⟩ => by omega⟩
  · by_cases g1 : w = 1
    · subst g1
      have k0 := H0.2.2.1 (by omega)
      have k1 := (H (by omega)).2.2.2.1 0 (by have := k0.1; omega)
      have k2 := (H (by omega)).1
      have k3 := (H (by omega)).2.1
      have k4 := H0.2.1
      have kn : n = 1 := by omega
      rw [kn]
      refine HS_1 ⟨0, by omega, by rw [k1.1, k0.2.1], by rw [k1.2, k0.2.2.1]⟩ (fun x y ⟨a, q1, q2, q3⟩ => ?_)
      rw [show a = 0 by omega] at q2 q3
      rw [k1.1, k1.2, k0.2.1, k0.2.2.1]
      exact ⟨q2, q3⟩
    · have kn : n = h - 1 := by omega
      rw [kn]
      exact hu_e (by omega) H0 (C0 (by omega)) (by omega) (H (by omega)) (C (by omega))

set_option maxHeartbeats 4000000 in
set_option maxRecDepth 100000 in
theorem c_X12_order2 (l : Launch) (D : JD) (o : Nat) (q : Nat → Nat) (u : MS) (A : Nat → Prop) (hD : va_D A (mW D o q u)) (p0 : 0 ≤ u.2.2 6 ∧ u.2.2 6 ≤ 640) (p1 : bd 10000 (u.1 4) (u.1 5) (u.2.2 6)) : Met l yX12_order (jw yX12_order cX12_order 5 none) (jr 1 22) (jP [.ref o] D (fun H => va_P D.1 j_cl (mW D o q u) H)) (jWv (fun u' => ∃ f : Nat → Int, ∃ g : Nat → Int, ∃ w : Int, u' = (uV (uI (uI u 4 f) 5 g) 6 w) ∧ (0 ≤ w ∧ w ≤ u.2.2 6 ∧ (0 < u.2.2 6 → 0 < w) ∧ os_s f g w ∧ bd 10000 f g w ∧ (∀ K : Int, bd K (u.1 4) (u.1 5) (u.2.2 6) → bd K f g w) ∧ ∀ x y : Int, SWW f g w x y ↔ SWW (u.1 4) (u.1 5) (u.2.2 6) x y)) (fun u' H => va_P D.1 j_cl (mW D o q u') H) A) 0 0 A := by
  refine Met.ofW (cc := cX12_order) (maxL := 5) (ret := none) (by decide) rfl ?_
  intro pr en st mi args below meth co s₁ B hml hv
  obtain ⟨rfl, hG, hP⟩ := hv
  have hr := B.returns
  have hlk := B.notSynchronized
  have SS : jS pr mi co cX12_order 5 st _ RX12 := ⟨B.exec, B.bytes, hml, findClass_of_methodNamed B.named, fun w hw => atoms_spec (ws := (jw yX12_order cX12_order 5 none)) B.pre w (List.mem_cons_of_mem _ hw)⟩
  have hl := lv_entry ([.ref o]) (n := 5) (Nat.le_of_ble_eq_true rfl)
  rw [lg_entry_eq]
  generalize (lg_sl ([.ref o]) ++ List.replicate (5 - (lg_sl ([.ref o])).length) Slot.unset).toArray = ls at hl ⊢
  have hl : lv_has ls 5 [(0, .ref o)] := hl
  have hS : va_S A st.heap st.heap [] := va_S.rf
  refine j_iconst SS dX12_order_0 ?_
  refine lv_istore_n (lv' := [(1, .int (J 1)), (0, .ref o)]) SS.1 SS.2.1 dX12_order_1 rfl hl (by decide) rfl (fun ls hl => ?_)
  have L_2 : ∀ (nn : Nat) (i : Int) (f : Nat → Int) (g : Nat → Int) (H : Heap) (locs : List Loc) (hP : va_P D.1 j_cl (mW D o q (uI (uI u 4 f) 5 g)) H) (hS : va_S A st.heap H locs) (ls : Array Slot) (hl : lv_has ls 5 [(0, .ref o), (1, .int (J i))]) (i2_0 : 1 ≤ i ∧ (i ≤ u.2.2 6 ∨ i = 1)) (i2_1 : os_w f g i) (i2_2 : ∀ K : Int, bd K (u.1 4) (u.1 5) (u.2.2 6) → bd K f g (u.2.2 6)) (i2_3 : ∀ x y : Int, SWW f g (u.2.2 6) x y ↔ SWW (u.1 4) (u.1 5) (u.2.2 6) x y), (u.2.2 6 - i).toNat < nn → W pr l en (headSpec (jw yX12_order cX12_order 5 none) (jr 1 22)).room st mi (([.ref o] : List Value).toArray) below meth co H locs 0 0 (MQ below (jWv (fun u' => ∃ f : Nat → Int, ∃ g : Nat → Int, ∃ w : Int, u' = (uV (uI (uI u 4 f) 5 g) 6 w) ∧ (0 ≤ w ∧ w ≤ u.2.2 6 ∧ (0 < u.2.2 6 → 0 < w) ∧ os_s f g w ∧ bd 10000 f g w ∧ (∀ K : Int, bd K (u.1 4) (u.1 5) (u.2.2 6) → bd K f g w) ∧ ∀ x y : Int, SWW f g w x y ↔ SWW (u.1 4) (u.1 5) (u.2.2 6) x y)) (fun u' H => va_P D.1 j_cl (mW D o q u') H) A) (([.ref o] : List Value).toArray) st 0 0 A) (F0 mi 2 ls []) := by
    intro nn
    induction nn with
    | zero => intros; omega
    | succ nn ih_2 =>
      intro i f g H locs hP hS ls hl i2_0 i2_1 i2_2 i2_3 hm
      refine lv_iload_n SS.1 SS.2.1 dX12_order_2 rfl (lv_at hl 1 rfl) ?_
      refine lv_aload_n SS.1 SS.2.1 dX12_order_3 rfl (lv_at hl 0 rfl) ?_
      refine j_get SS hG hP 0 (v := .int (J (u.2.2 6))) (C := RX12) (T := TX12) (N := 31) rfl rfl inX12 6 (by decide) (ref := RX12) kw_1064 rfl rfl dX12_order_4 ?_
      refine j_icmp_ge SS (tgt := 101) (x := i) (y := (u.2.2 6)) dX12_order_7 (by decide) (by omega) (by omega) (fun c_7 => ?_) (fun c_7 => ?_)
      · skip
        refine j_iconst SS dX12_order_101 ?_
        refine lv_istore_n (lv' := [(1, .int (J 0)), (0, .ref o)]) SS.1 SS.2.1 dX12_order_102 rfl hl (by decide) rfl (fun ls hl => ?_)
        refine j_iconst SS dX12_order_103 ?_
        refine lv_istore_n (lv' := [(2, .int (J 0)), (1, .int (J 0)), (0, .ref o)]) SS.1 SS.2.1 dX12_order_104 rfl hl (by decide) rfl (fun ls hl => ?_)
        have L_105 : ∀ (nn : Nat) (n : Int) (i2 : Int) (f3 : Nat → Int) (g3 : Nat → Int) (H : Heap) (locs : List Loc) (hP : va_P D.1 j_cl (mW D o q (uI (uI u 4 f3) 5 g3)) H) (hS : va_S A st.heap H locs) (ls : Array Slot) (hl : lv_has ls 5 [(0, .ref o), (1, .int (J n)), (2, .int (J i2))]) (i105_0 : 0 ≤ i2 ∧ i2 ≤ u.2.2 6) (i105_1 : os_d f3 g3 n i2 (u.2.2 6)) (i105_2 : ∀ K : Int, bd K (u.1 4) (u.1 5) (u.2.2 6) → bd K f3 g3 (u.2.2 6)) (i105_3 : bd 10000 f3 g3 (u.2.2 6)) (i105_4 : ∀ x y : Int, SD f3 g3 n i2 (u.2.2 6) x y ↔ SWW (u.1 4) (u.1 5) (u.2.2 6) x y), (u.2.2 6 - i2).toNat < nn → W pr l en (headSpec (jw yX12_order cX12_order 5 none) (jr 1 22)).room st mi (([.ref o] : List Value).toArray) below meth co H locs 0 0 (MQ below (jWv (fun u' => ∃ f : Nat → Int, ∃ g : Nat → Int, ∃ w : Int, u' = (uV (uI (uI u 4 f) 5 g) 6 w) ∧ (0 ≤ w ∧ w ≤ u.2.2 6 ∧ (0 < u.2.2 6 → 0 < w) ∧ os_s f g w ∧ bd 10000 f g w ∧ (∀ K : Int, bd K (u.1 4) (u.1 5) (u.2.2 6) → bd K f g w) ∧ ∀ x y : Int, SWW f g w x y ↔ SWW (u.1 4) (u.1 5) (u.2.2 6) x y)) (fun u' H => va_P D.1 j_cl (mW D o q u') H) A) (([.ref o] : List Value).toArray) st 0 0 A) (F0 mi 105 ls []) := by
          intro nn
          induction nn with
          | zero => intros; omega
          | succ nn ih_105 =>
            intro n i2 f3 g3 H locs hP hS ls hl i105_0 i105_1 i105_2 i105_3 i105_4 hm
            have hn1 := i105_1.1
            have hn2 := i105_1.2.1
            refine lv_iload_n SS.1 SS.2.1 dX12_order_105 rfl (lv_at hl 2 rfl) ?_
            refine lv_aload_n SS.1 SS.2.1 dX12_order_106 rfl (lv_at hl 0 rfl) ?_
            refine j_get SS hG hP 0 (v := .int (J (u.2.2 6))) (C := RX12) (T := TX12) (N := 31) rfl rfl inX12 6 (by decide) (ref := RX12) kw_1064 rfl rfl dX12_order_107 ?_
            refine j_icmp_ge SS (tgt := 184) (x := i2) (y := (u.2.2 6)) dX12_order_110 (by decide) (by omega) (by omega) (fun c_110 => ?_) (fun c_110 => ?_)
            · skip
              refine lv_aload_n SS.1 SS.2.1 dX12_order_184 rfl (lv_at hl 0 rfl) ?_
              refine lv_iload_n SS.1 SS.2.1 dX12_order_185 rfl (lv_at hl 1 rfl) ?_
              refine j_put SS hG hP (mW_D hD) hS 0 (v := .int (J n)) (ty := .int) (C := RX12) (T := TX12) (N := 31) rfl rfl inX12 tyX12 tyX12_ok nmX12 6 (by decide) (ref := RX12) kw_1064 rfl rfl (by decide +kernel) rfl rfl (Nat.le_of_ble_eq_true rfl) dX12_order_186 (ws' := (mW D o q (uV (uI (uI u 4 f3) 5 g3) 6 n))) rfl (fun H locs hP hS => ?_)
              exact W.vret SS.1 SS.2.1 hr (fun t ht hW => ⟨⟨(uV (uI (uI u 4 f3) 5 g3) 6 n), rfl, (⟨f3, g3, n, rfl, ⟨i105_1.1, by omega, by have := i105_1.2.2.1; omega, i105_1.2.2.2.1, fun a h => i105_3 a (by omega), fun K h a ha => i105_2 K h a (by omega), fun x y => (SD_e (by omega) x y).symm.trans (i105_4 x y)⟩⟩), by show va_P D.1 j_cl (mW D o q (uV (uI (uI u 4 f3) 5 g3) 6 n)) t.heap; rw [ht]; exact hP⟩, hS.F ht⟩) hS.2.2 dX12_order_189 hlk
            · skip
              refine lv_iload_n SS.1 SS.2.1 dX12_order_113 rfl (lv_at hl 1 rfl) ?_
              refine j_if_eq SS (tgt := 151) (x := n) dX12_order_114 (by decide) (by omega) (fun c_114 => ?_) (fun c_114 => ?_)
              · skip
                refine lv_aload_n SS.1 SS.2.1 dX12_order_151 rfl (lv_at hl 0 rfl) ?_
                refine j_get SS hG hP 0 (v := .ref (q 4)) (C := RX12) (T := TX12) (N := 31) rfl rfl inX12 4 (by decide) (ref := RX12) kw_1062 rfl rfl dX12_order_152 ?_
                refine lv_iload_n SS.1 SS.2.1 dX12_order_155 rfl (lv_at hl 1 rfl) ?_
                refine lv_aload_n SS.1 SS.2.1 dX12_order_156 rfl (lv_at hl 0 rfl) ?_
                refine j_get SS hG hP 0 (v := .ref (q 4)) (C := RX12) (T := TX12) (N := 31) rfl rfl inX12 4 (by decide) (ref := RX12) kw_1062 rfl rfl dX12_order_157 ?_
                refine lv_iload_n SS.1 SS.2.1 dX12_order_160 rfl (lv_at hl 2 rfl) ?_
                refine j_iald SS hG hP 5 (n := 640) (f := f3) rfl (z := i2) (by omega) (by omega) dX12_order_161 ?_
                refine j_iast SS hG hP (mW_D hD) hS 5 (n := 640) (f := f3) rfl (z := n) (v := (f3 (i2).toNat)) (by omega) (by omega) dX12_order_162 (ws' := (mW D o q (uI (uI u 4 (upI f3 (n).toNat (f3 (i2).toNat))) 5 g3))) rfl (fun H locs hP hS => ?_)
                refine lv_aload_n SS.1 SS.2.1 dX12_order_163 rfl (lv_at hl 0 rfl) ?_
                refine j_get SS hG hP 0 (v := .ref (q 5)) (C := RX12) (T := TX12) (N := 31) rfl rfl inX12 5 (by decide) (ref := RX12) kw_1063 rfl rfl dX12_order_164 ?_
                refine lv_iload_n SS.1 SS.2.1 dX12_order_167 rfl (lv_at hl 1 rfl) ?_
                refine lv_aload_n SS.1 SS.2.1 dX12_order_168 rfl (lv_at hl 0 rfl) ?_
                refine j_get SS hG hP 0 (v := .ref (q 5)) (C := RX12) (T := TX12) (N := 31) rfl rfl inX12 5 (by decide) (ref := RX12) kw_1063 rfl rfl dX12_order_169 ?_
                refine lv_iload_n SS.1 SS.2.1 dX12_order_172 rfl (lv_at hl 2 rfl) ?_
                refine j_iald SS hG hP 6 (n := 640) (f := g3) rfl (z := i2) (by omega) (by omega) dX12_order_173 ?_
                refine j_iast SS hG hP (mW_D hD) hS 6 (n := 640) (f := g3) rfl (z := n) (v := (g3 (i2).toNat)) (by omega) (by omega) dX12_order_174 (ws' := (mW D o q (uI (uI u 4 (upI f3 (n).toNat (f3 (i2).toNat))) 5 (upI g3 (n).toNat (g3 (i2).toNat))))) rfl (fun H locs hP hS => ?_)
                refine lv_iinc (v := J (n + 1)) (lv' := [(1, .int (J (n + 1))), (0, .ref o), (2, .int (J i2))]) SS.1 SS.2.1 dX12_order_175 hl (k := 1) rfl (J_add _ _) (by decide) rfl (fun ls hl => ?_)
                refine lv_iinc (v := J (i2 + 1)) (lv' := [(2, .int (J (i2 + 1))), (1, .int (J (n + 1))), (0, .ref o)]) SS.1 SS.2.1 dX12_order_178 hl (k := 2) rfl (J_add _ _) (by decide) rfl (fun ls hl => ?_)
                refine lv_goto (tgt := 105) SS.1 SS.2.1 dX12_order_181 (by decide) ?_
                exact ih_105 (n + 1) (i2 + 1) (upI f3 (n).toNat (f3 (i2).toNat)) (upI g3 (n).toNat (g3 (i2).toNat)) _ _ hP hS ls (lv_sub hl [2, 1, 0] rfl) (by omega) (by first | exact os_dput i105_1 (by omega) (Or.inl (by omega)) | exact os_dput i105_1 (by omega) (Or.inr (Or.inl (by omega))) | exact os_dput i105_1 (by omega) (Or.inr (Or.inr (by omega))) | exact os_dskip i105_1 (by omega) (by omega) (by omega) (by omega)) (fun K h => by have q := i105_2 K h; have q1 := bd_at q (z := i2) (by omega) (by omega); first | exact bd_up q q1.1 q1.2 | exact q) (by have q1 := bd_at i105_3 (z := i2) (by omega) (by omega); first | exact bd_up i105_3 q1.1 q1.2 | exact i105_3) (fun x y => by first | exact (SD_put (by omega) (by omega) (by omega) x y).trans (i105_4 x y) | exact (SD_skip (by omega) (by omega) (by omega) (by omega) (by omega) x y).trans (i105_4 x y)) (by omega)
              · skip
                refine lv_aload_n SS.1 SS.2.1 dX12_order_117 rfl (lv_at hl 0 rfl) ?_
                refine j_get SS hG hP 0 (v := .ref (q 4)) (C := RX12) (T := TX12) (N := 31) rfl rfl inX12 4 (by decide) (ref := RX12) kw_1062 rfl rfl dX12_order_118 ?_
                refine lv_iload_n SS.1 SS.2.1 dX12_order_121 rfl (lv_at hl 2 rfl) ?_
                refine j_iald SS hG hP 5 (n := 640) (f := f3) rfl (z := i2) (by omega) (by omega) dX12_order_122 ?_
                refine lv_aload_n SS.1 SS.2.1 dX12_order_123 rfl (lv_at hl 0 rfl) ?_
                refine j_get SS hG hP 0 (v := .ref (q 4)) (C := RX12) (T := TX12) (N := 31) rfl rfl inX12 4 (by decide) (ref := RX12) kw_1062 rfl rfl dX12_order_124 ?_
                refine lv_iload_n SS.1 SS.2.1 dX12_order_127 rfl (lv_at hl 1 rfl) ?_
                refine j_iconst SS dX12_order_128 ?_
                refine j_isub SS (x := n) (y := 1) dX12_order_129 ?_
                refine j_iald SS hG hP 5 (n := 640) (f := f3) rfl (z := (n - 1)) (by omega) (by omega) dX12_order_130 ?_
                have q1 := bd_at i105_3 (z := i2) (by omega) (by omega)
                have q2 := bd_at i105_3 (z := n - 1) (by omega) (by omega)
                refine j_icmp_ne SS (tgt := 151) (x := (f3 (i2).toNat)) (y := (f3 ((n - 1)).toNat)) dX12_order_131 (by decide) (by omega) (by omega) (fun c_131 => ?_) (fun c_131 => ?_)
                · skip
                  refine lv_aload_n SS.1 SS.2.1 dX12_order_151 rfl (lv_at hl 0 rfl) ?_
                  refine j_get SS hG hP 0 (v := .ref (q 4)) (C := RX12) (T := TX12) (N := 31) rfl rfl inX12 4 (by decide) (ref := RX12) kw_1062 rfl rfl dX12_order_152 ?_
                  refine lv_iload_n SS.1 SS.2.1 dX12_order_155 rfl (lv_at hl 1 rfl) ?_
                  refine lv_aload_n SS.1 SS.2.1 dX12_order_156 rfl (lv_at hl 0 rfl) ?_
                  refine j_get SS hG hP 0 (v := .ref (q 4)) (C := RX12) (T := TX12) (N := 31) rfl rfl inX12 4 (by decide) (ref := RX12) kw_1062 rfl rfl dX12_order_157 ?_
                  refine lv_iload_n SS.1 SS.2.1 dX12_order_160 rfl (lv_at hl 2 rfl) ?_
                  refine j_iald SS hG hP 5 (n := 640) (f := f3) rfl (z := i2) (by omega) (by omega) dX12_order_161 ?_
                  refine j_iast SS hG hP (mW_D hD) hS 5 (n := 640) (f := f3) rfl (z := n) (v := (f3 (i2).toNat)) (by omega) (by omega) dX12_order_162 (ws' := (mW D o q (uI (uI u 4 (upI f3 (n).toNat (f3 (i2).toNat))) 5 g3))) rfl (fun H locs hP hS => ?_)
                  refine lv_aload_n SS.1 SS.2.1 dX12_order_163 rfl (lv_at hl 0 rfl) ?_
                  refine j_get SS hG hP 0 (v := .ref (q 5)) (C := RX12) (T := TX12) (N := 31) rfl rfl inX12 5 (by decide) (ref := RX12) kw_1063 rfl rfl dX12_order_164 ?_
                  refine lv_iload_n SS.1 SS.2.1 dX12_order_167 rfl (lv_at hl 1 rfl) ?_
                  refine lv_aload_n SS.1 SS.2.1 dX12_order_168 rfl (lv_at hl 0 rfl) ?_
                  refine j_get SS hG hP 0 (v := .ref (q 5)) (C := RX12) (T := TX12) (N := 31) rfl rfl inX12 5 (by decide) (ref := RX12) kw_1063 rfl rfl dX12_order_169 ?_
                  refine lv_iload_n SS.1 SS.2.1 dX12_order_172 rfl (lv_at hl 2 rfl) ?_
                  refine j_iald SS hG hP 6 (n := 640) (f := g3) rfl (z := i2) (by omega) (by omega) dX12_order_173 ?_
                  refine j_iast SS hG hP (mW_D hD) hS 6 (n := 640) (f := g3) rfl (z := n) (v := (g3 (i2).toNat)) (by omega) (by omega) dX12_order_174 (ws' := (mW D o q (uI (uI u 4 (upI f3 (n).toNat (f3 (i2).toNat))) 5 (upI g3 (n).toNat (g3 (i2).toNat))))) rfl (fun H locs hP hS => ?_)
                  refine lv_iinc (v := J (n + 1)) (lv' := [(1, .int (J (n + 1))), (0, .ref o), (2, .int (J i2))]) SS.1 SS.2.1 dX12_order_175 hl (k := 1) rfl (J_add _ _) (by decide) rfl (fun ls hl => ?_)
                  refine lv_iinc (v := J (i2 + 1)) (lv' := [(2, .int (J (i2 + 1))), (1, .int (J (n + 1))), (0, .ref o)]) SS.1 SS.2.1 dX12_order_178 hl (k := 2) rfl (J_add _ _) (by decide) rfl (fun ls hl => ?_)
                  refine lv_goto (tgt := 105) SS.1 SS.2.1 dX12_order_181 (by decide) ?_
                  exact ih_105 (n + 1) (i2 + 1) (upI f3 (n).toNat (f3 (i2).toNat)) (upI g3 (n).toNat (g3 (i2).toNat)) _ _ hP hS ls (lv_sub hl [2, 1, 0] rfl) (by omega) (by first | exact os_dput i105_1 (by omega) (Or.inl (by omega)) | exact os_dput i105_1 (by omega) (Or.inr (Or.inl (by omega))) | exact os_dput i105_1 (by omega) (Or.inr (Or.inr (by omega))) | exact os_dskip i105_1 (by omega) (by omega) (by omega) (by omega)) (fun K h => by have q := i105_2 K h; have q1 := bd_at q (z := i2) (by omega) (by omega); first | exact bd_up q q1.1 q1.2 | exact q) (by have q1 := bd_at i105_3 (z := i2) (by omega) (by omega); first | exact bd_up i105_3 q1.1 q1.2 | exact i105_3) (fun x y => by first | exact (SD_put (by omega) (by omega) (by omega) x y).trans (i105_4 x y) | exact (SD_skip (by omega) (by omega) (by omega) (by omega) (by omega) x y).trans (i105_4 x y)) (by omega)
                · skip
                  refine lv_aload_n SS.1 SS.2.1 dX12_order_134 rfl (lv_at hl 0 rfl) ?_
                  refine j_get SS hG hP 0 (v := .ref (q 5)) (C := RX12) (T := TX12) (N := 31) rfl rfl inX12 5 (by decide) (ref := RX12) kw_1063 rfl rfl dX12_order_135 ?_
                  refine lv_iload_n SS.1 SS.2.1 dX12_order_138 rfl (lv_at hl 2 rfl) ?_
                  refine j_iald SS hG hP 6 (n := 640) (f := g3) rfl (z := i2) (by omega) (by omega) dX12_order_139 ?_
                  refine lv_aload_n SS.1 SS.2.1 dX12_order_140 rfl (lv_at hl 0 rfl) ?_
                  refine j_get SS hG hP 0 (v := .ref (q 5)) (C := RX12) (T := TX12) (N := 31) rfl rfl inX12 5 (by decide) (ref := RX12) kw_1063 rfl rfl dX12_order_141 ?_
                  refine lv_iload_n SS.1 SS.2.1 dX12_order_144 rfl (lv_at hl 1 rfl) ?_
                  refine j_iconst SS dX12_order_145 ?_
                  refine j_isub SS (x := n) (y := 1) dX12_order_146 ?_
                  refine j_iald SS hG hP 6 (n := 640) (f := g3) rfl (z := (n - 1)) (by omega) (by omega) dX12_order_147 ?_
                  have q1 := bd_at i105_3 (z := i2) (by omega) (by omega)
                  have q2 := bd_at i105_3 (z := n - 1) (by omega) (by omega)
                  refine j_icmp_eq SS (tgt := 178) (x := (g3 (i2).toNat)) (y := (g3 ((n - 1)).toNat)) dX12_order_148 (by decide) (by omega) (by omega) (fun c_148 => ?_) (fun c_148 => ?_)
                  · skip
                    refine lv_iinc (v := J (i2 + 1)) (lv' := [(2, .int (J (i2 + 1))), (0, .ref o), (1, .int (J n))]) SS.1 SS.2.1 dX12_order_178 hl (k := 2) rfl (J_add _ _) (by decide) rfl (fun ls hl => ?_)
                    refine lv_goto (tgt := 105) SS.1 SS.2.1 dX12_order_181 (by decide) ?_
                    exact ih_105 n (i2 + 1) f3 g3 _ _ hP hS ls (lv_sub hl [1, 2, 0] rfl) (by omega) (by first | exact os_dput i105_1 (by omega) (Or.inl (by omega)) | exact os_dput i105_1 (by omega) (Or.inr (Or.inl (by omega))) | exact os_dput i105_1 (by omega) (Or.inr (Or.inr (by omega))) | exact os_dskip i105_1 (by omega) (by omega) (by omega) (by omega)) (fun K h => by have q := i105_2 K h; have q1 := bd_at q (z := i2) (by omega) (by omega); first | exact bd_up q q1.1 q1.2 | exact q) (by have q1 := bd_at i105_3 (z := i2) (by omega) (by omega); first | exact bd_up i105_3 q1.1 q1.2 | exact i105_3) (fun x y => by first | exact (SD_put (by omega) (by omega) (by omega) x y).trans (i105_4 x y) | exact (SD_skip (by omega) (by omega) (by omega) (by omega) (by omega) x y).trans (i105_4 x y)) (by omega)
                  · skip
                    refine lv_aload_n SS.1 SS.2.1 dX12_order_151 rfl (lv_at hl 0 rfl) ?_
                    refine j_get SS hG hP 0 (v := .ref (q 4)) (C := RX12) (T := TX12) (N := 31) rfl rfl inX12 4 (by decide) (ref := RX12) kw_1062 rfl rfl dX12_order_152 ?_
                    refine lv_iload_n SS.1 SS.2.1 dX12_order_155 rfl (lv_at hl 1 rfl) ?_
                    refine lv_aload_n SS.1 SS.2.1 dX12_order_156 rfl (lv_at hl 0 rfl) ?_
                    refine j_get SS hG hP 0 (v := .ref (q 4)) (C := RX12) (T := TX12) (N := 31) rfl rfl inX12 4 (by decide) (ref := RX12) kw_1062 rfl rfl dX12_order_157 ?_
                    refine lv_iload_n SS.1 SS.2.1 dX12_order_160 rfl (lv_at hl 2 rfl) ?_
                    refine j_iald SS hG hP 5 (n := 640) (f := f3) rfl (z := i2) (by omega) (by omega) dX12_order_161 ?_
                    refine j_iast SS hG hP (mW_D hD) hS 5 (n := 640) (f := f3) rfl (z := n) (v := (f3 (i2).toNat)) (by omega) (by omega) dX12_order_162 (ws' := (mW D o q (uI (uI u 4 (upI f3 (n).toNat (f3 (i2).toNat))) 5 g3))) rfl (fun H locs hP hS => ?_)
                    refine lv_aload_n SS.1 SS.2.1 dX12_order_163 rfl (lv_at hl 0 rfl) ?_
                    refine j_get SS hG hP 0 (v := .ref (q 5)) (C := RX12) (T := TX12) (N := 31) rfl rfl inX12 5 (by decide) (ref := RX12) kw_1063 rfl rfl dX12_order_164 ?_
                    refine lv_iload_n SS.1 SS.2.1 dX12_order_167 rfl (lv_at hl 1 rfl) ?_
                    refine lv_aload_n SS.1 SS.2.1 dX12_order_168 rfl (lv_at hl 0 rfl) ?_
                    refine j_get SS hG hP 0 (v := .ref (q 5)) (C := RX12) (T := TX12) (N := 31) rfl rfl inX12 5 (by decide) (ref := RX12) kw_1063 rfl rfl dX12_order_169 ?_
                    refine lv_iload_n SS.1 SS.2.1 dX12_order_172 rfl (lv_at hl 2 rfl) ?_
                    refine j_iald SS hG hP 6 (n := 640) (f := g3) rfl (z := i2) (by omega) (by omega) dX12_order_173 ?_
                    refine j_iast SS hG hP (mW_D hD) hS 6 (n := 640) (f := g3) rfl (z := n) (v := (g3 (i2).toNat)) (by omega) (by omega) dX12_order_174 (ws' := (mW D o q (uI (uI u 4 (upI f3 (n).toNat (f3 (i2).toNat))) 5 (upI g3 (n).toNat (g3 (i2).toNat))))) rfl (fun H locs hP hS => ?_)
                    refine lv_iinc (v := J (n + 1)) (lv' := [(1, .int (J (n + 1))), (0, .ref o), (2, .int (J i2))]) SS.1 SS.2.1 dX12_order_175 hl (k := 1) rfl (J_add _ _) (by decide) rfl (fun ls hl => ?_)
                    refine lv_iinc (v := J (i2 + 1)) (lv' := [(2, .int (J (i2 + 1))), (1, .int (J (n + 1))), (0, .ref o)]) SS.1 SS.2.1 dX12_order_178 hl (k := 2) rfl (J_add _ _) (by decide) rfl (fun ls hl => ?_)
                    refine lv_goto (tgt := 105) SS.1 SS.2.1 dX12_order_181 (by decide) ?_
                    exact ih_105 (n + 1) (i2 + 1) (upI f3 (n).toNat (f3 (i2).toNat)) (upI g3 (n).toNat (g3 (i2).toNat)) _ _ hP hS ls (lv_sub hl [2, 1, 0] rfl) (by omega) (by first | exact os_dput i105_1 (by omega) (Or.inl (by omega)) | exact os_dput i105_1 (by omega) (Or.inr (Or.inl (by omega))) | exact os_dput i105_1 (by omega) (Or.inr (Or.inr (by omega))) | exact os_dskip i105_1 (by omega) (by omega) (by omega) (by omega)) (fun K h => by have q := i105_2 K h; have q1 := bd_at q (z := i2) (by omega) (by omega); first | exact bd_up q q1.1 q1.2 | exact q) (by have q1 := bd_at i105_3 (z := i2) (by omega) (by omega); first | exact bd_up i105_3 q1.1 q1.2 | exact i105_3) (fun x y => by first | exact (SD_put (by omega) (by omega) (by omega) x y).trans (i105_4 x y) | exact (SD_skip (by omega) (by omega) (by omega) (by omega) (by omega) x y).trans (i105_4 x y)) (by omega)
        exact L_105 ((u.2.2 6 - (0 : Int)).toNat + 1) 0 0 f g _ _ hP hS ls (lv_sub hl [2, 1, 0] rfl) (by omega) (os_d0 (fun a h => i2_1 a (by omega))) (i2_2) (i2_2 _ p1) (fun x y => (SD_0 x y).trans (i2_3 x y)) (Nat.lt_succ_self _)
      · skip
        refine lv_iload_n SS.1 SS.2.1 dX12_order_10 rfl (lv_at hl 1 rfl) ?_
        refine lv_istore_n (lv' := [(2, .int (J i)), (0, .ref o), (1, .int (J i))]) SS.1 SS.2.1 dX12_order_11 rfl hl (by decide) rfl (fun ls hl => ?_)
        have L_12 : ∀ (nn : Nat) (j : Int) (f2 : Nat → Int) (g2 : Nat → Int) (H : Heap) (locs : List Loc) (hP : va_P D.1 j_cl (mW D o q (uI (uI u 4 f2) 5 g2)) H) (hS : va_S A st.heap H locs) (ls : Array Slot) (hl : lv_has ls 5 [(0, .ref o), (1, .int (J i)), (2, .int (J j))]) (i12_0 : 0 ≤ j ∧ j ≤ i) (i12_1 : os_in f2 g2 i j) (i12_2 : ∀ K : Int, bd K (u.1 4) (u.1 5) (u.2.2 6) → bd K f2 g2 (u.2.2 6)) (i12_3 : bd 10000 f2 g2 (u.2.2 6)) (i12_4 : ∀ x y : Int, SWW f2 g2 (u.2.2 6) x y ↔ SWW (u.1 4) (u.1 5) (u.2.2 6) x y), j.toNat < nn → W pr l en (headSpec (jw yX12_order cX12_order 5 none) (jr 1 22)).room st mi (([.ref o] : List Value).toArray) below meth co H locs 0 0 (MQ below (jWv (fun u' => ∃ f : Nat → Int, ∃ g : Nat → Int, ∃ w : Int, u' = (uV (uI (uI u 4 f) 5 g) 6 w) ∧ (0 ≤ w ∧ w ≤ u.2.2 6 ∧ (0 < u.2.2 6 → 0 < w) ∧ os_s f g w ∧ bd 10000 f g w ∧ (∀ K : Int, bd K (u.1 4) (u.1 5) (u.2.2 6) → bd K f g w) ∧ ∀ x y : Int, SWW f g w x y ↔ SWW (u.1 4) (u.1 5) (u.2.2 6) x y)) (fun u' H => va_P D.1 j_cl (mW D o q u') H) A) (([.ref o] : List Value).toArray) st 0 0 A) (F0 mi 12 ls []) := by
          intro nn
          induction nn with
          | zero => intros; omega
          | succ nn ih_12 =>
            intro j f2 g2 H locs hP hS ls hl i12_0 i12_1 i12_2 i12_3 i12_4 hm
            refine lv_iload_n SS.1 SS.2.1 dX12_order_12 rfl (lv_at hl 2 rfl) ?_
            refine j_if_le SS (tgt := 95) (x := j) dX12_order_13 (by decide) (by omega) (fun c_13 => ?_) (fun c_13 => ?_)
            · skip
              refine lv_iinc (v := J (i + 1)) (lv' := [(1, .int (J (i + 1))), (0, .ref o), (2, .int (J j))]) SS.1 SS.2.1 dX12_order_95 hl (k := 1) rfl (J_add _ _) (by decide) rfl (fun ls hl => ?_)
              refine lv_goto (tgt := 2) SS.1 SS.2.1 dX12_order_98 (by decide) ?_
              exact ih_2 (i + 1) f2 g2 _ _ hP hS ls (lv_sub hl [1, 0] rfl) (by omega) (by first | exact os_end i12_1 (Or.inl (by omega)) | exact os_end i12_1 (Or.inr ⟨by omega, by omega, by rcases h_21 with h | h; omega; exact h.2⟩)) (i12_2) (i12_4) (by omega)
            · skip
              refine lv_aload_n SS.1 SS.2.1 dX12_order_16 rfl (lv_at hl 0 rfl) ?_
              refine lv_iload_n SS.1 SS.2.1 dX12_order_17 rfl (lv_at hl 2 rfl) ?_
              refine j_iconst SS dX12_order_18 ?_
              refine j_isub SS (x := j) (y := 1) dX12_order_19 ?_
              refine lv_iload_n SS.1 SS.2.1 dX12_order_20 rfl (lv_at hl 2 rfl) ?_
              refine j_vRi SS (As := [.int (J (j - 1)), .int (J j)]) (rest := []) (c_X12_isAfter l D o q (uI (uI u 4 f2) 5 g2) (j - 1) j (show 0 ≤ (j - 1) ∧ (j - 1) < 640 from (by omega)) (show 0 ≤ j ∧ j < 640 from (by omega)) (show -10000 ≤ f2 (j - 1).toNat ∧ f2 (j - 1).toNat ≤ 10000 from (by have q := bd_at i12_3 (z := j - 1) (by omega) (by omega); exact q.1)) (show -10000 ≤ f2 j.toNat ∧ f2 j.toNat ≤ 10000 from (by have q := bd_at i12_3 (z := j) (by omega) (by omega); exact q.1)) (show -10000 ≤ g2 (j - 1).toNat ∧ g2 (j - 1).toNat ≤ 10000 from (by have q := bd_at i12_3 (z := j - 1) (by omega) (by omega); exact q.2)) (show -10000 ≤ g2 j.toNat ∧ g2 j.toNat ≤ 10000 from (by have q := bd_at i12_3 (z := j) (by omega) (by omega); exact q.2))) mf_X12_isAfter kw_1197 hG hP hP (ci := 8) (q0 := 0) rfl rfl rfl rfl hl.1 ⟨⟨Nat.le_of_ble_eq_true rfl, Nat.le_of_ble_eq_true rfl⟩, Nat.le_of_ble_eq_true rfl, Nat.le_refl _, Nat.le_refl _⟩ rfl dX12_order_21 (fun z_21 h_21 => ?_)
              have h_21 : (z_21 = 1 ∧ lt2 (f2 j.toNat) (g2 j.toNat) (f2 (j - 1).toNat) (g2 (j - 1).toNat)) ∨ (z_21 = 0 ∧ ¬ lt2 (f2 j.toNat) (g2 j.toNat) (f2 (j - 1).toNat) (g2 (j - 1).toNat)) := h_21
              refine j_if_eq SS (tgt := 95) (x := z_21) dX12_order_24 (by decide) (by omega) (fun c_24 => ?_) (fun c_24 => ?_)
              · skip
                refine lv_iinc (v := J (i + 1)) (lv' := [(1, .int (J (i + 1))), (0, .ref o), (2, .int (J j))]) SS.1 SS.2.1 dX12_order_95 hl (k := 1) rfl (J_add _ _) (by decide) rfl (fun ls hl => ?_)
                refine lv_goto (tgt := 2) SS.1 SS.2.1 dX12_order_98 (by decide) ?_
                exact ih_2 (i + 1) f2 g2 _ _ hP hS ls (lv_sub hl [1, 0] rfl) (by omega) (by first | exact os_end i12_1 (Or.inl (by omega)) | exact os_end i12_1 (Or.inr ⟨by omega, by omega, by rcases h_21 with h | h; omega; exact h.2⟩)) (i12_2) (i12_4) (by omega)
              · skip
                refine lv_aload_n SS.1 SS.2.1 dX12_order_27 rfl (lv_at hl 0 rfl) ?_
                refine j_get SS hG hP 0 (v := .ref (q 4)) (C := RX12) (T := TX12) (N := 31) rfl rfl inX12 4 (by decide) (ref := RX12) kw_1062 rfl rfl dX12_order_28 ?_
                refine lv_iload_n SS.1 SS.2.1 dX12_order_31 rfl (lv_at hl 2 rfl) ?_
                refine j_iald SS hG hP 5 (n := 640) (f := f2) rfl (z := j) (by omega) (by omega) dX12_order_32 ?_
                refine lv_istore_n (lv' := [(3, .int (J (f2 (j).toNat))), (0, .ref o), (1, .int (J i)), (2, .int (J j))]) SS.1 SS.2.1 dX12_order_33 rfl hl (by decide) rfl (fun ls hl => ?_)
                refine lv_aload_n SS.1 SS.2.1 dX12_order_34 rfl (lv_at hl 1 rfl) ?_
                refine j_get SS hG hP 0 (v := .ref (q 5)) (C := RX12) (T := TX12) (N := 31) rfl rfl inX12 5 (by decide) (ref := RX12) kw_1063 rfl rfl dX12_order_35 ?_
                refine lv_iload_n SS.1 SS.2.1 dX12_order_38 rfl (lv_at hl 3 rfl) ?_
                refine j_iald SS hG hP 6 (n := 640) (f := g2) rfl (z := j) (by omega) (by omega) dX12_order_39 ?_
                refine lv_istore (lv' := [(4, .int (J (g2 (j).toNat))), (3, .int (J (f2 (j).toNat))), (0, .ref o), (1, .int (J i)), (2, .int (J j))]) SS.1 SS.2.1 dX12_order_40 hl (by decide) rfl (fun ls hl => ?_)
                refine lv_aload_n SS.1 SS.2.1 dX12_order_42 rfl (lv_at hl 2 rfl) ?_
                refine j_get SS hG hP 0 (v := .ref (q 4)) (C := RX12) (T := TX12) (N := 31) rfl rfl inX12 4 (by decide) (ref := RX12) kw_1062 rfl rfl dX12_order_43 ?_
                refine lv_iload_n SS.1 SS.2.1 dX12_order_46 rfl (lv_at hl 4 rfl) ?_
                refine lv_aload_n SS.1 SS.2.1 dX12_order_47 rfl (lv_at hl 2 rfl) ?_
                refine j_get SS hG hP 0 (v := .ref (q 4)) (C := RX12) (T := TX12) (N := 31) rfl rfl inX12 4 (by decide) (ref := RX12) kw_1062 rfl rfl dX12_order_48 ?_
                refine lv_iload_n SS.1 SS.2.1 dX12_order_51 rfl (lv_at hl 4 rfl) ?_
                refine j_iconst SS dX12_order_52 ?_
                refine j_isub SS (x := j) (y := 1) dX12_order_53 ?_
                refine j_iald SS hG hP 5 (n := 640) (f := f2) rfl (z := (j - 1)) (by omega) (by omega) dX12_order_54 ?_
                refine j_iast SS hG hP (mW_D hD) hS 5 (n := 640) (f := f2) rfl (z := j) (v := (f2 ((j - 1)).toNat)) (by omega) (by omega) dX12_order_55 (ws' := (mW D o q (uI (uI u 4 (upI f2 (j).toNat (f2 ((j - 1)).toNat))) 5 g2))) rfl (fun H locs hP hS => ?_)
                refine lv_aload_n SS.1 SS.2.1 dX12_order_56 rfl (lv_at hl 2 rfl) ?_
                refine j_get SS hG hP 0 (v := .ref (q 5)) (C := RX12) (T := TX12) (N := 31) rfl rfl inX12 5 (by decide) (ref := RX12) kw_1063 rfl rfl dX12_order_57 ?_
                refine lv_iload_n SS.1 SS.2.1 dX12_order_60 rfl (lv_at hl 4 rfl) ?_
                refine lv_aload_n SS.1 SS.2.1 dX12_order_61 rfl (lv_at hl 2 rfl) ?_
                refine j_get SS hG hP 0 (v := .ref (q 5)) (C := RX12) (T := TX12) (N := 31) rfl rfl inX12 5 (by decide) (ref := RX12) kw_1063 rfl rfl dX12_order_62 ?_
                refine lv_iload_n SS.1 SS.2.1 dX12_order_65 rfl (lv_at hl 4 rfl) ?_
                refine j_iconst SS dX12_order_66 ?_
                refine j_isub SS (x := j) (y := 1) dX12_order_67 ?_
                refine j_iald SS hG hP 6 (n := 640) (f := g2) rfl (z := (j - 1)) (by omega) (by omega) dX12_order_68 ?_
                refine j_iast SS hG hP (mW_D hD) hS 6 (n := 640) (f := g2) rfl (z := j) (v := (g2 ((j - 1)).toNat)) (by omega) (by omega) dX12_order_69 (ws' := (mW D o q (uI (uI u 4 (upI f2 (j).toNat (f2 ((j - 1)).toNat))) 5 (upI g2 (j).toNat (g2 ((j - 1)).toNat))))) rfl (fun H locs hP hS => ?_)
                refine lv_aload_n SS.1 SS.2.1 dX12_order_70 rfl (lv_at hl 2 rfl) ?_
                refine j_get SS hG hP 0 (v := .ref (q 4)) (C := RX12) (T := TX12) (N := 31) rfl rfl inX12 4 (by decide) (ref := RX12) kw_1062 rfl rfl dX12_order_71 ?_
                refine lv_iload_n SS.1 SS.2.1 dX12_order_74 rfl (lv_at hl 4 rfl) ?_
                refine j_iconst SS dX12_order_75 ?_
                refine j_isub SS (x := j) (y := 1) dX12_order_76 ?_
                refine lv_iload_n SS.1 SS.2.1 dX12_order_77 rfl (lv_at hl 1 rfl) ?_
                refine j_iast SS hG hP (mW_D hD) hS 5 (n := 640) (f := (upI f2 (j).toNat (f2 ((j - 1)).toNat))) rfl (z := (j - 1)) (v := (f2 (j).toNat)) (by omega) (by omega) dX12_order_78 (ws' := (mW D o q (uI (uI u 4 (upI (upI f2 (j).toNat (f2 ((j - 1)).toNat)) ((j - 1)).toNat (f2 (j).toNat))) 5 (upI g2 (j).toNat (g2 ((j - 1)).toNat))))) rfl (fun H locs hP hS => ?_)
                refine lv_aload_n SS.1 SS.2.1 dX12_order_79 rfl (lv_at hl 2 rfl) ?_
                refine j_get SS hG hP 0 (v := .ref (q 5)) (C := RX12) (T := TX12) (N := 31) rfl rfl inX12 5 (by decide) (ref := RX12) kw_1063 rfl rfl dX12_order_80 ?_
                refine lv_iload_n SS.1 SS.2.1 dX12_order_83 rfl (lv_at hl 4 rfl) ?_
                refine j_iconst SS dX12_order_84 ?_
                refine j_isub SS (x := j) (y := 1) dX12_order_85 ?_
                refine lv_iload SS.1 SS.2.1 dX12_order_86 (lv_at hl 0 rfl) ?_
                refine j_iast SS hG hP (mW_D hD) hS 6 (n := 640) (f := (upI g2 (j).toNat (g2 ((j - 1)).toNat))) rfl (z := (j - 1)) (v := (g2 (j).toNat)) (by omega) (by omega) dX12_order_88 (ws' := (mW D o q (uI (uI u 4 (upI (upI f2 (j).toNat (f2 ((j - 1)).toNat)) ((j - 1)).toNat (f2 (j).toNat))) 5 (upI (upI g2 (j).toNat (g2 ((j - 1)).toNat)) ((j - 1)).toNat (g2 (j).toNat))))) rfl (fun H locs hP hS => ?_)
                refine lv_iinc (v := J (j + (-1))) (lv' := [(2, .int (J (j + (-1)))), (4, .int (J (g2 (j).toNat))), (3, .int (J (f2 (j).toNat))), (0, .ref o), (1, .int (J i))]) SS.1 SS.2.1 dX12_order_89 hl (k := 4) rfl (J_add _ _) (by decide) rfl (fun ls hl => ?_)
                refine lv_goto (tgt := 12) SS.1 SS.2.1 dX12_order_92 (by decide) ?_
                exact ih_12 (j + (-1)) (upI (upI f2 (j).toNat (f2 ((j - 1)).toNat)) ((j - 1)).toNat (f2 (j).toNat)) (upI (upI g2 (j).toNat (g2 ((j - 1)).toNat)) ((j - 1)).toNat (g2 (j).toNat)) _ _ hP hS ls (lv_sub hl [3, 4, 0] rfl) (by omega) (os_swap (by omega) (by omega) i12_1 (by rcases h_21 with h | h; exact h.2; omega)) (fun K h => by have q := i12_2 K h; have q1 := bd_at q (z := j) (by omega) (by omega); have q2 := bd_at q (z := j - 1) (by omega) (by omega); exact bd_up (bd_up q q2.1 q2.2) q1.1 q1.2) (by have q1 := bd_at i12_3 (z := j) (by omega) (by omega); have q2 := bd_at i12_3 (z := j - 1) (by omega) (by omega); exact bd_up (bd_up i12_3 q2.1 q2.2) q1.1 q1.2) (fun x y => (SWW_swap (by omega) (by omega) (by omega) x y).trans (i12_4 x y)) (by omega)
        exact L_12 (i.toNat + 1) i f g _ _ hP hS ls (lv_sub hl [1, 2, 0] rfl) (by omega) (os_start i2_1) (i2_2) (i2_2 _ p1) (i2_3) (Nat.lt_succ_self _)
  exact L_2 ((u.2.2 6 - (1 : Int)).toNat + 1) 1 (u.1 4) (u.1 5) _ _ hP hS ls (lv_sub hl [1, 0] rfl) (by omega) (fun a h => absurd h (by omega)) (fun _ h => h) (fun _ _ => Iff.rfl) (Nat.lt_succ_self _)

set_option maxHeartbeats 4000000 in
set_option maxRecDepth 100000 in
theorem c_X12_goOn2 (l : Launch) (D : JD) (o : Nat) (q : Nat → Nat) (u : MS) (A : Nat → Prop) (hD : va_D A (mW D o q u)) (i : Int) (b : Int) (p0 : 0 ≤ i ∧ i < 640) (p1 : 0 ≤ b ∧ b ≤ u.2.2 9 ∧ u.2.2 9 < 1300) (p2 : -10000 ≤ u.1 4 i.toNat ∧ u.1 4 i.toNat ≤ 10000) (p3 : -10000 ≤ u.1 5 i.toNat ∧ u.1 5 i.toNat ≤ 10000) (p4 : bd 10000 (u.1 7) (u.1 8) (u.2.2 9)) (p5 : lft (u.1 7) (u.1 8) b (u.2.2 9)) : Met l yX12_goOn (jw yX12_goOn cX12_goOn 8 none) (jr 0 0) (jP [.ref o, .int (J i), .int (J b)] D (fun H => va_P D.1 j_cl (mW D o q u) H)) (jWv (fun u' => ∃ f : Nat → Int, ∃ g : Nat → Int, ∃ w : Int, ∃ v : Int, u' = (uV (uI (uI u 7 f) 8 g) 9 w) ∧ (w = v + 1 ∧ b ≤ v ∧ v ≤ u.2.2 9 ∧ (b < u.2.2 9 → b < v) ∧ f = upI (u.1 7) v.toNat (u.1 4 i.toNat) ∧ g = upI (u.1 8) v.toNat (u.1 5 i.toNat) ∧ lft f g b w ∧ (∀ j : Nat, v ≤ j → (j : Int) < u.2.2 9 → cx (u.1 7 j - u.1 7 (j - 1)) (u.1 8 j - u.1 8 (j - 1)) (u.1 4 i.toNat - u.1 7 (j - 1)) (u.1 5 i.toNat - u.1 8 (j - 1)) ≤ 0) ∧ (v ≤ b + 1 ∨ 0 < cx (u.1 7 (v.toNat - 1) - u.1 7 (v.toNat - 2)) (u.1 8 (v.toNat - 1) - u.1 8 (v.toNat - 2)) (u.1 4 i.toNat - u.1 7 (v.toNat - 2)) (u.1 5 i.toNat - u.1 8 (v.toNat - 2))))) (fun u' H => va_P D.1 j_cl (mW D o q u') H) A) 0 0 A := by
  refine Met.ofW (cc := cX12_goOn) (maxL := 8) (ret := none) (by decide) rfl ?_
  intro pr en st mi args below meth co s₁ B hml hv
  obtain ⟨rfl, hG, hP⟩ := hv
  have hr := B.returns
  have hlk := B.notSynchronized
  have SS : jS pr mi co cX12_goOn 8 st _ RX12 := ⟨B.exec, B.bytes, hml, findClass_of_methodNamed B.named, fun w hw => atoms_spec (ws := (jw yX12_goOn cX12_goOn 8 none)) B.pre w (List.mem_cons_of_mem _ hw)⟩
  have hl := lv_entry ([.ref o, .int (J i), .int (J b)]) (n := 8) (Nat.le_of_ble_eq_true rfl)
  rw [lg_entry_eq]
  generalize (lg_sl ([.ref o, .int (J i), .int (J b)]) ++ List.replicate (8 - (lg_sl ([.ref o, .int (J i), .int (J b)])).length) Slot.unset).toArray = ls at hl ⊢
  have hl : lv_has ls 8 [(0, .ref o), (1, .int (J i)), (2, .int (J b))] := hl
  have hS : va_S A st.heap st.heap [] := va_S.rf
  refine j_iconst SS dX12_goOn_0 ?_
  refine lv_istore_n (lv' := [(3, .int (J 1)), (0, .ref o), (1, .int (J i)), (2, .int (J b))]) SS.1 SS.2.1 dX12_goOn_1 rfl hl (by decide) rfl (fun ls hl => ?_)
  have L_2 : ∀ (nn : Nat) (t : Int) (h : Int) (H : Heap) (locs : List Loc) (hP : va_P D.1 j_cl (mW D o q (uV u 9 h)) H) (hS : va_S A st.heap H locs) (ls : Array Slot) (hl : lv_has ls 8 [(0, .ref o), (1, .int (J i)), (2, .int (J b)), (3, .int (J t))]) (i2_0 : b ≤ h ∧ h ≤ u.2.2 9 ∧ (b < u.2.2 9 → b < h)) (i2_1 : t = 1 ∨ (t = 0 ∧ (h - b ≤ 1 ∨ 0 < (u.1 7 (h - 1).toNat - u.1 7 (h - 2).toNat) * (u.1 5 i.toNat - u.1 8 (h - 2).toNat) - (u.1 8 (h - 1).toNat - u.1 8 (h - 2).toNat) * (u.1 4 i.toNat - u.1 7 (h - 2).toNat)))) (i2_2 : ∀ j : Nat, h ≤ j → (j : Int) < u.2.2 9 → cx (u.1 7 j - u.1 7 (j - 1)) (u.1 8 j - u.1 8 (j - 1)) (u.1 4 i.toNat - u.1 7 (j - 1)) (u.1 5 i.toNat - u.1 8 (j - 1)) ≤ 0), (2 * (h - b) + t).toNat < nn → W pr l en (headSpec (jw yX12_goOn cX12_goOn 8 none) (jr 0 0)).room st mi (([.ref o, .int (J i), .int (J b)] : List Value).toArray) below meth co H locs 0 0 (MQ below (jWv (fun u' => ∃ f : Nat → Int, ∃ g : Nat → Int, ∃ w : Int, ∃ v : Int, u' = (uV (uI (uI u 7 f) 8 g) 9 w) ∧ (w = v + 1 ∧ b ≤ v ∧ v ≤ u.2.2 9 ∧ (b < u.2.2 9 → b < v) ∧ f = upI (u.1 7) v.toNat (u.1 4 i.toNat) ∧ g = upI (u.1 8) v.toNat (u.1 5 i.toNat) ∧ lft f g b w ∧ (∀ j : Nat, v ≤ j → (j : Int) < u.2.2 9 → cx (u.1 7 j - u.1 7 (j - 1)) (u.1 8 j - u.1 8 (j - 1)) (u.1 4 i.toNat - u.1 7 (j - 1)) (u.1 5 i.toNat - u.1 8 (j - 1)) ≤ 0) ∧ (v ≤ b + 1 ∨ 0 < cx (u.1 7 (v.toNat - 1) - u.1 7 (v.toNat - 2)) (u.1 8 (v.toNat - 1) - u.1 8 (v.toNat - 2)) (u.1 4 i.toNat - u.1 7 (v.toNat - 2)) (u.1 5 i.toNat - u.1 8 (v.toNat - 2))))) (fun u' H => va_P D.1 j_cl (mW D o q u') H) A) (([.ref o, .int (J i), .int (J b)] : List Value).toArray) st 0 0 A) (F0 mi 2 ls []) := by
    intro nn
    induction nn with
    | zero => intros; omega
    | succ nn ih_2 =>
      intro t h H locs hP hS ls hl i2_0 i2_1 i2_2 hm
      refine lv_iload_n SS.1 SS.2.1 dX12_goOn_2 rfl (lv_at hl 3 rfl) ?_
      refine j_if_eq SS (tgt := 147) (x := t) dX12_goOn_3 (by decide) (by omega) (fun c_3 => ?_) (fun c_3 => ?_)
      · skip
        refine lv_aload_n SS.1 SS.2.1 dX12_goOn_147 rfl (lv_at hl 0 rfl) ?_
        refine j_get SS hG hP 0 (v := .ref (q 7)) (C := RX12) (T := TX12) (N := 31) rfl rfl inX12 7 (by decide) (ref := RX12) kw_1065 rfl rfl dX12_goOn_148 ?_
        refine lv_aload_n SS.1 SS.2.1 dX12_goOn_151 rfl (lv_at hl 0 rfl) ?_
        refine j_get SS hG hP 0 (v := .int (J h)) (C := RX12) (T := TX12) (N := 31) rfl rfl inX12 9 (by decide) (ref := RX12) kw_1067 rfl rfl dX12_goOn_152 ?_
        refine lv_aload_n SS.1 SS.2.1 dX12_goOn_155 rfl (lv_at hl 0 rfl) ?_
        refine j_get SS hG hP 0 (v := .ref (q 4)) (C := RX12) (T := TX12) (N := 31) rfl rfl inX12 4 (by decide) (ref := RX12) kw_1062 rfl rfl dX12_goOn_156 ?_
        refine lv_iload_n SS.1 SS.2.1 dX12_goOn_159 rfl (lv_at hl 1 rfl) ?_
        refine j_iald SS hG hP 5 (n := 640) (f := (u.1 4)) rfl (z := i) (by omega) (by omega) dX12_goOn_160 ?_
        refine j_iast SS hG hP (mW_D hD) hS 7 (n := 1300) (f := (u.1 7)) rfl (z := h) (v := ((u.1 4) (i).toNat)) (by omega) (by omega) dX12_goOn_161 (ws' := (mW D o q (uV (uI u 7 (upI (u.1 7) (h).toNat ((u.1 4) (i).toNat))) 9 h))) rfl (fun H locs hP hS => ?_)
        refine lv_aload_n SS.1 SS.2.1 dX12_goOn_162 rfl (lv_at hl 0 rfl) ?_
        refine j_get SS hG hP 0 (v := .ref (q 8)) (C := RX12) (T := TX12) (N := 31) rfl rfl inX12 8 (by decide) (ref := RX12) kw_1066 rfl rfl dX12_goOn_163 ?_
        refine lv_aload_n SS.1 SS.2.1 dX12_goOn_166 rfl (lv_at hl 0 rfl) ?_
        refine j_get SS hG hP 0 (v := .int (J h)) (C := RX12) (T := TX12) (N := 31) rfl rfl inX12 9 (by decide) (ref := RX12) kw_1067 rfl rfl dX12_goOn_167 ?_
        refine lv_aload_n SS.1 SS.2.1 dX12_goOn_170 rfl (lv_at hl 0 rfl) ?_
        refine j_get SS hG hP 0 (v := .ref (q 5)) (C := RX12) (T := TX12) (N := 31) rfl rfl inX12 5 (by decide) (ref := RX12) kw_1063 rfl rfl dX12_goOn_171 ?_
        refine lv_iload_n SS.1 SS.2.1 dX12_goOn_174 rfl (lv_at hl 1 rfl) ?_
        refine j_iald SS hG hP 6 (n := 640) (f := (u.1 5)) rfl (z := i) (by omega) (by omega) dX12_goOn_175 ?_
        refine j_iast SS hG hP (mW_D hD) hS 8 (n := 1300) (f := (u.1 8)) rfl (z := h) (v := ((u.1 5) (i).toNat)) (by omega) (by omega) dX12_goOn_176 (ws' := (mW D o q (uV (uI (uI u 7 (upI (u.1 7) (h).toNat ((u.1 4) (i).toNat))) 8 (upI (u.1 8) (h).toNat ((u.1 5) (i).toNat))) 9 h))) rfl (fun H locs hP hS => ?_)
        refine lv_aload_n SS.1 SS.2.1 dX12_goOn_177 rfl (lv_at hl 0 rfl) ?_
        refine lv_dup SS.1 SS.2.1 dX12_goOn_178 rfl ?_
        refine j_get SS hG hP 0 (v := .int (J h)) (C := RX12) (T := TX12) (N := 31) rfl rfl inX12 9 (by decide) (ref := RX12) kw_1067 rfl rfl dX12_goOn_179 ?_
        refine j_iconst SS dX12_goOn_182 ?_
        refine j_iadd SS (x := h) (y := 1) dX12_goOn_183 ?_
        refine j_put SS hG hP (mW_D hD) hS 0 (v := .int (J (h + 1))) (ty := .int) (C := RX12) (T := TX12) (N := 31) rfl rfl inX12 tyX12 tyX12_ok nmX12 9 (by decide) (ref := RX12) kw_1067 rfl rfl (by decide +kernel) rfl rfl (Nat.le_of_ble_eq_true rfl) dX12_goOn_184 (ws' := (mW D o q (uV (uI (uI u 7 (upI (u.1 7) (h).toNat ((u.1 4) (i).toNat))) 8 (upI (u.1 8) (h).toNat ((u.1 5) (i).toNat))) 9 (h + 1)))) rfl (fun H locs hP hS => ?_)
        exact W.vret SS.1 SS.2.1 hr (fun t ht hW => ⟨⟨(uV (uI (uI u 7 (upI (u.1 7) (h).toNat ((u.1 4) (i).toNat))) 8 (upI (u.1 8) (h).toNat ((u.1 5) (i).toNat))) 9 (h + 1)), rfl, (⟨(upI (u.1 7) (h).toNat ((u.1 4) (i).toNat)), (upI (u.1 8) (h).toNat ((u.1 5) (i).toNat)), (h + 1), h, rfl, ⟨rfl, by omega, by omega, by omega, rfl, rfl, lft_put (by omega) (by omega) (lft_le p5 (by omega)) (by first | (rcases i2_1 with h | h; omega; exact h.2) | exact Or.inl (by omega)), i2_2, by first | exact Or.inl (by omega) | (rcases i2_1 with h9 | h9; omega; rcases h9.2 with h8 | h8; exact Or.inl (by omega); refine Or.inr ?_; rw [show h.toNat - 1 = (h - 1).toNat by omega, show h.toNat - 2 = (h - 2).toNat by omega]; unfold cx; exact h8)⟩⟩), by show va_P D.1 j_cl (mW D o q (uV (uI (uI u 7 (upI (u.1 7) (h).toNat ((u.1 4) (i).toNat))) 8 (upI (u.1 8) (h).toNat ((u.1 5) (i).toNat))) 9 (h + 1))) t.heap; rw [ht]; exact hP⟩, hS.F ht⟩) hS.2.2 dX12_goOn_187 hlk
      · skip
        refine lv_aload_n SS.1 SS.2.1 dX12_goOn_6 rfl (lv_at hl 0 rfl) ?_
        refine j_get SS hG hP 0 (v := .int (J h)) (C := RX12) (T := TX12) (N := 31) rfl rfl inX12 9 (by decide) (ref := RX12) kw_1067 rfl rfl dX12_goOn_7 ?_
        refine lv_iload_n SS.1 SS.2.1 dX12_goOn_10 rfl (lv_at hl 2 rfl) ?_
        refine j_isub SS (x := h) (y := b) dX12_goOn_11 ?_
        refine j_iconst SS dX12_goOn_12 ?_
        try have hh : b ≤ h ∧ h ≤ u.2.2 9 := ⟨i2_0.1, i2_0.2.1⟩
        refine j_icmp_le SS (tgt := 147) (x := (h - b)) (y := 1) dX12_goOn_13 (by decide) (by omega) (by decide) (fun c_13 => ?_) (fun c_13 => ?_)
        · skip
          refine lv_aload_n SS.1 SS.2.1 dX12_goOn_147 rfl (lv_at hl 0 rfl) ?_
          refine j_get SS hG hP 0 (v := .ref (q 7)) (C := RX12) (T := TX12) (N := 31) rfl rfl inX12 7 (by decide) (ref := RX12) kw_1065 rfl rfl dX12_goOn_148 ?_
          refine lv_aload_n SS.1 SS.2.1 dX12_goOn_151 rfl (lv_at hl 0 rfl) ?_
          refine j_get SS hG hP 0 (v := .int (J h)) (C := RX12) (T := TX12) (N := 31) rfl rfl inX12 9 (by decide) (ref := RX12) kw_1067 rfl rfl dX12_goOn_152 ?_
          refine lv_aload_n SS.1 SS.2.1 dX12_goOn_155 rfl (lv_at hl 0 rfl) ?_
          refine j_get SS hG hP 0 (v := .ref (q 4)) (C := RX12) (T := TX12) (N := 31) rfl rfl inX12 4 (by decide) (ref := RX12) kw_1062 rfl rfl dX12_goOn_156 ?_
          refine lv_iload_n SS.1 SS.2.1 dX12_goOn_159 rfl (lv_at hl 1 rfl) ?_
          refine j_iald SS hG hP 5 (n := 640) (f := (u.1 4)) rfl (z := i) (by omega) (by omega) dX12_goOn_160 ?_
          refine j_iast SS hG hP (mW_D hD) hS 7 (n := 1300) (f := (u.1 7)) rfl (z := h) (v := ((u.1 4) (i).toNat)) (by omega) (by omega) dX12_goOn_161 (ws' := (mW D o q (uV (uI u 7 (upI (u.1 7) (h).toNat ((u.1 4) (i).toNat))) 9 h))) rfl (fun H locs hP hS => ?_)
          refine lv_aload_n SS.1 SS.2.1 dX12_goOn_162 rfl (lv_at hl 0 rfl) ?_
          refine j_get SS hG hP 0 (v := .ref (q 8)) (C := RX12) (T := TX12) (N := 31) rfl rfl inX12 8 (by decide) (ref := RX12) kw_1066 rfl rfl dX12_goOn_163 ?_
          refine lv_aload_n SS.1 SS.2.1 dX12_goOn_166 rfl (lv_at hl 0 rfl) ?_
          refine j_get SS hG hP 0 (v := .int (J h)) (C := RX12) (T := TX12) (N := 31) rfl rfl inX12 9 (by decide) (ref := RX12) kw_1067 rfl rfl dX12_goOn_167 ?_
          refine lv_aload_n SS.1 SS.2.1 dX12_goOn_170 rfl (lv_at hl 0 rfl) ?_
          refine j_get SS hG hP 0 (v := .ref (q 5)) (C := RX12) (T := TX12) (N := 31) rfl rfl inX12 5 (by decide) (ref := RX12) kw_1063 rfl rfl dX12_goOn_171 ?_
          refine lv_iload_n SS.1 SS.2.1 dX12_goOn_174 rfl (lv_at hl 1 rfl) ?_
          refine j_iald SS hG hP 6 (n := 640) (f := (u.1 5)) rfl (z := i) (by omega) (by omega) dX12_goOn_175 ?_
          refine j_iast SS hG hP (mW_D hD) hS 8 (n := 1300) (f := (u.1 8)) rfl (z := h) (v := ((u.1 5) (i).toNat)) (by omega) (by omega) dX12_goOn_176 (ws' := (mW D o q (uV (uI (uI u 7 (upI (u.1 7) (h).toNat ((u.1 4) (i).toNat))) 8 (upI (u.1 8) (h).toNat ((u.1 5) (i).toNat))) 9 h))) rfl (fun H locs hP hS => ?_)
          refine lv_aload_n SS.1 SS.2.1 dX12_goOn_177 rfl (lv_at hl 0 rfl) ?_
          refine lv_dup SS.1 SS.2.1 dX12_goOn_178 rfl ?_
          refine j_get SS hG hP 0 (v := .int (J h)) (C := RX12) (T := TX12) (N := 31) rfl rfl inX12 9 (by decide) (ref := RX12) kw_1067 rfl rfl dX12_goOn_179 ?_
          refine j_iconst SS dX12_goOn_182 ?_
          refine j_iadd SS (x := h) (y := 1) dX12_goOn_183 ?_
          refine j_put SS hG hP (mW_D hD) hS 0 (v := .int (J (h + 1))) (ty := .int) (C := RX12) (T := TX12) (N := 31) rfl rfl inX12 tyX12 tyX12_ok nmX12 9 (by decide) (ref := RX12) kw_1067 rfl rfl (by decide +kernel) rfl rfl (Nat.le_of_ble_eq_true rfl) dX12_goOn_184 (ws' := (mW D o q (uV (uI (uI u 7 (upI (u.1 7) (h).toNat ((u.1 4) (i).toNat))) 8 (upI (u.1 8) (h).toNat ((u.1 5) (i).toNat))) 9 (h + 1)))) rfl (fun H locs hP hS => ?_)
          exact W.vret SS.1 SS.2.1 hr (fun t ht hW => ⟨⟨(uV (uI (uI u 7 (upI (u.1 7) (h).toNat ((u.1 4) (i).toNat))) 8 (upI (u.1 8) (h).toNat ((u.1 5) (i).toNat))) 9 (h + 1)), rfl, (⟨(upI (u.1 7) (h).toNat ((u.1 4) (i).toNat)), (upI (u.1 8) (h).toNat ((u.1 5) (i).toNat)), (h + 1), h, rfl, ⟨rfl, by omega, by omega, by omega, rfl, rfl, lft_put (by omega) (by omega) (lft_le p5 (by omega)) (by first | (rcases i2_1 with h | h; omega; exact h.2) | exact Or.inl (by omega)), i2_2, by first | exact Or.inl (by omega) | (rcases i2_1 with h9 | h9; omega; rcases h9.2 with h8 | h8; exact Or.inl (by omega); refine Or.inr ?_; rw [show h.toNat - 1 = (h - 1).toNat by omega, show h.toNat - 2 = (h - 2).toNat by omega]; unfold cx; exact h8)⟩⟩), by show va_P D.1 j_cl (mW D o q (uV (uI (uI u 7 (upI (u.1 7) (h).toNat ((u.1 4) (i).toNat))) 8 (upI (u.1 8) (h).toNat ((u.1 5) (i).toNat))) 9 (h + 1))) t.heap; rw [ht]; exact hP⟩, hS.F ht⟩) hS.2.2 dX12_goOn_187 hlk
        · skip
          have q1 := bd_at p4 (z := h - 1) (by omega) (by omega)
          have q2 := bd_at p4 (z := h - 2) (by omega) (by omega)
          refine lv_aload_n SS.1 SS.2.1 dX12_goOn_16 rfl (lv_at hl 0 rfl) ?_
          refine j_get SS hG hP 0 (v := .ref (q 7)) (C := RX12) (T := TX12) (N := 31) rfl rfl inX12 7 (by decide) (ref := RX12) kw_1065 rfl rfl dX12_goOn_17 ?_
          refine lv_aload_n SS.1 SS.2.1 dX12_goOn_20 rfl (lv_at hl 0 rfl) ?_
          refine j_get SS hG hP 0 (v := .int (J h)) (C := RX12) (T := TX12) (N := 31) rfl rfl inX12 9 (by decide) (ref := RX12) kw_1067 rfl rfl dX12_goOn_21 ?_
          refine j_iconst SS dX12_goOn_24 ?_
          refine j_isub SS (x := h) (y := 1) dX12_goOn_25 ?_
          refine j_iald SS hG hP 7 (n := 1300) (f := (u.1 7)) rfl (z := (h - 1)) (by omega) (by omega) dX12_goOn_26 ?_
          refine lv_aload_n SS.1 SS.2.1 dX12_goOn_27 rfl (lv_at hl 0 rfl) ?_
          refine j_get SS hG hP 0 (v := .ref (q 7)) (C := RX12) (T := TX12) (N := 31) rfl rfl inX12 7 (by decide) (ref := RX12) kw_1065 rfl rfl dX12_goOn_28 ?_
          refine lv_aload_n SS.1 SS.2.1 dX12_goOn_31 rfl (lv_at hl 0 rfl) ?_
          refine j_get SS hG hP 0 (v := .int (J h)) (C := RX12) (T := TX12) (N := 31) rfl rfl inX12 9 (by decide) (ref := RX12) kw_1067 rfl rfl dX12_goOn_32 ?_
          refine j_iconst SS dX12_goOn_35 ?_
          refine j_isub SS (x := h) (y := 2) dX12_goOn_36 ?_
          refine j_iald SS hG hP 7 (n := 1300) (f := (u.1 7)) rfl (z := (h - 2)) (by omega) (by omega) dX12_goOn_37 ?_
          refine j_isub SS (x := ((u.1 7) ((h - 1)).toNat)) (y := ((u.1 7) ((h - 2)).toNat)) dX12_goOn_38 ?_
          obtain ⟨ax, eax⟩ : ∃ z : Int, z = (((u.1 7) ((h - 1)).toNat) - ((u.1 7) ((h - 2)).toNat)) := ⟨_, rfl⟩
          rw [← eax]
          refine lv_istore (lv' := [(4, .int (J ax)), (0, .ref o), (1, .int (J i)), (2, .int (J b)), (3, .int (J t))]) SS.1 SS.2.1 dX12_goOn_39 hl (by decide) rfl (fun ls hl => ?_)
          refine lv_aload_n SS.1 SS.2.1 dX12_goOn_41 rfl (lv_at hl 1 rfl) ?_
          refine j_get SS hG hP 0 (v := .ref (q 8)) (C := RX12) (T := TX12) (N := 31) rfl rfl inX12 8 (by decide) (ref := RX12) kw_1066 rfl rfl dX12_goOn_42 ?_
          refine lv_aload_n SS.1 SS.2.1 dX12_goOn_45 rfl (lv_at hl 1 rfl) ?_
          refine j_get SS hG hP 0 (v := .int (J h)) (C := RX12) (T := TX12) (N := 31) rfl rfl inX12 9 (by decide) (ref := RX12) kw_1067 rfl rfl dX12_goOn_46 ?_
          refine j_iconst SS dX12_goOn_49 ?_
          refine j_isub SS (x := h) (y := 1) dX12_goOn_50 ?_
          refine j_iald SS hG hP 8 (n := 1300) (f := (u.1 8)) rfl (z := (h - 1)) (by omega) (by omega) dX12_goOn_51 ?_
          refine lv_aload_n SS.1 SS.2.1 dX12_goOn_52 rfl (lv_at hl 1 rfl) ?_
          refine j_get SS hG hP 0 (v := .ref (q 8)) (C := RX12) (T := TX12) (N := 31) rfl rfl inX12 8 (by decide) (ref := RX12) kw_1066 rfl rfl dX12_goOn_53 ?_
          refine lv_aload_n SS.1 SS.2.1 dX12_goOn_56 rfl (lv_at hl 1 rfl) ?_
          refine j_get SS hG hP 0 (v := .int (J h)) (C := RX12) (T := TX12) (N := 31) rfl rfl inX12 9 (by decide) (ref := RX12) kw_1067 rfl rfl dX12_goOn_57 ?_
          refine j_iconst SS dX12_goOn_60 ?_
          refine j_isub SS (x := h) (y := 2) dX12_goOn_61 ?_
          refine j_iald SS hG hP 8 (n := 1300) (f := (u.1 8)) rfl (z := (h - 2)) (by omega) (by omega) dX12_goOn_62 ?_
          refine j_isub SS (x := ((u.1 8) ((h - 1)).toNat)) (y := ((u.1 8) ((h - 2)).toNat)) dX12_goOn_63 ?_
          obtain ⟨ay, eay⟩ : ∃ z : Int, z = (((u.1 8) ((h - 1)).toNat) - ((u.1 8) ((h - 2)).toNat)) := ⟨_, rfl⟩
          rw [← eay]
          refine lv_istore (lv' := [(5, .int (J ay)), (4, .int (J ax)), (0, .ref o), (1, .int (J i)), (2, .int (J b)), (3, .int (J t))]) SS.1 SS.2.1 dX12_goOn_64 hl (by decide) rfl (fun ls hl => ?_)
          refine lv_aload_n SS.1 SS.2.1 dX12_goOn_66 rfl (lv_at hl 2 rfl) ?_
          refine j_get SS hG hP 0 (v := .ref (q 4)) (C := RX12) (T := TX12) (N := 31) rfl rfl inX12 4 (by decide) (ref := RX12) kw_1062 rfl rfl dX12_goOn_67 ?_
          refine lv_iload_n SS.1 SS.2.1 dX12_goOn_70 rfl (lv_at hl 3 rfl) ?_
          refine j_iald SS hG hP 5 (n := 640) (f := (u.1 4)) rfl (z := i) (by omega) (by omega) dX12_goOn_71 ?_
          refine lv_aload_n SS.1 SS.2.1 dX12_goOn_72 rfl (lv_at hl 2 rfl) ?_
          refine j_get SS hG hP 0 (v := .ref (q 7)) (C := RX12) (T := TX12) (N := 31) rfl rfl inX12 7 (by decide) (ref := RX12) kw_1065 rfl rfl dX12_goOn_73 ?_
          refine lv_aload_n SS.1 SS.2.1 dX12_goOn_76 rfl (lv_at hl 2 rfl) ?_
          refine j_get SS hG hP 0 (v := .int (J h)) (C := RX12) (T := TX12) (N := 31) rfl rfl inX12 9 (by decide) (ref := RX12) kw_1067 rfl rfl dX12_goOn_77 ?_
          refine j_iconst SS dX12_goOn_80 ?_
          refine j_isub SS (x := h) (y := 2) dX12_goOn_81 ?_
          refine j_iald SS hG hP 7 (n := 1300) (f := (u.1 7)) rfl (z := (h - 2)) (by omega) (by omega) dX12_goOn_82 ?_
          refine j_isub SS (x := ((u.1 4) (i).toNat)) (y := ((u.1 7) ((h - 2)).toNat)) dX12_goOn_83 ?_
          obtain ⟨bx, ebx⟩ : ∃ z : Int, z = (((u.1 4) (i).toNat) - ((u.1 7) ((h - 2)).toNat)) := ⟨_, rfl⟩
          rw [← ebx]
          refine lv_istore (lv' := [(6, .int (J bx)), (5, .int (J ay)), (4, .int (J ax)), (0, .ref o), (1, .int (J i)), (2, .int (J b)), (3, .int (J t))]) SS.1 SS.2.1 dX12_goOn_84 hl (by decide) rfl (fun ls hl => ?_)
          refine lv_aload_n SS.1 SS.2.1 dX12_goOn_86 rfl (lv_at hl 3 rfl) ?_
          refine j_get SS hG hP 0 (v := .ref (q 5)) (C := RX12) (T := TX12) (N := 31) rfl rfl inX12 5 (by decide) (ref := RX12) kw_1063 rfl rfl dX12_goOn_87 ?_
          refine lv_iload_n SS.1 SS.2.1 dX12_goOn_90 rfl (lv_at hl 4 rfl) ?_
          refine j_iald SS hG hP 6 (n := 640) (f := (u.1 5)) rfl (z := i) (by omega) (by omega) dX12_goOn_91 ?_
          refine lv_aload_n SS.1 SS.2.1 dX12_goOn_92 rfl (lv_at hl 3 rfl) ?_
          refine j_get SS hG hP 0 (v := .ref (q 8)) (C := RX12) (T := TX12) (N := 31) rfl rfl inX12 8 (by decide) (ref := RX12) kw_1066 rfl rfl dX12_goOn_93 ?_
          refine lv_aload_n SS.1 SS.2.1 dX12_goOn_96 rfl (lv_at hl 3 rfl) ?_
          refine j_get SS hG hP 0 (v := .int (J h)) (C := RX12) (T := TX12) (N := 31) rfl rfl inX12 9 (by decide) (ref := RX12) kw_1067 rfl rfl dX12_goOn_97 ?_
          refine j_iconst SS dX12_goOn_100 ?_
          refine j_isub SS (x := h) (y := 2) dX12_goOn_101 ?_
          refine j_iald SS hG hP 8 (n := 1300) (f := (u.1 8)) rfl (z := (h - 2)) (by omega) (by omega) dX12_goOn_102 ?_
          refine j_isub SS (x := ((u.1 5) (i).toNat)) (y := ((u.1 8) ((h - 2)).toNat)) dX12_goOn_103 ?_
          obtain ⟨by4, eby4⟩ : ∃ z : Int, z = (((u.1 5) (i).toNat) - ((u.1 8) ((h - 2)).toNat)) := ⟨_, rfl⟩
          rw [← eby4]
          refine lv_istore (lv' := [(7, .int (J by4)), (6, .int (J bx)), (5, .int (J ay)), (4, .int (J ax)), (0, .ref o), (1, .int (J i)), (2, .int (J b)), (3, .int (J t))]) SS.1 SS.2.1 dX12_goOn_104 hl (by decide) rfl (fun ls hl => ?_)
          refine lv_iload SS.1 SS.2.1 dX12_goOn_106 (lv_at hl 3 rfl) ?_
          refine lv_iload SS.1 SS.2.1 dX12_goOn_108 (lv_at hl 0 rfl) ?_
          refine j_imul SS (x := ax) (y := by4) dX12_goOn_110 ?_
          refine lv_iload SS.1 SS.2.1 dX12_goOn_111 (lv_at hl 2 rfl) ?_
          refine lv_iload SS.1 SS.2.1 dX12_goOn_113 (lv_at hl 1 rfl) ?_
          refine j_imul SS (x := ay) (y := bx) dX12_goOn_115 ?_
          refine j_isub SS (x := (ax * by4)) (y := (ay * bx)) dX12_goOn_116 ?_
          have m1 := mulb (A := 20000) (B := 20000) (a := ax) (b := by4) (by omega) (by omega)
          have m2 := mulb (A := 20000) (B := 20000) (a := ay) (b := bx) (by omega) (by omega)
          refine j_if_gt SS (tgt := 124) (x := ((ax * by4) - (ay * bx))) dX12_goOn_117 (by decide) (by omega) (fun c_117 => ?_) (fun c_117 => ?_)
          · skip
            refine j_iconst SS dX12_goOn_124 ?_
            refine lv_istore_n (lv' := [(3, .int (J 0)), (7, .int (J by4)), (6, .int (J bx)), (5, .int (J ay)), (4, .int (J ax)), (0, .ref o), (1, .int (J i)), (2, .int (J b))]) SS.1 SS.2.1 dX12_goOn_125 rfl hl (by decide) rfl (fun ls hl => ?_)
            refine lv_aload_n SS.1 SS.2.1 dX12_goOn_126 rfl (lv_at hl 5 rfl) ?_
            refine lv_dup SS.1 SS.2.1 dX12_goOn_127 rfl ?_
            refine j_get SS hG hP 0 (v := .int (J h)) (C := RX12) (T := TX12) (N := 31) rfl rfl inX12 9 (by decide) (ref := RX12) kw_1067 rfl rfl dX12_goOn_128 ?_
            refine lv_iload_n SS.1 SS.2.1 dX12_goOn_131 rfl (lv_at hl 0 rfl) ?_
            refine j_if_eq SS (tgt := 139) dX12_goOn_132 (by decide) (by decide) (fun c_132 => ?_) (fun c_132 => absurd c_132 (by decide))
            refine j_iconst SS dX12_goOn_139 ?_
            refine j_isub SS (x := h) (y := 0) dX12_goOn_140 ?_
            refine j_put SS hG hP (mW_D hD) hS 0 (v := .int (J (h - 0))) (ty := .int) (C := RX12) (T := TX12) (N := 31) rfl rfl inX12 tyX12 tyX12_ok nmX12 9 (by decide) (ref := RX12) kw_1067 rfl rfl (by decide +kernel) rfl rfl (Nat.le_of_ble_eq_true rfl) dX12_goOn_141 (ws' := (mW D o q (uV u 9 (h - 0)))) rfl (fun H locs hP hS => ?_)
            refine lv_goto (tgt := 2) SS.1 SS.2.1 dX12_goOn_144 (by decide) ?_
            exact ih_2 0 (h - 0) _ _ hP hS ls (lv_sub hl [5, 6, 7, 0] rfl) (by omega) (by first | exact Or.inl rfl | exact Or.inr ⟨rfl, Or.inr (by rw [eax, eay, ebx, eby4] at c_117; rw [show h - 0 = h by omega]; exact c_117)⟩) (by first | exact (fun j h1 h2 => i2_2 j (by omega) h2) | exact (fun j h1 h2 => by by_cases e : (j : Int) = h - 1; (rw [show j - 1 = (h - 2).toNat by omega, show j = (h - 1).toNat by omega]; unfold cx; rw [eax, eay, ebx, eby4] at c_117; exact c_117); exact i2_2 j (by omega) h2)) (by omega)
          · skip
            refine j_iconst SS dX12_goOn_120 ?_
            refine lv_goto (tgt := 125) SS.1 SS.2.1 dX12_goOn_121 (by decide) ?_
            refine lv_istore_n (lv' := [(3, .int (J 1)), (7, .int (J by4)), (6, .int (J bx)), (5, .int (J ay)), (4, .int (J ax)), (0, .ref o), (1, .int (J i)), (2, .int (J b))]) SS.1 SS.2.1 dX12_goOn_125 rfl hl (by decide) rfl (fun ls hl => ?_)
            refine lv_aload_n SS.1 SS.2.1 dX12_goOn_126 rfl (lv_at hl 5 rfl) ?_
            refine lv_dup SS.1 SS.2.1 dX12_goOn_127 rfl ?_
            refine j_get SS hG hP 0 (v := .int (J h)) (C := RX12) (T := TX12) (N := 31) rfl rfl inX12 9 (by decide) (ref := RX12) kw_1067 rfl rfl dX12_goOn_128 ?_
            refine lv_iload_n SS.1 SS.2.1 dX12_goOn_131 rfl (lv_at hl 0 rfl) ?_
            refine j_if_eq SS (tgt := 139) dX12_goOn_132 (by decide) (by decide) (fun c_132 => absurd c_132 (by decide)) (fun c_132 => ?_)
            refine j_iconst SS dX12_goOn_135 ?_
            refine lv_goto (tgt := 140) SS.1 SS.2.1 dX12_goOn_136 (by decide) ?_
            refine j_isub SS (x := h) (y := 1) dX12_goOn_140 ?_
            refine j_put SS hG hP (mW_D hD) hS 0 (v := .int (J (h - 1))) (ty := .int) (C := RX12) (T := TX12) (N := 31) rfl rfl inX12 tyX12 tyX12_ok nmX12 9 (by decide) (ref := RX12) kw_1067 rfl rfl (by decide +kernel) rfl rfl (Nat.le_of_ble_eq_true rfl) dX12_goOn_141 (ws' := (mW D o q (uV u 9 (h - 1)))) rfl (fun H locs hP hS => ?_)
            refine lv_goto (tgt := 2) SS.1 SS.2.1 dX12_goOn_144 (by decide) ?_
            exact ih_2 1 (h - 1) _ _ hP hS ls (lv_sub hl [5, 6, 7, 0] rfl) (by omega) (by first | exact Or.inl rfl | exact Or.inr ⟨rfl, Or.inr (by rw [eax, eay, ebx, eby4] at c_117; rw [show h - 0 = h by omega]; exact c_117)⟩) (by first | exact (fun j h1 h2 => i2_2 j (by omega) h2) | exact (fun j h1 h2 => by by_cases e : (j : Int) = h - 1; (rw [show j - 1 = (h - 2).toNat by omega, show j = (h - 1).toNat by omega]; unfold cx; rw [eax, eay, ebx, eby4] at c_117; exact c_117); exact i2_2 j (by omega) h2)) (by omega)
  exact L_2 ((2 * ((u.2.2 9) - b) + (1 : Int)).toNat + 1) 1 (u.2.2 9) _ _ hP hS ls (lv_sub hl [1, 2, 3, 0] rfl) (by omega) (Or.inl rfl) (fun j h1 h2 => by omega) (Nat.lt_succ_self _)

set_option maxHeartbeats 4000000 in
set_option maxRecDepth 100000 in
theorem c_X12_findHull2 (l : Launch) (D : JD) (o : Nat) (q : Nat → Nat) (u : MS) (A : Nat → Prop) (hD : va_D A (mW D o q u)) (p0 : 0 ≤ u.2.2 6 ∧ u.2.2 6 ≤ 640) (p1 : bd 10000 (u.1 4) (u.1 5) (u.2.2 6)) : Met l yX12_findHull (jw yX12_findHull cX12_findHull 3 none) (jr 2 46) (jP [.ref o] D (fun H => va_P D.1 j_cl (mW D o q u) H)) (jWv (fun u' => ∃ f : Nat → Int, ∃ g : Nat → Int, ∃ w : Int, ∃ X : Nat → Int, ∃ Y : Nat → Int, ∃ nh : Int, u' = (uV (uI (uI (uV (uI (uI u 4 f) 5 g) 6 w) 7 X) 8 Y) 9 nh) ∧ (0 ≤ nh ∧ nh ≤ 1290 ∧ Ch nh X Y ∧ (0 < u.2.2 6 → 0 < nh) ∧ bd 10000 X Y nh ∧ (∀ K : Int, bd K (u.1 4) (u.1 5) (u.2.2 6) → bd K X Y nh) ∧ HS (SWW (u.1 4) (u.1 5) (u.2.2 6)) nh X Y)) (fun u' H => va_P D.1 j_cl (mW D o q u') H) A) 0 0 A := by
  refine Met.ofW (cc := cX12_findHull) (maxL := 3) (ret := none) (by decide) rfl ?_
  intro pr en st mi args below meth co s₁ B hml hv
  obtain ⟨rfl, hG, hP⟩ := hv
  have hr := B.returns
  have hlk := B.notSynchronized
  have SS : jS pr mi co cX12_findHull 3 st _ RX12 := ⟨B.exec, B.bytes, hml, findClass_of_methodNamed B.named, fun w hw => atoms_spec (ws := (jw yX12_findHull cX12_findHull 3 none)) B.pre w (List.mem_cons_of_mem _ hw)⟩
  have hl := lv_entry ([.ref o]) (n := 3) (Nat.le_of_ble_eq_true rfl)
  rw [lg_entry_eq]
  generalize (lg_sl ([.ref o]) ++ List.replicate (3 - (lg_sl ([.ref o])).length) Slot.unset).toArray = ls at hl ⊢
  have hl : lv_has ls 3 [(0, .ref o)] := hl
  have hS : va_S A st.heap st.heap [] := va_S.rf
  refine lv_aload_n SS.1 SS.2.1 dX12_findHull_0 rfl (lv_at hl 0 rfl) ?_
  refine j_vWv SS (As := []) (rest := []) (c_X12_order2 l D o q u A (mW_D hD)  (show 0 ≤ (u.2.2 6) ∧ (u.2.2 6) ≤ 640 from (by omega)) (show bd 10000 ((u.1 4)) ((u.1 5)) ((u.2.2 6)) from (p1))) mf_X12_order kw_1193 hG hP hP (ci := 8) (q0 := 0) rfl rfl rfl hS (fun _ h => h) rfl hl.1 ⟨⟨Nat.le_of_ble_eq_true rfl, Nat.le_of_ble_eq_true rfl⟩, Nat.le_of_ble_eq_true rfl, Nat.le_refl _, Nat.le_refl _⟩ rfl dX12_findHull_1 (fun u1 H locs h_1 hP _ hS => ?_)
  obtain ⟨f_1, g_1, w_1, rfl, h_1⟩ := h_1
  have hP : va_P D.1 j_cl (mW D o q (uV (uI (uI u 4 f_1) 5 g_1) 6 w_1)) H := hP
  have h_1 : 0 ≤ w_1 ∧ w_1 ≤ (u.2.2 6) ∧ (0 < (u.2.2 6) → 0 < w_1) ∧ os_s f_1 g_1 w_1 ∧ bd 10000 f_1 g_1 w_1 ∧ (∀ K : Int, bd K ((u.1 4)) ((u.1 5)) ((u.2.2 6)) → bd K f_1 g_1 w_1) ∧ ∀ x y : Int, SWW f_1 g_1 w_1 x y ↔ SWW ((u.1 4)) ((u.1 5)) ((u.2.2 6)) x y := h_1
  obtain ⟨hw1, hw2, hwp, hw3, hwb, hwK, hwS⟩ := h_1
  refine lv_aload_n SS.1 SS.2.1 dX12_findHull_4 rfl (lv_at hl 0 rfl) ?_
  refine j_iconst SS dX12_findHull_5 ?_
  refine j_put SS hG hP (mW_D hD) hS 0 (v := .int (J 0)) (ty := .int) (C := RX12) (T := TX12) (N := 31) rfl rfl inX12 tyX12 tyX12_ok nmX12 9 (by decide) (ref := RX12) kw_1067 rfl rfl (by decide +kernel) rfl rfl (Nat.le_of_ble_eq_true rfl) dX12_findHull_6 (ws' := (mW D o q (uV (uV (uI (uI u 4 f_1) 5 g_1) 6 w_1) 9 0))) rfl (fun H locs hP hS => ?_)
  refine j_iconst SS dX12_findHull_9 ?_
  refine lv_istore_n (lv' := [(1, .int (J 0)), (0, .ref o)]) SS.1 SS.2.1 dX12_findHull_10 rfl hl (by decide) rfl (fun ls hl => ?_)
  have L_11 : ∀ (nn : Nat) (i : Int) (X : Nat → Int) (Y : Nat → Int) (h : Int) (H : Heap) (locs : List Loc) (hP : va_P D.1 j_cl (mW D o q (uV (uI (uI (uV (uI (uI u 4 f_1) 5 g_1) 6 w_1) 7 X) 8 Y) 9 h)) H) (hS : va_S A st.heap H locs) (ls : Array Slot) (hl : lv_has ls 3 [(0, .ref o), (1, .int (J i))]) (i11_0 : 0 ≤ i ∧ i ≤ w_1) (i11_1 : fl f_1 g_1 X Y i h) (i11_2 : bd 10000 X Y h) (i11_3 : 0 < i → chx (SWW f_1 g_1 i) X Y 0 h.toNat), (w_1 - i).toNat < nn → W pr l en (headSpec (jw yX12_findHull cX12_findHull 3 none) (jr 2 46)).room st mi (([.ref o] : List Value).toArray) below meth co H locs 0 0 (MQ below (jWv (fun u' => ∃ f : Nat → Int, ∃ g : Nat → Int, ∃ w : Int, ∃ X : Nat → Int, ∃ Y : Nat → Int, ∃ nh : Int, u' = (uV (uI (uI (uV (uI (uI u 4 f) 5 g) 6 w) 7 X) 8 Y) 9 nh) ∧ (0 ≤ nh ∧ nh ≤ 1290 ∧ Ch nh X Y ∧ (0 < u.2.2 6 → 0 < nh) ∧ bd 10000 X Y nh ∧ (∀ K : Int, bd K (u.1 4) (u.1 5) (u.2.2 6) → bd K X Y nh) ∧ HS (SWW (u.1 4) (u.1 5) (u.2.2 6)) nh X Y)) (fun u' H => va_P D.1 j_cl (mW D o q u') H) A) (([.ref o] : List Value).toArray) st 0 0 A) (F0 mi 11 ls []) := by
    intro nn
    induction nn with
    | zero => intros; omega
    | succ nn ih_11 =>
      intro i X Y h H locs hP hS ls hl i11_0 i11_1 i11_2 i11_3 hm
      have hf1 := i11_1.1
      have hf2 := i11_1.2.1
      refine lv_iload_n SS.1 SS.2.1 dX12_findHull_11 rfl (lv_at hl 1 rfl) ?_
      refine lv_aload_n SS.1 SS.2.1 dX12_findHull_12 rfl (lv_at hl 0 rfl) ?_
      refine j_get SS hG hP 0 (v := .int (J w_1)) (C := RX12) (T := TX12) (N := 31) rfl rfl inX12 6 (by decide) (ref := RX12) kw_1064 rfl rfl dX12_findHull_13 ?_
      refine j_icmp_ge SS (tgt := 31) (x := i) (y := w_1) dX12_findHull_16 (by decide) (by omega) (by omega) (fun c_16 => ?_) (fun c_16 => ?_)
      · skip
        have hh : 0 < w_1 → 0 < h := fun q => (i11_1.2.2.1 (by omega)).1
        have hh2 : 1 < w_1 → 1 < h := fun q => i11_1.2.2.2.1 (by omega)
        refine lv_aload_n SS.1 SS.2.1 dX12_findHull_31 rfl (lv_at hl 0 rfl) ?_
        refine j_get SS hG hP 0 (v := .int (J h)) (C := RX12) (T := TX12) (N := 31) rfl rfl inX12 9 (by decide) (ref := RX12) kw_1067 rfl rfl dX12_findHull_32 ?_
        refine j_iconst SS dX12_findHull_35 ?_
        refine j_isub SS (x := h) (y := 1) dX12_findHull_36 ?_
        refine lv_istore_n (lv' := [(1, .int (J (h - 1))), (0, .ref o)]) SS.1 SS.2.1 dX12_findHull_37 rfl hl (by decide) rfl (fun ls hl => ?_)
        refine lv_aload_n SS.1 SS.2.1 dX12_findHull_38 rfl (lv_at hl 1 rfl) ?_
        refine j_get SS hG hP 0 (v := .int (J w_1)) (C := RX12) (T := TX12) (N := 31) rfl rfl inX12 6 (by decide) (ref := RX12) kw_1064 rfl rfl dX12_findHull_39 ?_
        refine j_iconst SS dX12_findHull_42 ?_
        refine j_isub SS (x := w_1) (y := 2) dX12_findHull_43 ?_
        refine lv_istore_n (lv' := [(2, .int (J (w_1 - 2))), (1, .int (J (h - 1))), (0, .ref o)]) SS.1 SS.2.1 dX12_findHull_44 rfl hl (by decide) rfl (fun ls hl => ?_)
        have L_45 : ∀ (nn : Nat) (i2 : Int) (X2 : Nat → Int) (Y2 : Nat → Int) (h2 : Int) (H : Heap) (locs : List Loc) (hP : va_P D.1 j_cl (mW D o q (uV (uI (uI (uV (uI (uI u 4 f_1) 5 g_1) 6 w_1) 7 X2) 8 Y2) 9 h2)) H) (hS : va_S A st.heap H locs) (ls : Array Slot) (hl : lv_has ls 3 [(0, .ref o), (1, .int (J (h - 1))), (2, .int (J i2))]) (i45_0 : -1 ≤ i2 ∧ i2 ≤ w_1 - 2 ∧ 1 ≤ w_1 ∨ (w_1 = 0 ∧ h2 = 0 ∧ i2 = -2)) (i45_1 : 1 ≤ w_1 → fu f_1 g_1 X Y X2 Y2 (h - 1) w_1 i2 h2) (i45_2 : bd 10000 X2 Y2 h2) (i45_3 : 1 ≤ w_1 → chx (ngS (SU f_1 g_1 i2 w_1)) (ng X2) (ng Y2) (h - 1).toNat h2.toNat), (i2 + 2).toNat < nn → W pr l en (headSpec (jw yX12_findHull cX12_findHull 3 none) (jr 2 46)).room st mi (([.ref o] : List Value).toArray) below meth co H locs 0 0 (MQ below (jWv (fun u' => ∃ f : Nat → Int, ∃ g : Nat → Int, ∃ w : Int, ∃ X : Nat → Int, ∃ Y : Nat → Int, ∃ nh : Int, u' = (uV (uI (uI (uV (uI (uI u 4 f) 5 g) 6 w) 7 X) 8 Y) 9 nh) ∧ (0 ≤ nh ∧ nh ≤ 1290 ∧ Ch nh X Y ∧ (0 < u.2.2 6 → 0 < nh) ∧ bd 10000 X Y nh ∧ (∀ K : Int, bd K (u.1 4) (u.1 5) (u.2.2 6) → bd K X Y nh) ∧ HS (SWW (u.1 4) (u.1 5) (u.2.2 6)) nh X Y)) (fun u' H => va_P D.1 j_cl (mW D o q u') H) A) (([.ref o] : List Value).toArray) st 0 0 A) (F0 mi 45 ls []) := by
          intro nn
          induction nn with
          | zero => intros; omega
          | succ nn ih_45 =>
            intro i2 X2 Y2 h2 H locs hP hS ls hl i45_0 i45_1 i45_2 i45_3 hm
            refine lv_iload_n SS.1 SS.2.1 dX12_findHull_45 rfl (lv_at hl 2 rfl) ?_
            refine j_if_lt SS (tgt := 61) (x := i2) dX12_findHull_46 (by decide) (by omega) (fun c_46 => ?_) (fun c_46 => ?_)
            · skip
              have hq : 1 ≤ w_1 → h ≤ h2 ∧ h2 ≤ h + w_1 - i2 - 2 := fun q => ⟨by have := (i45_1 q).1; omega, by have := (i45_1 q).2.1; omega⟩
              refine lv_aload_n SS.1 SS.2.1 dX12_findHull_61 rfl (lv_at hl 0 rfl) ?_
              refine lv_dup SS.1 SS.2.1 dX12_findHull_62 rfl ?_
              refine j_get SS hG hP 0 (v := .int (J h2)) (C := RX12) (T := TX12) (N := 31) rfl rfl inX12 9 (by decide) (ref := RX12) kw_1067 rfl rfl dX12_findHull_63 ?_
              refine lv_aload_n SS.1 SS.2.1 dX12_findHull_66 rfl (lv_at hl 0 rfl) ?_
              refine j_get SS hG hP 0 (v := .int (J w_1)) (C := RX12) (T := TX12) (N := 31) rfl rfl inX12 6 (by decide) (ref := RX12) kw_1064 rfl rfl dX12_findHull_67 ?_
              refine j_iconst SS dX12_findHull_70 ?_
              refine j_icmp_le SS (tgt := 78) (x := w_1) (y := 1) dX12_findHull_71 (by decide) (by omega) (by decide) (fun c_71 => ?_) (fun c_71 => ?_)
              · skip
                refine j_iconst SS dX12_findHull_78 ?_
                refine j_isub SS (x := h2) (y := 0) dX12_findHull_79 ?_
                refine j_put SS hG hP (mW_D hD) hS 0 (v := .int (J (h2 - 0))) (ty := .int) (C := RX12) (T := TX12) (N := 31) rfl rfl inX12 tyX12 tyX12_ok nmX12 9 (by decide) (ref := RX12) kw_1067 rfl rfl (by decide +kernel) rfl rfl (Nat.le_of_ble_eq_true rfl) dX12_findHull_80 (ws' := (mW D o q (uV (uI (uI (uV (uI (uI u 4 f_1) 5 g_1) 6 w_1) 7 X2) 8 Y2) 9 (h2 - 0)))) rfl (fun H locs hP hS => ?_)
                exact W.vret SS.1 SS.2.1 hr (fun t ht hW => ⟨⟨(uV (uI (uI (uV (uI (uI u 4 f_1) 5 g_1) 6 w_1) 7 X2) 8 Y2) 9 (h2 - 0)), rfl, (⟨f_1, g_1, w_1, X2, Y2, (h2 - 0), rfl, ⟨by omega, by omega, by first | exact Or.inl (by omega) | exact fu_e (by omega) (by rw [show i = w_1 by omega] at i11_1; exact i11_1) (by omega) (i45_1 (by omega)), fun q => by omega, bd_le i45_2 (by omega), fun K hK => by rcases (show 1 ≤ w_1 ∨ w_1 = 0 by omega) with q | q; exact bd_le ((i45_1 q).2.2.2.2.2.2.2 K (hwK K hK)) (by omega); exact fun a ha => by omega, HS_c (hu_r (by omega) (by omega) (by rw [show i = w_1 by omega] at i11_1; exact i11_1) (by rw [show i = w_1 by omega] at i11_3; exact i11_3) i45_0 (by omega) i45_1 i45_3) hwS (fun a _ => ⟨rfl, rfl⟩)⟩⟩), by show va_P D.1 j_cl (mW D o q (uV (uI (uI (uV (uI (uI u 4 f_1) 5 g_1) 6 w_1) 7 X2) 8 Y2) 9 (h2 - 0))) t.heap; rw [ht]; exact hP⟩, hS.F ht⟩) hS.2.2 dX12_findHull_83 hlk
              · skip
                refine j_iconst SS dX12_findHull_74 ?_
                refine lv_goto (tgt := 79) SS.1 SS.2.1 dX12_findHull_75 (by decide) ?_
                refine j_isub SS (x := h2) (y := 1) dX12_findHull_79 ?_
                refine j_put SS hG hP (mW_D hD) hS 0 (v := .int (J (h2 - 1))) (ty := .int) (C := RX12) (T := TX12) (N := 31) rfl rfl inX12 tyX12 tyX12_ok nmX12 9 (by decide) (ref := RX12) kw_1067 rfl rfl (by decide +kernel) rfl rfl (Nat.le_of_ble_eq_true rfl) dX12_findHull_80 (ws' := (mW D o q (uV (uI (uI (uV (uI (uI u 4 f_1) 5 g_1) 6 w_1) 7 X2) 8 Y2) 9 (h2 - 1)))) rfl (fun H locs hP hS => ?_)
                exact W.vret SS.1 SS.2.1 hr (fun t ht hW => ⟨⟨(uV (uI (uI (uV (uI (uI u 4 f_1) 5 g_1) 6 w_1) 7 X2) 8 Y2) 9 (h2 - 1)), rfl, (⟨f_1, g_1, w_1, X2, Y2, (h2 - 1), rfl, ⟨by omega, by omega, by first | exact Or.inl (by omega) | exact fu_e (by omega) (by rw [show i = w_1 by omega] at i11_1; exact i11_1) (by omega) (i45_1 (by omega)), fun q => by omega, bd_le i45_2 (by omega), fun K hK => by rcases (show 1 ≤ w_1 ∨ w_1 = 0 by omega) with q | q; exact bd_le ((i45_1 q).2.2.2.2.2.2.2 K (hwK K hK)) (by omega); exact fun a ha => by omega, HS_c (hu_r (by omega) (by omega) (by rw [show i = w_1 by omega] at i11_1; exact i11_1) (by rw [show i = w_1 by omega] at i11_3; exact i11_3) i45_0 (by omega) i45_1 i45_3) hwS (fun a _ => ⟨rfl, rfl⟩)⟩⟩), by show va_P D.1 j_cl (mW D o q (uV (uI (uI (uV (uI (uI u 4 f_1) 5 g_1) 6 w_1) 7 X2) 8 Y2) 9 (h2 - 1))) t.heap; rw [ht]; exact hP⟩, hS.F ht⟩) hS.2.2 dX12_findHull_83 hlk
            · skip
              have hb := fun (j : Int) => bd_at hwb (z := i2) (by omega) (by omega)
              have hw : 1 ≤ w_1 := by omega
              have hfu := i45_1 hw
              have hfu1 := hfu.1
              have hfu2 := hfu.2.1
              refine lv_aload_n SS.1 SS.2.1 dX12_findHull_49 rfl (lv_at hl 0 rfl) ?_
              refine lv_iload_n SS.1 SS.2.1 dX12_findHull_50 rfl (lv_at hl 2 rfl) ?_
              refine lv_iload_n SS.1 SS.2.1 dX12_findHull_51 rfl (lv_at hl 1 rfl) ?_
              refine j_vWv SS (As := [.int (J i2), .int (J (h - 1))]) (rest := []) (c_X12_goOn2 l D o q (uV (uI (uI (uV (uI (uI u 4 f_1) 5 g_1) 6 w_1) 7 X2) 8 Y2) 9 h2) A (mW_D hD) i2 (h - 1) (show 0 ≤ i2 ∧ i2 < 640 from (by omega)) (show 0 ≤ (h - 1) ∧ (h - 1) ≤ h2 ∧ h2 < 1300 from (by omega)) (show -10000 ≤ f_1 i2.toNat ∧ f_1 i2.toNat ≤ 10000 from ((hb i2).1)) (show -10000 ≤ g_1 i2.toNat ∧ g_1 i2.toNat ≤ 10000 from ((hb i2).2)) (show bd 10000 (X2) (Y2) (h2) from (i45_2)) (show lft (X2) (Y2) (h - 1) (h2) from (hfu.2.2.2.2.2.1))) mf_X12_goOn kw_1201 hG hP hP (ci := 8) (q0 := 0) rfl rfl rfl hS (fun _ h => h) rfl hl.1 ⟨⟨Nat.le_of_ble_eq_true rfl, Nat.le_of_ble_eq_true rfl⟩, Nat.le_of_ble_eq_true rfl, Nat.le_refl _, Nat.le_refl _⟩ rfl dX12_findHull_52 (fun u52 H locs h_52 hP _ hS => ?_)
              obtain ⟨f_52, g_52, w_52, v_52, rfl, h_52⟩ := h_52
              have hP : va_P D.1 j_cl (mW D o q (uV (uI (uI (uV (uI (uI u 4 f_1) 5 g_1) 6 w_1) 7 f_52) 8 g_52) 9 w_52)) H := hP
              have h_52 : w_52 = v_52 + 1 ∧ (h - 1) ≤ v_52 ∧ v_52 ≤ h2 ∧ ((h - 1) < h2 → (h - 1) < v_52) ∧ f_52 = upI (X2) v_52.toNat (f_1 i2.toNat) ∧ g_52 = upI (Y2) v_52.toNat (g_1 i2.toNat) ∧ lft f_52 g_52 (h - 1) w_52 ∧ (∀ j : Nat, v_52 ≤ j → (j : Int) < h2 → cx (X2 j - X2 (j - 1)) (Y2 j - Y2 (j - 1)) (f_1 i2.toNat - X2 (j - 1)) (g_1 i2.toNat - Y2 (j - 1)) ≤ 0) ∧ (v_52 ≤ (h - 1) + 1 ∨ 0 < cx (X2 (v_52.toNat - 1) - X2 (v_52.toNat - 2)) (Y2 (v_52.toNat - 1) - Y2 (v_52.toNat - 2)) (f_1 i2.toNat - X2 (v_52.toNat - 2)) (g_1 i2.toNat - Y2 (v_52.toNat - 2))) := h_52
              refine lv_iinc (v := J (i2 + (-1))) (lv' := [(2, .int (J (i2 + (-1)))), (0, .ref o), (1, .int (J (h - 1)))]) SS.1 SS.2.1 dX12_findHull_55 hl (k := 2) rfl (J_add _ _) (by decide) rfl (fun ls hl => ?_)
              refine lv_goto (tgt := 45) SS.1 SS.2.1 dX12_findHull_58 (by decide) ?_
              exact ih_45 (i2 + (-1)) f_52 g_52 w_52 _ _ hP hS ls (lv_sub hl [1, 2, 0] rfl) (by omega) (fun hw => by obtain ⟨rfl, k1, k2, k3, rfl, rfl, k4, k5, k6⟩ := h_52; exact fu_s (by omega) hw3 (by omega) (by omega) (i45_1 hw) k1 k2 (k3 (by omega)) k4) (by obtain ⟨rfl, k1, k2, k3, rfl, rfl, k4, k5, k6⟩ := h_52; exact bd_put (by omega) (bd_le i45_2 k2) (hb i2).1 (hb i2).2) (fun hw => by obtain ⟨rfl, k1, k2, k3, rfl, rfl, k4, k5, k6⟩ := h_52; exact cu_s (by omega) hw3 (by omega) (by omega) (i45_1 hw) (i45_3 hw) k1 k2 (k3 (by omega)) k5 k6) (by omega)
        exact L_45 (((w_1 - 2) + 2).toNat + 1) (w_1 - 2) X Y h _ _ hP hS ls (lv_sub hl [2, 1, 0] rfl) (by omega) (fun hw => fu_0 hw (by rw [show i = w_1 by omega] at i11_1; exact i11_1)) (i11_2) (fun hw => cu_0 hw (by rw [show i = w_1 by omega] at i11_1; exact i11_1)) (Nat.lt_succ_self _)
      · skip
        have hb : ∀ i : Int, 0 ≤ i → i < w_1 → (-10000 ≤ f_1 i.toNat ∧ f_1 i.toNat ≤ 10000) ∧ (-10000 ≤ g_1 i.toNat ∧ g_1 i.toNat ≤ 10000) := fun i h1 h2 => bd_at hwb h1 h2
        have hb := fun (j : Int) => hb i (by omega) (by omega)
        refine lv_aload_n SS.1 SS.2.1 dX12_findHull_19 rfl (lv_at hl 0 rfl) ?_
        refine lv_iload_n SS.1 SS.2.1 dX12_findHull_20 rfl (lv_at hl 1 rfl) ?_
        refine j_iconst SS dX12_findHull_21 ?_
        refine j_vWv SS (As := [.int (J i), .int (J 0)]) (rest := []) (c_X12_goOn2 l D o q (uV (uI (uI (uV (uI (uI u 4 f_1) 5 g_1) 6 w_1) 7 X) 8 Y) 9 h) A (mW_D hD) i 0 (show 0 ≤ i ∧ i < 640 from (by omega)) (show 0 ≤ (0 : Int) ∧ (0 : Int) ≤ h ∧ h < 1300 from (by omega)) (show -10000 ≤ f_1 i.toNat ∧ f_1 i.toNat ≤ 10000 from ((hb i).1)) (show -10000 ≤ g_1 i.toNat ∧ g_1 i.toNat ≤ 10000 from ((hb i).2)) (show bd 10000 (X) (Y) (h) from (i11_2)) (show lft (X) (Y) (0 : Int) (h) from (i11_1.2.2.2.2.1))) mf_X12_goOn kw_1201 hG hP hP (ci := 8) (q0 := 0) rfl rfl rfl hS (fun _ h => h) rfl hl.1 ⟨⟨Nat.le_of_ble_eq_true rfl, Nat.le_of_ble_eq_true rfl⟩, Nat.le_of_ble_eq_true rfl, Nat.le_refl _, Nat.le_refl _⟩ rfl dX12_findHull_22 (fun u22 H locs h_22 hP _ hS => ?_)
        obtain ⟨f_22, g_22, w_22, v_22, rfl, h_22⟩ := h_22
        have hP : va_P D.1 j_cl (mW D o q (uV (uI (uI (uV (uI (uI u 4 f_1) 5 g_1) 6 w_1) 7 f_22) 8 g_22) 9 w_22)) H := hP
        have h_22 : w_22 = v_22 + 1 ∧ (0 : Int) ≤ v_22 ∧ v_22 ≤ h ∧ ((0 : Int) < h → (0 : Int) < v_22) ∧ f_22 = upI (X) v_22.toNat (f_1 i.toNat) ∧ g_22 = upI (Y) v_22.toNat (g_1 i.toNat) ∧ lft f_22 g_22 (0 : Int) w_22 ∧ (∀ j : Nat, v_22 ≤ j → (j : Int) < h → cx (X j - X (j - 1)) (Y j - Y (j - 1)) (f_1 i.toNat - X (j - 1)) (g_1 i.toNat - Y (j - 1)) ≤ 0) ∧ (v_22 ≤ (0 : Int) + 1 ∨ 0 < cx (X (v_22.toNat - 1) - X (v_22.toNat - 2)) (Y (v_22.toNat - 1) - Y (v_22.toNat - 2)) (f_1 i.toNat - X (v_22.toNat - 2)) (g_1 i.toNat - Y (v_22.toNat - 2))) := h_22
        refine lv_iinc (v := J (i + 1)) (lv' := [(1, .int (J (i + 1))), (0, .ref o)]) SS.1 SS.2.1 dX12_findHull_25 hl (k := 1) rfl (J_add _ _) (by decide) rfl (fun ls hl => ?_)
        refine lv_goto (tgt := 11) SS.1 SS.2.1 dX12_findHull_28 (by decide) ?_
        exact ih_11 (i + 1) f_22 g_22 w_22 _ _ hP hS ls (lv_sub hl [1, 0] rfl) (by omega) (by obtain ⟨rfl, k1, k2, k3, rfl, rfl, k4, k5, k6⟩ := h_22; exact fl_s hw3 (by omega) (by omega) i11_1 k1 k2 k3 k4) (by obtain ⟨rfl, k1, k2, k3, rfl, rfl, k4, k5, k6⟩ := h_22; exact bd_put k1 (bd_le i11_2 k2) (hb i).1 (hb i).2) (fun _ => by obtain ⟨rfl, k1, k2, k3, rfl, rfl, k4, k5, k6⟩ := h_22; exact cl_s hw3 (by omega) (by omega) i11_1 i11_3 k1 k2 k3 k5 (by rcases k6 with q | q; exact Or.inl (by omega); exact Or.inr q)) (by omega)
  exact L_11 ((w_1 - (0 : Int)).toNat + 1) 0 (u.1 7) (u.1 8) 0 _ _ hP hS ls (lv_sub hl [1, 0] rfl) (by omega) (fl_0) (fun a ha => by omega) (fun q => absurd q (by omega)) (Nat.lt_succ_self _)


/-- a shape's corners -/
def SP (v : MS) (s : Int) : Int → Int → Prop := fun x y => ∃ a : Nat, (a : Int) < mN v s ∧ x = mX v s a ∧ y = mY v s a
def mSame (v v' : MS) : Prop := v'.1 0 = v.1 0 ∧ v'.1 1 = v.1 1 ∧ v'.1 2 = v.1 2
def mNew (v v' : MS) (s n : Int) (X Y : Nat → Int) : Prop := (mN v' s = n ∧ ∀ a : Nat, (a : Int) < n → mX v' s a = X a ∧ mY v' s a = Y a) ∧ ∀ r : Int, 0 ≤ r → r ≤ 7 → r ≠ s → mN v' r = mN v r ∧ (0 < mN v r → ∀ i : Int, 0 ≤ i → mX v' r i = mX v r i ∧ mY v' r i = mY v r i)
/-- the hull of S goes to a shape, if it fits -/
def mkM (v v' : MS) (t z : Int) (S : Int → Int → Prop) : Prop := ∃ (n : Int) (X Y : Nat → Int), HS S n X Y ∧ ((z = n ∧ (n ≤ 24 ∧ bd 40 X Y n) ∧ mNew v v' t n X Y) ∨ (z = -3 ∧ ¬ (n ≤ 24 ∧ bd 40 X Y n) ∧ mSame v v'))
theorem mNew_tk {v0 v : MS} {f0 f1 f2 f3 : Nat → Int} {s : Int} (hI : SHs v0) (e0 : v.1 0 = v0.1 0) (e1 : v.1 1 = v0.1 1) (e2 : v.1 2 = v0.1 2) (h0 : 0 ≤ s ∧ s ≤ 7) (hn : 0 ≤ v.2.2 9 ∧ v.2.2 9 ≤ 24) (h : tk_new v f0 f1 f2 f3 s) : mNew v0 (uI (uI (uI (uI v 0 f0) 1 f1) 2 f2) 3 f3) s (v.2.2 9) (v.1 7) (v.1 8) := by
  obtain ⟨k0, ⟨c1, c2⟩, _⟩ := h
  rw [e0] at k0
  rw [e1, e2] at c2
  have eN : ∀ r, mN (uI (uI (uI (uI v 0 f0) 1 f1) 2 f2) 3 f3) r = f0 r.toNat := fun _ => rfl
  have eX : ∀ r i, mX (uI (uI (uI (uI v 0 f0) 1 f1) 2 f2) 3 f3) r i = f1 (24 * r + i.tmod (f0 r.toNat)).toNat := fun _ _ => rfl
  have eY : ∀ r i, mY (uI (uI (uI (uI v 0 f0) 1 f1) 2 f2) 3 f3) r i = f2 (24 * r + i.tmod (f0 r.toNat)).toNat := fun _ _ => rfl
  have es : f0 s.toNat = v.2.2 9 := by rw [k0, upI_s]
  refine ⟨⟨by rw [eN, es], fun a ha => ?_⟩, fun r r0 r7 hr => ?_⟩
  · rw [eX, eY, es, Int.tmod_eq_of_lt (by omega) (by omega)]
    exact c1 a ha
  · have er : f0 r.toNat = mN v0 r := by rw [k0, upI_n (by omega)]
    obtain ⟨a1, _, _⟩ := hI r r0 r7
    refine ⟨by rw [eN, er], fun hp i hi => ?_⟩
    rw [eX, eY, er]
    have q := tm_b hi hp
    exact c2 (24 * r + i.tmod (mN v0 r)).toNat (by omega)
theorem mkM_tk {v0 v : MS} {f0 f1 f2 f3 : Nat → Int} {s b z : Int} {S S' : Int → Int → Prop} (hI : SHs v0) (e0 : v.1 0 = v0.1 0) (e1 : v.1 1 = v0.1 1) (e2 : v.1 2 = v0.1 2) (h0 : 0 ≤ s ∧ s ≤ 7) (hn : 0 ≤ v.2.2 9) (hb : b = 0 ∨ b = 1) (hb0 : b = 0 → bd 40 (v.1 7) (v.1 8) (v.2.2 9)) (hH : HS S' (v.2.2 9) (v.1 7) (v.1 8)) (hS : ∀ x y : Int, S' x y ↔ S x y) (h : (z = -3 ∧ ¬ tk_ok b 40 (v.1 7) (v.1 8) (v.2.2 9) (v.2.2 9) ∧ f0 = v.1 0 ∧ f1 = v.1 1 ∧ f2 = v.1 2 ∧ f3 = v.1 3) ∨ (z = v.2.2 9 ∧ tk_ok b 40 (v.1 7) (v.1 8) (v.2.2 9) (v.2.2 9) ∧ tk_new v f0 f1 f2 f3 s)) : mkM v0 (uI (uI (uI (uI v 0 f0) 1 f1) 2 f2) 3 f3) s z S := by
  refine ⟨v.2.2 9, v.1 7, v.1 8, HS_c hH hS (fun _ _ => ⟨rfl, rfl⟩), ?_⟩
  rcases h with ⟨k1, k2, k3, k4, k5, _⟩ | ⟨k1, k2, k3⟩
  · exact Or.inr ⟨k1, fun q => k2 ⟨q.1, fun _ => q.2⟩, k3.trans e0, k4.trans e1, k5.trans e2⟩
  · refine Or.inl ⟨k1, ⟨k2.1, ?_⟩, mNew_tk hI e0 e1 e2 h0 ⟨hn, k2.1⟩ k3⟩
    rcases hb with e | e
    · exact hb0 e
    · exact k2.2 e
/-- the corners before the place i -/
def SPi (v : MS) (s i : Int) : Int → Int → Prop := fun x y => ∃ a : Nat, (a : Int) < i ∧ x = mX v s a ∧ y = mY v s a
theorem SWW_0 {f g : Nat → Int} {w x y : Int} (h : w ≤ 0) : ¬ SWW f g w x y := fun ⟨a, h1, _⟩ => by omega
def adM (u u' : MS) (s x y z : Int) : Prop := (¬ ((0 ≤ s ∧ s ≤ 7) ∧ (-40 ≤ x ∧ x ≤ 40) ∧ -40 ≤ y ∧ y ≤ 40) ∧ z = -1 ∧ mSame u u') ∨ ((0 ≤ s ∧ s ≤ 7) ∧ ((-40 ≤ x ∧ x ≤ 40) ∧ -40 ≤ y ∧ y ≤ 40) ∧ mkM u u' s z (fun a b => SP u s a b ∨ (a = x ∧ b = y)))
def clM (u u' : MS) (s z : Int) : Prop := (¬ (0 ≤ s ∧ s ≤ 7) ∧ z = -1 ∧ mSame u u') ∨ ((0 ≤ s ∧ s ≤ 7) ∧ z = mN u s ∧ mNew u u' s 0 (fun _ => 0) (fun _ => 0))
/-- all sums -/
def SM (S T : Int → Int → Prop) : Int → Int → Prop := fun x y => ∃ a b c d : Int, S a b ∧ T c d ∧ x = a + c ∧ y = b + d
def smM (u u' : MS) (s s2 t z : Int) : Prop := (¬ ((0 ≤ s ∧ s ≤ 7) ∧ (0 ≤ s2 ∧ s2 ≤ 7) ∧ 0 ≤ t ∧ t ≤ 7) ∧ z = -1 ∧ mSame u u') ∨ ((0 ≤ s ∧ s ≤ 7) ∧ (0 ≤ s2 ∧ s2 ≤ 7) ∧ (0 ≤ t ∧ t ≤ 7) ∧ mkM u u' t z (SM (SP u s) (SP u s2)))
/-- what a map makes -/
def MP (S : Int → Int → Prop) (a b c d e f : Int) : Int → Int → Prop := fun x y => ∃ p q : Int, S p q ∧ x = a * p + b * q + e ∧ y = c * p + d * q + f
def six (a b c d e f : Int) : Prop := (-40 ≤ a ∧ a ≤ 40) ∧ (-40 ≤ b ∧ b ≤ 40) ∧ (-40 ≤ c ∧ c ≤ 40) ∧ (-40 ≤ d ∧ d ≤ 40) ∧ (-40 ≤ e ∧ e ≤ 40) ∧ -40 ≤ f ∧ f ≤ 40
def mpM (u u' : MS) (s t a b c d e f z : Int) : Prop := (¬ ((0 ≤ s ∧ s ≤ 7) ∧ (0 ≤ t ∧ t ≤ 7) ∧ six a b c d e f) ∧ z = -1 ∧ mSame u u') ∨ ((0 ≤ s ∧ s ≤ 7) ∧ (0 ≤ t ∧ t ≤ 7) ∧ six a b c d e f ∧ ((¬ (a * d - b * c = 1 ∨ a * d - b * c = -1) ∧ z = -2 ∧ mSame u u') ∨ ((a * d - b * c = 1 ∨ a * d - b * c = -1) ∧ mkM u u' t z (MP (SP u s) a b c d e f))))
theorem SMi_s {v : MS} {s s2 i : Int} {f g : Nat → Int} {w : Int} (h0 : 0 ≤ i) (h : ∀ x y : Int, SWW f g w x y ↔ SM (SPi v s i) (SP v s2) x y ∨ ∃ b : Nat, (b : Int) < mN v s2 ∧ x = mX v s i + mX v s2 b ∧ y = mY v s i + mY v s2 b) (x y : Int) : SWW f g w x y ↔ SM (SPi v s (i + 1)) (SP v s2) x y := by
  rw [h]
  constructor
  · rintro (⟨a, b, c, d, ⟨k, k1, k2, k3⟩, q⟩ | ⟨b, q1, q2, q3⟩)
    · exact ⟨a, b, c, d, ⟨k, by omega, k2, k3⟩, q⟩
    · exact ⟨_, _, _, _, ⟨i.toNat, by omega, by rw [show ((i.toNat : Nat) : Int) = i by omega], by rw [show ((i.toNat : Nat) : Int) = i by omega]⟩, ⟨b, q1, rfl, rfl⟩, q2, q3⟩
  · rintro ⟨a, b, c, d, ⟨k, k1, k2, k3⟩, ⟨m, m1, m2, m3⟩, q1, q2⟩
    by_cases e : (k : Int) = i
    · rw [e] at k2 k3
      exact Or.inr ⟨m, m1, by omega, by omega⟩
    · exact Or.inl ⟨a, b, c, d, ⟨k, by omega, k2, k3⟩, ⟨m, m1, m2, m3⟩, q1, q2⟩

theorem sp_s {P : Prop} {v : MS} {s i : Int} (h : 0 ≤ i) (x y : Int) : (P ∨ SPi v s i x y) ∨ (x = mX v s i ∧ y = mY v s i) ↔ P ∨ SPi v s (i + 1) x y := by
  constructor
  · rintro ((q | ⟨a, q1, q2⟩) | ⟨q1, q2⟩)
    · exact Or.inl q
    · exact Or.inr ⟨a, by omega, q2⟩
    · exact Or.inr ⟨i.toNat, by omega, by rw [show ((i.toNat : Nat) : Int) = i by omega]; exact ⟨q1, q2⟩⟩
  · rintro (q | ⟨a, q1, q2, q3⟩)
    · exact Or.inl (Or.inl q)
    · by_cases e : (a : Int) = i
      · rw [e] at q2 q3; exact Or.inr ⟨q2, q3⟩
      · exact Or.inl (Or.inr ⟨a, by omega, q2, q3⟩)
theorem sm_s {P : Prop} {v : MS} {s2 j A C x0 y0 : Int} (h : 0 ≤ j) (ex : x0 = A + mX v s2 j) (ey : y0 = C + mY v s2 j) (x y : Int) : (P ∨ ∃ b : Nat, (b : Int) < j ∧ x = A + mX v s2 b ∧ y = C + mY v s2 b) ∨ (x = x0 ∧ y = y0) ↔ P ∨ ∃ b : Nat, (b : Int) < j + 1 ∧ x = A + mX v s2 b ∧ y = C + mY v s2 b := by
  constructor
  · rintro ((q | ⟨a, q1, q2⟩) | ⟨q1, q2⟩)
    · exact Or.inl q
    · exact Or.inr ⟨a, by omega, q2⟩
    · exact Or.inr ⟨j.toNat, by omega, by rw [show ((j.toNat : Nat) : Int) = j by omega]; exact ⟨q1.trans ex, q2.trans ey⟩⟩
  · rintro (q | ⟨a, q1, q2, q3⟩)
    · exact Or.inl (Or.inl q)
    · by_cases e : (a : Int) = j
      · rw [e] at q2 q3; exact Or.inr ⟨q2.trans ex.symm, q3.trans ey.symm⟩
      · exact Or.inl (Or.inr ⟨a, by omega, q2, q3⟩)
theorem mp_s {v : MS} {s i a b c d e f x0 y0 : Int} (h : 0 ≤ i) (ex : x0 = a * mX v s i + b * mY v s i + e) (ey : y0 = c * mX v s i + d * mY v s i + f) (x y : Int) : MP (SPi v s i) a b c d e f x y ∨ (x = x0 ∧ y = y0) ↔ MP (SPi v s (i + 1)) a b c d e f x y := by
  constructor
  · rintro (⟨p, q, ⟨k, k1, k2, k3⟩, r⟩ | ⟨q1, q2⟩)
    · exact ⟨p, q, ⟨k, by omega, k2, k3⟩, r⟩
    · exact ⟨_, _, ⟨i.toNat, by omega, by rw [show ((i.toNat : Nat) : Int) = i by omega], by rw [show ((i.toNat : Nat) : Int) = i by omega]⟩, q1.trans ex, q2.trans ey⟩
  · rintro ⟨p, q, ⟨k, k1, k2, k3⟩, r1, r2⟩
    by_cases w : (k : Int) = i
    · rw [w] at k2 k3
      rw [k2, k3] at r1 r2
      exact Or.inr ⟨r1.trans ex.symm, r2.trans ey.symm⟩
    · exact Or.inl ⟨p, q, ⟨k, by omega, k2, k3⟩, r1, r2⟩

set_option maxHeartbeats 4000000 in
set_option maxRecDepth 100000 in
theorem c_X12_putShape2 (l : Launch) (D : JD) (o : Nat) (q : Nat → Nat) (u : MS) (A : Nat → Prop) (hD : va_D A (mW D o q u)) (s : Int) (p0 : 0 ≤ s ∧ s ≤ 7) (p1 : Sh u s) (p2 : 0 ≤ u.2.2 6 ∧ u.2.2 6 ≤ 600) : Met l yX12_putShape (jw yX12_putShape cX12_putShape 3 none) (jr 1 22) (jP [.ref o, .int (J s)] D (fun H => va_P D.1 j_cl (mW D o q u) H)) (jWv (fun u' => ∃ f : Nat → Int, ∃ g : Nat → Int, ∃ w : Int, u' = (uV (uI (uI u 4 f) 5 g) 6 w) ∧ (w = u.2.2 6 + mN u s ∧ (bd 40 (u.1 4) (u.1 5) (u.2.2 6) → bd 40 f g w) ∧ ∀ x y : Int, SWW f g w x y ↔ SWW (u.1 4) (u.1 5) (u.2.2 6) x y ∨ SPi u s (mN u s) x y)) (fun u' H => va_P D.1 j_cl (mW D o q u') H) A) 0 0 A := by
  refine Met.ofW (cc := cX12_putShape) (maxL := 3) (ret := none) (by decide) rfl ?_
  intro pr en st mi args below meth co s₁ B hml hv
  obtain ⟨rfl, hG, hP⟩ := hv
  have hr := B.returns
  have hlk := B.notSynchronized
  have SS : jS pr mi co cX12_putShape 3 st _ RX12 := ⟨B.exec, B.bytes, hml, findClass_of_methodNamed B.named, fun w hw => atoms_spec (ws := (jw yX12_putShape cX12_putShape 3 none)) B.pre w (List.mem_cons_of_mem _ hw)⟩
  have hl := lv_entry ([.ref o, .int (J s)]) (n := 3) (Nat.le_of_ble_eq_true rfl)
  rw [lg_entry_eq]
  generalize (lg_sl ([.ref o, .int (J s)]) ++ List.replicate (3 - (lg_sl ([.ref o, .int (J s)])).length) Slot.unset).toArray = ls at hl ⊢
  have hl : lv_has ls 3 [(0, .ref o), (1, .int (J s))] := hl
  have hS : va_S A st.heap st.heap [] := va_S.rf
  have hN := p1.1
  have hC := p1.2.2
  refine j_iconst SS dX12_putShape_0 ?_
  refine lv_istore_n (lv' := [(2, .int (J 0)), (0, .ref o), (1, .int (J s))]) SS.1 SS.2.1 dX12_putShape_1 rfl hl (by decide) rfl (fun ls hl => ?_)
  have L_2 : ∀ (nn : Nat) (i : Int) (f : Nat → Int) (g : Nat → Int) (w : Int) (H : Heap) (locs : List Loc) (hP : va_P D.1 j_cl (mW D o q (uV (uI (uI u 4 f) 5 g) 6 w)) H) (hS : va_S A st.heap H locs) (ls : Array Slot) (hl : lv_has ls 3 [(0, .ref o), (1, .int (J s)), (2, .int (J i))]) (i2_0 : 0 ≤ i ∧ i ≤ mN u s) (i2_1 : w = u.2.2 6 + i) (i2_2 : bd 40 (u.1 4) (u.1 5) (u.2.2 6) → bd 40 f g w) (i2_3 : ∀ x y : Int, SWW f g w x y ↔ SWW (u.1 4) (u.1 5) (u.2.2 6) x y ∨ SPi u s i x y), (mN u s - i).toNat < nn → W pr l en (headSpec (jw yX12_putShape cX12_putShape 3 none) (jr 1 22)).room st mi (([.ref o, .int (J s)] : List Value).toArray) below meth co H locs 0 0 (MQ below (jWv (fun u' => ∃ f : Nat → Int, ∃ g : Nat → Int, ∃ w : Int, u' = (uV (uI (uI u 4 f) 5 g) 6 w) ∧ (w = u.2.2 6 + mN u s ∧ (bd 40 (u.1 4) (u.1 5) (u.2.2 6) → bd 40 f g w) ∧ ∀ x y : Int, SWW f g w x y ↔ SWW (u.1 4) (u.1 5) (u.2.2 6) x y ∨ SPi u s (mN u s) x y)) (fun u' H => va_P D.1 j_cl (mW D o q u') H) A) (([.ref o, .int (J s)] : List Value).toArray) st 0 0 A) (F0 mi 2 ls []) := by
    intro nn
    induction nn with
    | zero => intros; omega
    | succ nn ih_2 =>
      intro i f g w H locs hP hS ls hl i2_0 i2_1 i2_2 i2_3 hm
      refine lv_iload_n SS.1 SS.2.1 dX12_putShape_2 rfl (lv_at hl 2 rfl) ?_
      refine lv_aload_n SS.1 SS.2.1 dX12_putShape_3 rfl (lv_at hl 0 rfl) ?_
      refine j_get SS hG hP 0 (v := .ref (q 0)) (C := RX12) (T := TX12) (N := 31) rfl rfl inX12 0 (by decide) (ref := RX12) kw_1058 rfl rfl dX12_putShape_4 ?_
      refine lv_iload_n SS.1 SS.2.1 dX12_putShape_7 rfl (lv_at hl 1 rfl) ?_
      refine j_iald SS hG hP 1 (n := 8) (f := (u.1 0)) rfl (z := s) (by omega) (by omega) dX12_putShape_8 ?_
      refine j_icmp_ge SS (tgt := 34) (x := i) (y := (mN u s)) dX12_putShape_9 (by decide) (by omega) (by omega) (fun c_9 => ?_) (fun c_9 => ?_)
      · skip
        exact W.vret SS.1 SS.2.1 hr (fun t ht hW => ⟨⟨(uV (uI (uI u 4 f) 5 g) 6 w), rfl, (⟨f, g, w, rfl, ⟨by omega, i2_2, by rw [show i = mN u s by omega] at i2_3; exact i2_3⟩⟩), by show va_P D.1 j_cl (mW D o q (uV (uI (uI u 4 f) 5 g) 6 w)) t.heap; rw [ht]; exact hP⟩, hS.F ht⟩) hS.2.2 dX12_putShape_34 hlk
      · skip
        have hb := p1.2.1 (by omega) i (by omega)
        refine lv_aload_n SS.1 SS.2.1 dX12_putShape_12 rfl (lv_at hl 0 rfl) ?_
        refine lv_aload_n SS.1 SS.2.1 dX12_putShape_13 rfl (lv_at hl 0 rfl) ?_
        refine lv_iload_n SS.1 SS.2.1 dX12_putShape_14 rfl (lv_at hl 1 rfl) ?_
        refine lv_iload_n SS.1 SS.2.1 dX12_putShape_15 rfl (lv_at hl 2 rfl) ?_
        refine j_vRi SS (As := [.int (J s), .int (J i)]) (rest := [.ref o]) (c_X12_x l D o q (uV (uI (uI u 4 f) 5 g) 6 w) s i (show 0 ≤ s ∧ s ≤ 7 from (by omega)) (show 0 ≤ i ∧ i ≤ 1000000 from (by omega)) (show 0 < mN u s ∧ mN u s ≤ 24 from (by omega))) mf_X12_x kw_1177 hG hP hP (ci := 8) (q0 := 0) rfl rfl rfl rfl hl.1 ⟨⟨Nat.le_of_ble_eq_true rfl, Nat.le_of_ble_eq_true rfl⟩, Nat.le_of_ble_eq_true rfl, Nat.le_refl _, Nat.le_refl _⟩ rfl dX12_putShape_16 (fun z_16 h_16 => ?_)
        have h_16 : z_16 = mX u s i := h_16
        refine lv_aload_n SS.1 SS.2.1 dX12_putShape_19 rfl (lv_at hl 0 rfl) ?_
        refine lv_iload_n SS.1 SS.2.1 dX12_putShape_20 rfl (lv_at hl 1 rfl) ?_
        refine lv_iload_n SS.1 SS.2.1 dX12_putShape_21 rfl (lv_at hl 2 rfl) ?_
        refine j_vRi SS (As := [.int (J s), .int (J i)]) (rest := [.int (J z_16), .ref o]) (c_X12_y l D o q (uV (uI (uI u 4 f) 5 g) 6 w) s i (show 0 ≤ s ∧ s ≤ 7 from (by omega)) (show 0 ≤ i ∧ i ≤ 1000000 from (by omega)) (show 0 < mN u s ∧ mN u s ≤ 24 from (by omega))) mf_X12_y kw_1181 hG hP hP (ci := 8) (q0 := 0) rfl rfl rfl rfl hl.1 ⟨⟨Nat.le_of_ble_eq_true rfl, Nat.le_of_ble_eq_true rfl⟩, Nat.le_of_ble_eq_true rfl, Nat.le_refl _, Nat.le_refl _⟩ rfl dX12_putShape_22 (fun z_22 h_22 => ?_)
        have h_22 : z_22 = mY u s i := h_22
        refine j_vWv SS (As := [.int (J z_16), .int (J z_22)]) (rest := []) (c_X12_put l D o q (uV (uI (uI u 4 f) 5 g) 6 w) A (mW_D hD) z_16 z_22 (show 0 ≤ w ∧ w < 640 from (by omega))) mf_X12_put kw_1185 hG hP hP (ci := 8) (q0 := 0) rfl rfl rfl hS (fun _ h => h) rfl hl.1 ⟨⟨Nat.le_of_ble_eq_true rfl, Nat.le_of_ble_eq_true rfl⟩, Nat.le_of_ble_eq_true rfl, Nat.le_refl _, Nat.le_refl _⟩ rfl dX12_putShape_25 (fun u25 H locs h_25 hP _ hS => ?_)
        obtain ⟨f_25, g_25, w_25, rfl, h_25⟩ := h_25
        have hP : va_P D.1 j_cl (mW D o q (uV (uI (uI u 4 f_25) 5 g_25) 6 w_25)) H := hP
        have h_25 : f_25 = upI (f) (w).toNat z_16 ∧ g_25 = upI (g) (w).toNat z_22 ∧ w_25 = w + 1 := h_25
        have k1 := h_25.2.2
        refine lv_iinc (v := J (i + 1)) (lv' := [(2, .int (J (i + 1))), (0, .ref o), (1, .int (J s))]) SS.1 SS.2.1 dX12_putShape_28 hl (k := 2) rfl (J_add _ _) (by decide) rfl (fun ls hl => ?_)
        refine lv_goto (tgt := 2) SS.1 SS.2.1 dX12_putShape_31 (by decide) ?_
        exact ih_2 (i + 1) f_25 g_25 w_25 _ _ hP hS ls (lv_sub hl [1, 2, 0] rfl) (by omega) (by omega) (fun h => by obtain ⟨k1, k2, k3⟩ := h_25; rw [k1, k2, k3, h_16, h_22]; exact bd_put (by omega) (i2_2 h) hb.1 hb.2) (fun x y => by obtain ⟨k1, k2, k3⟩ := h_25; rw [k1, k2, k3, SWW_put (by omega), i2_3, h_16, h_22]; exact sp_s i2_0.1 x y) (by omega)
  exact L_2 ((mN u s - (0 : Int)).toNat + 1) 0 (u.1 4) (u.1 5) (u.2.2 6) _ _ hP hS ls (lv_sub hl [1, 2, 0] rfl) (by omega) (by omega) (fun h => h) (fun x y => ⟨Or.inl, fun q => by rcases q with q | ⟨a, q1, _⟩; exact q; omega⟩) (Nat.lt_succ_self _)

set_option maxHeartbeats 4000000 in
set_option maxRecDepth 100000 in
theorem c_X12_findSum2 (l : Launch) (D : JD) (o : Nat) (q : Nat → Nat) (u : MS) (A : Nat → Prop) (hD : va_D A (mW D o q u)) (s : Int) (s2 : Int) (p0 : 0 ≤ s ∧ s ≤ 7) (p1 : Sh u s) (p2 : 0 ≤ s2 ∧ s2 ≤ 7) (p3 : Sh u s2) : Met l yX12_findSum (jw yX12_findSum cX12_findSum 5 none) (jr 3 68) (jP [.ref o, .int (J s), .int (J s2)] D (fun H => va_P D.1 j_cl (mW D o q u) H)) (jWv (fun u' => ∃ f : Nat → Int, ∃ g : Nat → Int, ∃ w : Int, ∃ X : Nat → Int, ∃ Y : Nat → Int, ∃ nh : Int, u' = (uV (uI (uI (uV (uI (uI u 4 f) 5 g) 6 w) 7 X) 8 Y) 9 nh) ∧ (0 ≤ nh ∧ nh ≤ 1290 ∧ Ch nh X Y ∧ bd 10000 X Y nh ∧ bd 80 X Y nh ∧ HS (SM (SP u s) (SP u s2)) nh X Y)) (fun u' H => va_P D.1 j_cl (mW D o q u') H) A) 0 0 A := by
  refine Met.ofW (cc := cX12_findSum) (maxL := 5) (ret := none) (by decide) rfl ?_
  intro pr en st mi args below meth co s₁ B hml hv
  obtain ⟨rfl, hG, hP⟩ := hv
  have hr := B.returns
  have hlk := B.notSynchronized
  have SS : jS pr mi co cX12_findSum 5 st _ RX12 := ⟨B.exec, B.bytes, hml, findClass_of_methodNamed B.named, fun w hw => atoms_spec (ws := (jw yX12_findSum cX12_findSum 5 none)) B.pre w (List.mem_cons_of_mem _ hw)⟩
  have hl := lv_entry ([.ref o, .int (J s), .int (J s2)]) (n := 5) (Nat.le_of_ble_eq_true rfl)
  rw [lg_entry_eq]
  generalize (lg_sl ([.ref o, .int (J s), .int (J s2)]) ++ List.replicate (5 - (lg_sl ([.ref o, .int (J s), .int (J s2)])).length) Slot.unset).toArray = ls at hl ⊢
  have hl : lv_has ls 5 [(0, .ref o), (1, .int (J s)), (2, .int (J s2))] := hl
  have hS : va_S A st.heap st.heap [] := va_S.rf
  have hN := p1.1
  have hN2 := p3.1
  refine lv_aload_n SS.1 SS.2.1 dX12_findSum_0 rfl (lv_at hl 0 rfl) ?_
  refine j_iconst SS dX12_findSum_1 ?_
  refine j_put SS hG hP (mW_D hD) hS 0 (v := .int (J 0)) (ty := .int) (C := RX12) (T := TX12) (N := 31) rfl rfl inX12 tyX12 tyX12_ok nmX12 6 (by decide) (ref := RX12) kw_1064 rfl rfl (by decide +kernel) rfl rfl (Nat.le_of_ble_eq_true rfl) dX12_findSum_2 (ws' := (mW D o q (uV u 6 0))) rfl (fun H locs hP hS => ?_)
  refine j_iconst SS dX12_findSum_5 ?_
  refine lv_istore_n (lv' := [(3, .int (J 0)), (0, .ref o), (1, .int (J s)), (2, .int (J s2))]) SS.1 SS.2.1 dX12_findSum_6 rfl hl (by decide) rfl (fun ls hl => ?_)
  have L_7 : ∀ (nn : Nat) (i : Int) (f : Nat → Int) (g : Nat → Int) (w : Int) (H : Heap) (locs : List Loc) (hP : va_P D.1 j_cl (mW D o q (uV (uI (uI u 4 f) 5 g) 6 w)) H) (hS : va_S A st.heap H locs) (ls : Array Slot) (hl : lv_has ls 5 [(0, .ref o), (1, .int (J s)), (2, .int (J s2)), (3, .int (J i))]) (i7_0 : 0 ≤ i ∧ i ≤ mN u s) (i7_1 : 0 ≤ w ∧ w ≤ 24 * i) (i7_2 : bd 80 f g w) (i7_3 : ∀ x y : Int, SWW f g w x y ↔ SM (SPi u s i) (SP u s2) x y), (mN u s - i).toNat < nn → W pr l en (headSpec (jw yX12_findSum cX12_findSum 5 none) (jr 3 68)).room st mi (([.ref o, .int (J s), .int (J s2)] : List Value).toArray) below meth co H locs 0 0 (MQ below (jWv (fun u' => ∃ f : Nat → Int, ∃ g : Nat → Int, ∃ w : Int, ∃ X : Nat → Int, ∃ Y : Nat → Int, ∃ nh : Int, u' = (uV (uI (uI (uV (uI (uI u 4 f) 5 g) 6 w) 7 X) 8 Y) 9 nh) ∧ (0 ≤ nh ∧ nh ≤ 1290 ∧ Ch nh X Y ∧ bd 10000 X Y nh ∧ bd 80 X Y nh ∧ HS (SM (SP u s) (SP u s2)) nh X Y)) (fun u' H => va_P D.1 j_cl (mW D o q u') H) A) (([.ref o, .int (J s), .int (J s2)] : List Value).toArray) st 0 0 A) (F0 mi 7 ls []) := by
    intro nn
    induction nn with
    | zero => intros; omega
    | succ nn ih_7 =>
      intro i f g w H locs hP hS ls hl i7_0 i7_1 i7_2 i7_3 hm
      refine lv_iload_n SS.1 SS.2.1 dX12_findSum_7 rfl (lv_at hl 3 rfl) ?_
      refine lv_aload_n SS.1 SS.2.1 dX12_findSum_8 rfl (lv_at hl 0 rfl) ?_
      refine j_get SS hG hP 0 (v := .ref (q 0)) (C := RX12) (T := TX12) (N := 31) rfl rfl inX12 0 (by decide) (ref := RX12) kw_1058 rfl rfl dX12_findSum_9 ?_
      refine lv_iload_n SS.1 SS.2.1 dX12_findSum_12 rfl (lv_at hl 1 rfl) ?_
      refine j_iald SS hG hP 1 (n := 8) (f := (u.1 0)) rfl (z := s) (by omega) (by omega) dX12_findSum_13 ?_
      have hN_13 := (show Sh u s from (by first | exact p1 | exact p3)).1
      refine j_icmp_ge SS (tgt := 75) (x := i) (y := (mN u s)) dX12_findSum_14 (by decide) (by omega) (by omega) (fun c_14 => ?_) (fun c_14 => ?_)
      · skip
        refine lv_aload_n SS.1 SS.2.1 dX12_findSum_75 rfl (lv_at hl 0 rfl) ?_
        refine j_vWv SS (As := []) (rest := []) (c_X12_findHull2 l D o q (uV (uI (uI u 4 f) 5 g) 6 w) A (mW_D hD)  (show 0 ≤ w ∧ w ≤ 640 from (by omega)) (show bd 10000 (f) (g) (w) from (bd_K i7_2 (by omega)))) mf_X12_findHull kw_1189 hG hP hP (ci := 8) (q0 := 0) rfl rfl rfl hS (fun _ h => h) rfl hl.1 ⟨⟨Nat.le_of_ble_eq_true rfl, Nat.le_of_ble_eq_true rfl⟩, Nat.le_of_ble_eq_true rfl, Nat.le_refl _, Nat.le_refl _⟩ rfl dX12_findSum_76 (fun u76 H locs h_76 hP _ hS => ?_)
        obtain ⟨f_76, g_76, w_76, X_76, Y_76, nh_76, rfl, h_76⟩ := h_76
        have hP : va_P D.1 j_cl (mW D o q (uV (uI (uI (uV (uI (uI u 4 f_76) 5 g_76) 6 w_76) 7 X_76) 8 Y_76) 9 nh_76)) H := hP
        have h_76 : 0 ≤ nh_76 ∧ nh_76 ≤ 1290 ∧ Ch nh_76 X_76 Y_76 ∧ (0 < w → 0 < nh_76) ∧ bd 10000 X_76 Y_76 nh_76 ∧ (∀ K : Int, bd K (f) (g) (w) → bd K X_76 Y_76 nh_76) ∧ HS (SWW (f) (g) (w)) nh_76 X_76 Y_76 := h_76
        obtain ⟨a1, a2, a3, a4, a5, a6, a7⟩ := h_76
        exact W.vret SS.1 SS.2.1 hr (fun t ht hW => ⟨⟨(uV (uI (uI (uV (uI (uI u 4 f_76) 5 g_76) 6 w_76) 7 X_76) 8 Y_76) 9 nh_76), rfl, (⟨f_76, g_76, w_76, X_76, Y_76, nh_76, rfl, ⟨a1, a2, a3, a5, a6 80 i7_2, HS_c a7 (by rw [show i = mN u s by omega] at i7_3; exact i7_3) (fun _ _ => ⟨rfl, rfl⟩)⟩⟩), by show va_P D.1 j_cl (mW D o q (uV (uI (uI (uV (uI (uI u 4 f_76) 5 g_76) 6 w_76) 7 X_76) 8 Y_76) 9 nh_76)) t.heap; rw [ht]; exact hP⟩, hS.F ht⟩) hS.2.2 dX12_findSum_79 hlk
      · skip
        refine j_iconst SS dX12_findSum_17 ?_
        refine lv_istore (lv' := [(4, .int (J 0)), (0, .ref o), (1, .int (J s)), (2, .int (J s2)), (3, .int (J i))]) SS.1 SS.2.1 dX12_findSum_18 hl (by decide) rfl (fun ls hl => ?_)
        have L_20 : ∀ (nn : Nat) (j : Int) (f_ : Nat → Int) (g_ : Nat → Int) (w_ : Int) (H : Heap) (locs : List Loc) (hP : va_P D.1 j_cl (mW D o q (uV (uI (uI u 4 f_) 5 g_) 6 w_)) H) (hS : va_S A st.heap H locs) (ls : Array Slot) (hl : lv_has ls 5 [(0, .ref o), (1, .int (J s)), (2, .int (J s2)), (3, .int (J i)), (4, .int (J j))]) (i20_0 : 0 ≤ j ∧ j ≤ mN u s2) (i20_1 : 0 ≤ w_ ∧ w_ ≤ 24 * i + j) (i20_2 : bd 80 f_ g_ w_) (i20_3 : ∀ x y : Int, SWW f_ g_ w_ x y ↔ SM (SPi u s i) (SP u s2) x y ∨ ∃ b : Nat, (b : Int) < j ∧ x = mX u s i + mX u s2 b ∧ y = mY u s i + mY u s2 b), (mN u s2 - j).toNat < nn → W pr l en (headSpec (jw yX12_findSum cX12_findSum 5 none) (jr 3 68)).room st mi (([.ref o, .int (J s), .int (J s2)] : List Value).toArray) below meth co H locs 0 0 (MQ below (jWv (fun u' => ∃ f : Nat → Int, ∃ g : Nat → Int, ∃ w : Int, ∃ X : Nat → Int, ∃ Y : Nat → Int, ∃ nh : Int, u' = (uV (uI (uI (uV (uI (uI u 4 f) 5 g) 6 w) 7 X) 8 Y) 9 nh) ∧ (0 ≤ nh ∧ nh ≤ 1290 ∧ Ch nh X Y ∧ bd 10000 X Y nh ∧ bd 80 X Y nh ∧ HS (SM (SP u s) (SP u s2)) nh X Y)) (fun u' H => va_P D.1 j_cl (mW D o q u') H) A) (([.ref o, .int (J s), .int (J s2)] : List Value).toArray) st 0 0 A) (F0 mi 20 ls []) := by
          intro nn
          induction nn with
          | zero => intros; omega
          | succ nn ih_20 =>
            intro j f_ g_ w_ H locs hP hS ls hl i20_0 i20_1 i20_2 i20_3 hm
            refine lv_iload SS.1 SS.2.1 dX12_findSum_20 (lv_at hl 4 rfl) ?_
            refine lv_aload_n SS.1 SS.2.1 dX12_findSum_22 rfl (lv_at hl 0 rfl) ?_
            refine j_get SS hG hP 0 (v := .ref (q 0)) (C := RX12) (T := TX12) (N := 31) rfl rfl inX12 0 (by decide) (ref := RX12) kw_1058 rfl rfl dX12_findSum_23 ?_
            refine lv_iload_n SS.1 SS.2.1 dX12_findSum_26 rfl (lv_at hl 2 rfl) ?_
            refine j_iald SS hG hP 1 (n := 8) (f := (u.1 0)) rfl (z := s2) (by omega) (by omega) dX12_findSum_27 ?_
            have hN_27 := (show Sh u s2 from (by first | exact p1 | exact p3)).1
            refine j_icmp_ge SS (tgt := 69) (x := j) (y := (mN u s2)) dX12_findSum_28 (by decide) (by omega) (by omega) (fun c_28 => ?_) (fun c_28 => ?_)
            · skip
              refine lv_iinc (v := J (i + 1)) (lv' := [(3, .int (J (i + 1))), (0, .ref o), (1, .int (J s)), (2, .int (J s2)), (4, .int (J j))]) SS.1 SS.2.1 dX12_findSum_69 hl (k := 3) rfl (J_add _ _) (by decide) rfl (fun ls hl => ?_)
              refine lv_goto (tgt := 7) SS.1 SS.2.1 dX12_findSum_72 (by decide) ?_
              exact ih_7 (i + 1) f_ g_ w_ _ _ hP hS ls (lv_sub hl [1, 2, 3, 0] rfl) (by omega) (by omega) (i20_2) (SMi_s i7_0.1 (by rw [show j = mN u s2 by omega] at i20_3; exact i20_3)) (by omega)
            · skip
              refine lv_aload_n SS.1 SS.2.1 dX12_findSum_31 rfl (lv_at hl 0 rfl) ?_
              refine lv_aload_n SS.1 SS.2.1 dX12_findSum_32 rfl (lv_at hl 0 rfl) ?_
              refine lv_iload_n SS.1 SS.2.1 dX12_findSum_33 rfl (lv_at hl 1 rfl) ?_
              refine lv_iload_n SS.1 SS.2.1 dX12_findSum_34 rfl (lv_at hl 3 rfl) ?_
              refine j_vRi SS (As := [.int (J s), .int (J i)]) (rest := [.ref o]) (c_X12_x l D o q (uV (uI (uI u 4 f_) 5 g_) 6 w_) s i (show 0 ≤ s ∧ s ≤ 7 from (by omega)) (show 0 ≤ i ∧ i ≤ 1000000 from (by omega)) (show 0 < mN u s ∧ mN u s ≤ 24 from (by first | omega | (have hq := (show Sh u s from (by first | exact p1 | exact p3)).1; omega)))) mf_X12_x kw_1177 hG hP hP (ci := 8) (q0 := 0) rfl rfl rfl rfl hl.1 ⟨⟨Nat.le_of_ble_eq_true rfl, Nat.le_of_ble_eq_true rfl⟩, Nat.le_of_ble_eq_true rfl, Nat.le_refl _, Nat.le_refl _⟩ rfl dX12_findSum_35 (fun z_35 h_35 => ?_)
              have h_35 : z_35 = mX u s i := h_35
              have hb_35 := (show Sh u s from (by first | exact p1 | exact p3)).2.1 (by omega) i (by omega)
              refine lv_aload_n SS.1 SS.2.1 dX12_findSum_38 rfl (lv_at hl 0 rfl) ?_
              refine lv_iload_n SS.1 SS.2.1 dX12_findSum_39 rfl (lv_at hl 2 rfl) ?_
              refine lv_iload SS.1 SS.2.1 dX12_findSum_40 (lv_at hl 4 rfl) ?_
              refine j_vRi SS (As := [.int (J s2), .int (J j)]) (rest := [.int (J z_35), .ref o]) (c_X12_x l D o q (uV (uI (uI u 4 f_) 5 g_) 6 w_) s2 j (show 0 ≤ s2 ∧ s2 ≤ 7 from (by omega)) (show 0 ≤ j ∧ j ≤ 1000000 from (by omega)) (show 0 < mN u s2 ∧ mN u s2 ≤ 24 from (by first | omega | (have hq := (show Sh u s2 from (by first | exact p1 | exact p3)).1; omega)))) mf_X12_x kw_1177 hG hP hP (ci := 8) (q0 := 0) rfl rfl rfl rfl hl.1 ⟨⟨Nat.le_of_ble_eq_true rfl, Nat.le_of_ble_eq_true rfl⟩, Nat.le_of_ble_eq_true rfl, Nat.le_refl _, Nat.le_refl _⟩ rfl dX12_findSum_42 (fun z_42 h_42 => ?_)
              have h_42 : z_42 = mX u s2 j := h_42
              have hb_42 := (show Sh u s2 from (by first | exact p1 | exact p3)).2.1 (by omega) j (by omega)
              refine j_iadd SS (x := z_35) (y := z_42) dX12_findSum_45 ?_
              refine lv_aload_n SS.1 SS.2.1 dX12_findSum_46 rfl (lv_at hl 0 rfl) ?_
              refine lv_iload_n SS.1 SS.2.1 dX12_findSum_47 rfl (lv_at hl 1 rfl) ?_
              refine lv_iload_n SS.1 SS.2.1 dX12_findSum_48 rfl (lv_at hl 3 rfl) ?_
              refine j_vRi SS (As := [.int (J s), .int (J i)]) (rest := [.int (J (z_35 + z_42)), .ref o]) (c_X12_y l D o q (uV (uI (uI u 4 f_) 5 g_) 6 w_) s i (show 0 ≤ s ∧ s ≤ 7 from (by omega)) (show 0 ≤ i ∧ i ≤ 1000000 from (by omega)) (show 0 < mN u s ∧ mN u s ≤ 24 from (by first | omega | (have hq := (show Sh u s from (by first | exact p1 | exact p3)).1; omega)))) mf_X12_y kw_1181 hG hP hP (ci := 8) (q0 := 0) rfl rfl rfl rfl hl.1 ⟨⟨Nat.le_of_ble_eq_true rfl, Nat.le_of_ble_eq_true rfl⟩, Nat.le_of_ble_eq_true rfl, Nat.le_refl _, Nat.le_refl _⟩ rfl dX12_findSum_49 (fun z_49 h_49 => ?_)
              have h_49 : z_49 = mY u s i := h_49
              have hb_49 := (show Sh u s from (by first | exact p1 | exact p3)).2.1 (by omega) i (by omega)
              refine lv_aload_n SS.1 SS.2.1 dX12_findSum_52 rfl (lv_at hl 0 rfl) ?_
              refine lv_iload_n SS.1 SS.2.1 dX12_findSum_53 rfl (lv_at hl 2 rfl) ?_
              refine lv_iload SS.1 SS.2.1 dX12_findSum_54 (lv_at hl 4 rfl) ?_
              refine j_vRi SS (As := [.int (J s2), .int (J j)]) (rest := [.int (J z_49), .int (J (z_35 + z_42)), .ref o]) (c_X12_y l D o q (uV (uI (uI u 4 f_) 5 g_) 6 w_) s2 j (show 0 ≤ s2 ∧ s2 ≤ 7 from (by omega)) (show 0 ≤ j ∧ j ≤ 1000000 from (by omega)) (show 0 < mN u s2 ∧ mN u s2 ≤ 24 from (by first | omega | (have hq := (show Sh u s2 from (by first | exact p1 | exact p3)).1; omega)))) mf_X12_y kw_1181 hG hP hP (ci := 8) (q0 := 0) rfl rfl rfl rfl hl.1 ⟨⟨Nat.le_of_ble_eq_true rfl, Nat.le_of_ble_eq_true rfl⟩, Nat.le_of_ble_eq_true rfl, Nat.le_refl _, Nat.le_refl _⟩ rfl dX12_findSum_56 (fun z_56 h_56 => ?_)
              have h_56 : z_56 = mY u s2 j := h_56
              have hb_56 := (show Sh u s2 from (by first | exact p1 | exact p3)).2.1 (by omega) j (by omega)
              refine j_iadd SS (x := z_49) (y := z_56) dX12_findSum_59 ?_
              refine j_vWv SS (As := [.int (J (z_35 + z_42)), .int (J (z_49 + z_56))]) (rest := []) (c_X12_put l D o q (uV (uI (uI u 4 f_) 5 g_) 6 w_) A (mW_D hD) (z_35 + z_42) (z_49 + z_56) (show 0 ≤ w_ ∧ w_ < 640 from (by omega))) mf_X12_put kw_1185 hG hP hP (ci := 8) (q0 := 0) rfl rfl rfl hS (fun _ h => h) rfl hl.1 ⟨⟨Nat.le_of_ble_eq_true rfl, Nat.le_of_ble_eq_true rfl⟩, Nat.le_of_ble_eq_true rfl, Nat.le_refl _, Nat.le_refl _⟩ rfl dX12_findSum_60 (fun u60 H locs h_60 hP _ hS => ?_)
              obtain ⟨f_60, g_60, w_60, rfl, h_60⟩ := h_60
              have hP : va_P D.1 j_cl (mW D o q (uV (uI (uI u 4 f_60) 5 g_60) 6 w_60)) H := hP
              have h_60 : f_60 = upI (f_) (w_).toNat (z_35 + z_42) ∧ g_60 = upI (g_) (w_).toNat (z_49 + z_56) ∧ w_60 = w_ + 1 := h_60
              have k1 := h_60.2.2
              refine lv_iinc (v := J (j + 1)) (lv' := [(4, .int (J (j + 1))), (0, .ref o), (1, .int (J s)), (2, .int (J s2)), (3, .int (J i))]) SS.1 SS.2.1 dX12_findSum_63 hl (k := 4) rfl (J_add _ _) (by decide) rfl (fun ls hl => ?_)
              refine lv_goto (tgt := 20) SS.1 SS.2.1 dX12_findSum_66 (by decide) ?_
              exact ih_20 (j + 1) f_60 g_60 w_60 _ _ hP hS ls (lv_sub hl [1, 2, 3, 4, 0] rfl) (by omega) (by omega) (by obtain ⟨k1, k2, k3⟩ := h_60; rw [k1, k2, k3]; exact bd_put (by omega) i20_2 (by omega) (by omega)) (fun x y => by obtain ⟨k1, k2, k3⟩ := h_60; rw [k1, k2, k3, SWW_put (by omega), i20_3]; exact sm_s i20_0.1 (by rw [h_35, h_42]) (by rw [h_49, h_56]) x y) (by omega)
        exact L_20 ((mN u s2 - (0 : Int)).toNat + 1) 0 f g w _ _ hP hS ls (lv_sub hl [1, 2, 3, 4, 0] rfl) (by omega) (by omega) (i7_2) (fun x y => (i7_3 x y).trans ⟨Or.inl, fun q => by rcases q with q | ⟨b, q1, _⟩; exact q; omega⟩) (Nat.lt_succ_self _)
  exact L_7 ((mN u s - (0 : Int)).toNat + 1) 0 (u.1 4) (u.1 5) 0 _ _ hP hS ls (lv_sub hl [1, 2, 3, 0] rfl) (by omega) (by omega) (fun a ha => by omega) (fun x y => ⟨fun q => absurd q (SWW_0 (by omega)), fun ⟨a, b, c, d, ⟨k, k1, _⟩, _⟩ => by omega⟩) (Nat.lt_succ_self _)


/-! the lower chain over the columns -/
def CLW (f g X Y : Nat → Int) (i n : Int) : Prop := (n = 0 ∧ ∀ c : Nat, (c : Int) < i → ¬ f c ≤ g c) ∨ (0 < n ∧ chx (SL f g i.toNat) X Y 0 n.toNat)
theorem CLW_0 {f g X Y : Nat → Int} : CLW f g X Y 0 0 := Or.inl ⟨rfl, fun c h => by omega⟩
theorem CLW_k {f g X Y : Nat → Int} {i n : Int} (h0 : 0 ≤ i) (h : CLW f g X Y i n) (he : ¬ f i.toNat ≤ g i.toNat) : CLW f g X Y (i + 1) n := by
  rcases h with ⟨h1, h2⟩ | ⟨h1, h2⟩
  · refine Or.inl ⟨h1, fun c hc => ?_⟩
    by_cases e : (c : Int) = i
    · rw [show c = i.toNat by omega]; exact he
    · exact h2 c (by omega)
  · refine Or.inr ⟨h1, chx_cong h2 (fun _ _ _ => ⟨rfl, rfl⟩) (fun x y => ?_)⟩
    constructor
    · rintro ⟨c, c1, c2, c3⟩
      by_cases e : (c : Int) = i
      · rw [show c = i.toNat by omega] at c2; exact absurd c2 he
      · exact ⟨c, by omega, c2, c3⟩
    · rintro ⟨c, c1, c2, c3⟩
      exact ⟨c, by omega, c2, c3⟩
theorem SL_s {f g : Nat → Int} {i : Int} (h0 : 0 ≤ i) (he : f i.toNat ≤ g i.toNat) (x y : Int) : SL f g (i + 1).toNat x y ↔ SL f g i.toNat x y ∨ (x = i - 80 ∧ y = f i.toNat) := by
  constructor
  · rintro ⟨c, c1, c2, c3, c4⟩
    by_cases e : (c : Int) = i
    · rw [show c = i.toNat by omega] at c4; exact Or.inr ⟨by omega, c4⟩
    · exact Or.inl ⟨c, by omega, c2, c3, c4⟩
  · rintro (⟨c, c1, c2, c3⟩ | ⟨c3, c4⟩)
    · exact ⟨c, by omega, c2, c3⟩
    · exact ⟨i.toNat, by omega, he, by omega, c4⟩
/-- what push does -/
def PU (X Y X' Y' : Nat → Int) (k t a b n : Int) : Prop := ((0 < k ∧ X (k - 1).toNat = a ∧ Y (k - 1).toNat = b) ∧ n = k ∧ X' = X ∧ Y' = Y) ∨ (¬ (0 < k ∧ X (k - 1).toNat = a ∧ Y (k - 1).toNat = b) ∧ ∃ v : Int, (0 ≤ v ∧ v ≤ k ∧ (1 ≤ k - t → 1 ≤ v - t)) ∧ n = v + 1 ∧ X' = upI X v.toNat a ∧ Y' = upI Y v.toNat b ∧ (∀ j : Nat, v ≤ j → (j : Int) < k → cx (X j - X (j - 1)) (Y j - Y (j - 1)) (a - X (j - 1)) (b - Y (j - 1)) ≤ 0) ∧ (v - t ≤ 1 ∨ 0 < cx (X (v.toNat - 1) - X (v.toNat - 2)) (Y (v.toNat - 1) - Y (v.toNat - 2)) (a - X (v.toNat - 2)) (b - Y (v.toNat - 2))))
theorem PU_n {X Y X' Y' : Nat → Int} {k t a b n : Int} (h : PU X Y X' Y' k t a b n) : n ≤ k + 1 := by
  rcases h with ⟨_, h, _⟩ | ⟨_, v, h1, h2, _⟩ <;> omega
theorem CLW_s {f g X Y X' Y' : Nat → Int} {i n n' : Int} (h0 : 0 ≤ i) (hn : 0 ≤ n) (h : CLW f g X Y i n) (he : f i.toNat ≤ g i.toNat) (hp : PU X Y X' Y' n 0 (i - 80) (f i.toNat) n') : CLW f g X' Y' (i + 1) n' := by
  rcases hp with ⟨⟨k1, k2, k3⟩, _⟩ | ⟨_, v, ⟨v0, v1, v2⟩, e1, e2, e3, hpo, hk⟩
  · exfalso
    rcases h with ⟨h1, h2⟩ | ⟨h1, h2⟩
    · omega
    · obtain ⟨c, c1, c2, c3, c4⟩ := h2.2.1 (n.toNat - 1) (by omega) (by omega)
      rw [show n.toNat - 1 = (n - 1).toNat by omega] at c3
      omega
  · subst e1; subst e2; subst e3
    refine Or.inr ⟨by omega, ?_⟩
    rcases h with ⟨h1, h2⟩ | ⟨h1, h2⟩
    · have hv : v = 0 := by omega
      subst hv
      refine chx_1 (b := 0) (fun x y => ?_)
      rw [SL_s h0 he, show (0 : Int).toNat = 0 from rfl, upI_s, upI_s]
      constructor
      · rintro (⟨c, c1, c2, _⟩ | q)
        · exact absurd c2 (h2 c (by omega))
        · exact q
      · exact Or.inr
    · rw [show (v + 1).toNat = v.toNat + 1 by omega]
      refine chx_s h2 (v := v.toNat) (wx := i - 80) (wy := f i.toNat) ?_ (by omega) (by omega) (fun j q1 q2 => hpo j (by omega) (by omega)) ?_ (fun a ha => ⟨upI_n (by omega), upI_n (by omega)⟩) upI_s upI_s (SL_s h0 he)
      · obtain ⟨c, c1, c2, c3, c4⟩ := h2.2.1 (n.toNat - 1) (by omega) (by omega)
        unfold lxp; omega
      · rcases hk with q | q
        · exact Or.inl (by omega)
        · exact Or.inr q
/-- the upper chain on its way: the columns behind j are done -/
def UP (f g FX FY : Nat → Int) (m : Nat) (j : Int) (X Y : Nat → Int) (k : Nat) : Prop := (∀ a : Nat, a ≤ m → X a = FX a ∧ Y a = FY a) ∧ ((k = m + 1 ∧ ∀ c : Nat, j < c → c < 161 → ¬ f c ≤ g c) ∨ ∃ b : Nat, ((b = m ∧ Y b = Y m) ∨ (b = m + 1 ∧ X b = X m ∧ Y m < Y b)) ∧ chx (ngS (SH f g (j + 1).toNat)) (ng X) (ng Y) b k)
theorem UP_0 {f g FX FY : Nat → Int} {m : Nat} : UP f g FX FY m 160 FX FY (m + 1) := ⟨fun _ _ => ⟨rfl, rfl⟩, Or.inl ⟨rfl, fun c h1 h2 => by omega⟩⟩
theorem UP_k {f g FX FY X Y : Nat → Int} {m k : Nat} {j : Int} (h0 : 0 ≤ j) (h : UP f g FX FY m j X Y k) (he : ¬ f j.toNat ≤ g j.toNat) : UP f g FX FY m (j + -1) X Y k := by
  obtain ⟨h1, h2⟩ := h
  refine ⟨h1, ?_⟩
  rcases h2 with ⟨h2, h3⟩ | ⟨b, hb, C⟩
  · refine Or.inl ⟨h2, fun c c1 c2 => ?_⟩
    by_cases e : (c : Int) = j
    · rw [show c = j.toNat by omega]; exact he
    · exact h3 c (by omega) c2
  · refine Or.inr ⟨b, hb, chx_cong C (fun _ _ _ => ⟨rfl, rfl⟩) (fun x y => ?_)⟩
    unfold ngS
    constructor
    · rintro ⟨c, c1, c2, c3, c4⟩
      by_cases e : (c : Int) = j
      · rw [show c = j.toNat by omega] at c3; exact absurd c3 he
      · exact ⟨c, by omega, c2, c3, c4⟩
    · rintro ⟨c, c1, c2, c3, c4⟩
      exact ⟨c, by omega, c2, c3, c4⟩
theorem SH_s {f g : Nat → Int} {j : Int} (h0 : 0 ≤ j) (h1 : j ≤ 160) (he : f j.toNat ≤ g j.toNat) (x y : Int) : ngS (SH f g (j + -1 + 1).toNat) x y ↔ ngS (SH f g (j + 1).toNat) x y ∨ (x = -(j - 80) ∧ y = -(g j.toNat)) := by
  unfold ngS
  constructor
  · rintro ⟨c, c1, c2, c3, c4, c5⟩
    by_cases e : (c : Int) = j
    · rw [show c = j.toNat by omega] at c5; exact Or.inr ⟨by omega, by omega⟩
    · exact Or.inl ⟨c, by omega, c2, c3, c4, c5⟩
  · rintro (⟨c, c1, c2, c3⟩ | ⟨c3, c4⟩)
    · exact ⟨c, by omega, c2, c3⟩
    · exact ⟨j.toNat, by omega, by omega, he, by omega, by omega⟩
theorem UP_s {f g FX FY X Y X' Y' : Nat → Int} {m k : Nat} {j n n' : Int} (C1 : chx (SL f g 161) FX FY 0 (m + 1)) (h0 : 0 ≤ j) (hj : j ≤ 160) (h : UP f g FX FY m j X Y k) (hn : n = k) (he : f j.toNat ≤ g j.toNat) (hp : PU X Y X' Y' n m (j - 80) (g j.toNat) n') : UP f g FX FY m (j + -1) X' Y' n'.toNat := by
  obtain ⟨u1, u2⟩ := h
  have um := u1 m (by omega)
  rcases u2 with ⟨u2, u3⟩ | ⟨b, hb, C⟩
  · -- the first column from the right
    have hX : X m = j - 80 ∧ Y m = f j.toNat := by
      obtain ⟨c, c1, c2, c3, c4⟩ := C1.2.1 m (by omega) (by omega)
      have q := (C1.2.2.2.1 (j - 80) (f j.toNat) ⟨j.toNat, by omega, he, by omega, rfl⟩).2
      rw [show m + 1 - 1 = m by omega] at q
      have hc : ¬ j < c := fun w => u3 c w c1 c2
      have hcj : c = j.toNat := by unfold lxn at q; omega
      rw [um.1, um.2, c3, c4, hcj]
      exact ⟨by omega, rfl⟩
    have hS : ∀ x y : Int, ngS (SH f g (j + -1 + 1).toNat) x y ↔ x = -(j - 80) ∧ y = -(g j.toNat) := fun x y => by
      rw [SH_s h0 hj he]
      unfold ngS
      constructor
      · rintro (⟨c, c1, c2, c3, _⟩ | q)
        · exact absurd c3 (u3 c (by omega) c2)
        · exact q
      · exact Or.inr
    rcases hp with ⟨⟨k1, k2, k3⟩, e1, e2, e3⟩ | ⟨kn, v, ⟨v0, v1, v2⟩, e1, e2, e3, hpo, hk⟩
    · rw [show (n - 1).toNat = m by omega] at k2 k3
      subst e2; subst e3
      refine ⟨u1, Or.inr ⟨m, Or.inl ⟨rfl, rfl⟩, ?_⟩⟩
      rw [show n'.toNat = m + 1 by omega]
      exact chx_1 (fun x y => by rw [hS]; unfold ng; rw [k2, k3])
    · have hv : v = (m : Int) + 1 := by omega
      subst e1; subst e2; subst e3
      rw [show v.toNat = m + 1 by omega]
      refine ⟨fun a ha => by rw [upI_n (by omega), upI_n (by omega)]; exact u1 a ha, Or.inr ⟨m + 1, Or.inr ⟨rfl, by rw [upI_s, upI_n (by omega), hX.1], ?_⟩, ?_⟩⟩
      · rw [upI_s, upI_n (by omega), hX.2]
        by_cases w : f j.toNat = g j.toNat
        · exfalso
          apply kn
          rw [show (n - 1).toNat = m by omega]
          exact ⟨by omega, hX.1, by rw [hX.2]; exact w⟩
        · omega
      · rw [show (v + 1).toNat = m + 1 + 1 by omega]
        exact chx_1 (fun x y => by rw [hS]; unfold ng; rw [upI_s, upI_s])
  · -- a further one
    have hbk := C.1
    have hlast : ∃ c : Nat, j < c ∧ X (k - 1) = (c : Int) - 80 := by
      obtain ⟨c, c1, c2, c3, c4, c5⟩ := ngS_n.mp (C.2.1 (k - 1) (by omega) (by omega))
      exact ⟨c, by omega, c4⟩
    have hXm : j - 80 < X m := by
      have q : X b = X m := by
        rcases hb with w | w
        · rw [w.1]
        · exact w.2.1
      obtain ⟨c, c1, c2, c3, c4, c5⟩ := ngS_n.mp (C.2.1 b (by omega) (by omega))
      omega
    obtain ⟨c, hc1, hc2⟩ := hlast
    have hmk : m + 1 ≤ k := by rcases hb with w | w <;> omega
    rcases hp with ⟨⟨k1, k2, k3⟩, _⟩ | ⟨kn, v, ⟨v0, v1, v2⟩, e1, e2, e3, hpo, hk⟩
    · exfalso
      rw [show (n - 1).toNat = k - 1 by omega] at k2
      omega
    · have vm := v2 (by omega)
      have hbv : b < v.toNat := by
        rcases hb with ⟨w1, _⟩ | ⟨w1, w2, w3⟩
        · omega
        · apply Nat.lt_of_not_le
          intro w
          have q := hpo (m + 1) (by omega) (by omega)
          rw [show m + 1 - 1 = m by omega, ← w1, w2] at q
          have z := Int.mul_pos (show 0 < Y b - Y m by omega) (show 0 < X m - (j - 80) by omega)
          have z2 : cx (X m - X m) (Y b - Y m) (j - 80 - X m) (g j.toNat - Y m) = (Y b - Y m) * (X m - (j - 80)) := by unfold cx; grind
          omega
      subst e1; subst e2; subst e3
      refine ⟨fun a ha => by rw [upI_n (by omega), upI_n (by omega)]; exact u1 a ha, Or.inr ⟨b, ?_, ?_⟩⟩
      · rcases hb with ⟨w1, w2⟩ | ⟨w1, w2, w3⟩
        · exact Or.inl ⟨w1, by rw [w1]⟩
        · exact Or.inr ⟨w1, by rw [upI_n (by omega), upI_n (by omega)]; exact w2, by rw [upI_n (by omega), upI_n (by omega)]; exact w3⟩
      · rw [show (v + 1).toNat = v.toNat + 1 by omega]
        refine chx_s C (v := v.toNat) (wx := -(j - 80)) (wy := -(g j.toNat)) ?_ hbv (by omega) (fun i q1 q2 => ?_) ?_ (fun a ha => ⟨?_, ?_⟩) ?_ ?_ (SH_s h0 hj he)
        · unfold lxp ng
          omega
        · unfold ng; rw [cx_ng]; exact hpo i (by omega) (by omega)
        · rcases hk with q | q
          · exact Or.inl (by rcases hb with w | w <;> omega)
          · exact Or.inr (by unfold ng; rw [cx_ng]; exact q)
        · unfold ng; rw [upI_n (by omega)]
        · unfold ng; rw [upI_n (by omega)]
        · unfold ng; rw [upI_s]
        · unfold ng; rw [upI_s]
/-- what both chains together are -/
theorem UP_e {f g FX FY X Y : Nat → Int} {n1 n2 n j : Int} (hc : CLW f g FX FY 161 n1) (hu : 0 < n1 → UP f g FX FY (n1 - 1).toNat j X Y n2.toNat) (hj : j = -1) (h2 : 0 ≤ n2) (h1 : n1 = 0 → n2 = 0) (hn : (n = n2 ∧ (n2 ≤ 1 ∨ X 0 ≠ X (n2 - 1).toNat ∨ Y 0 ≠ Y (n2 - 1).toNat)) ∨ (n = n2 - 1 ∧ 1 < n2 ∧ X 0 = X (n2 - 1).toNat ∧ Y 0 = Y (n2 - 1).toNat)) (S : Int → Int → Prop) (h : HUL S f g) : HS S n X Y := by
  subst hj
  rcases hc with ⟨c1, c2⟩ | ⟨c1, C1⟩
  · have z := h1 c1
    refine Or.inl ⟨by omega, fun x y s => ?_⟩
    obtain ⟨⟨c, q1, q2, _⟩, _⟩ := HUL_l h s
    exact c2 c (by omega) q2
  · have C1 : chx (SL f g 161) FX FY 0 ((n1 - 1).toNat + 1) := by
      rw [show (n1 - 1).toNat + 1 = n1.toNat by omega]; exact C1
    obtain ⟨u1, u2⟩ := hu c1
    rcases u2 with ⟨u2, u3⟩ | ⟨b, hb, C⟩
    · exfalso
      obtain ⟨c, q1, q2, _⟩ := C1.2.1 0 (by omega) (by omega)
      exact u3 c (by omega) q1 q2
    · rw [show ((-1 : Int) + 1).toNat = 0 from rfl] at C
      have D1 : chx (SL f g 161) X Y 0 ((n1 - 1).toNat + 1) := chx_cong C1 (fun a _ ha => u1 a (by omega)) (fun _ _ => Iff.rfl)
      have hbk := C.1
      have q := HS_k (n := n.toNat) h D1 C hb (by
        rw [show n2.toNat - 1 = (n2 - 1).toNat by omega]
        rcases hn with ⟨w1, w2⟩ | ⟨w1, w2, w3⟩
        · refine Or.inl ⟨by omega, ?_⟩
          rcases w2 with w2 | w2
          · exact Or.inl (by omega)
          · exact Or.inr w2
        · exact Or.inr ⟨by omega, by omega, w3⟩)
      rw [show ((n.toNat : Nat) : Int) = n by omega] at q
      exact q
/-! taking points -/
theorem HUL_0 {f g : Nat → Int} : HUL (fun _ _ => False) (jf f 81 161) (jf g (-81) 161) := ⟨fun _ _ h => h.elim, fun c hc h => by unfold jf at h; rw [if_pos hc, if_pos hc] at h; omega, fun c hc => by unfold jf; rw [if_pos hc, if_pos hc]; omega⟩
theorem HUL_t {S : Int → Int → Prop} {f g : Nat → Int} {a b : Int} (h : HUL S f g) (ha : -80 ≤ a ∧ a ≤ 80) (hbb : -80 ≤ b ∧ b ≤ 80) : HUL (fun x y => S x y ∨ (x = a ∧ y = b)) (upI f (a + 80).toNat (min (f (a + 80).toNat) b)) (upI g (a + 80).toNat (max (g (a + 80).toNat) b)) := by
  refine ⟨fun x y s => ?_, fun c hc hl => ?_, fun c hc => ?_⟩
  · rcases s with s | ⟨s1, s2⟩
    · have q := h.1 x y s
      refine ⟨q.1, ?_⟩
      by_cases e : (x + 80).toNat = (a + 80).toNat
      · rw [e, upI_s, upI_s]; rw [e] at q; omega
      · rw [upI_n e, upI_n e]; exact q.2
    · subst s1; subst s2
      rw [upI_s, upI_s]
      omega
  · by_cases e : c = (a + 80).toNat
    · subst e
      rw [upI_s, upI_s] at hl ⊢
      rw [show (((a + 80).toNat : Nat) : Int) - 80 = a by omega]
      by_cases w : f (a + 80).toNat ≤ g (a + 80).toNat
      · have q := h.2.1 _ hc w
        rw [show (((a + 80).toNat : Nat) : Int) - 80 = a by omega] at q
        constructor
        · by_cases z : f (a + 80).toNat ≤ b
          · rw [Int.min_eq_left z]; exact Or.inl q.1
          · rw [Int.min_eq_right (by omega)]; exact Or.inr ⟨rfl, rfl⟩
        · by_cases z : g (a + 80).toNat ≤ b
          · rw [Int.max_eq_right z]; exact Or.inr ⟨rfl, rfl⟩
          · rw [Int.max_eq_left (by omega)]; exact Or.inl q.2
      · have w2 : 81 ≤ f (a + 80).toNat ∧ g (a + 80).toNat ≤ -81 := by
          rcases h.2.2 _ hc with q | q
          · exact absurd q w
          · exact q
        rw [Int.min_eq_right (by omega), Int.max_eq_right (by omega)]
        exact ⟨Or.inr ⟨rfl, rfl⟩, Or.inr ⟨rfl, rfl⟩⟩
    · rw [upI_n e, upI_n e] at hl ⊢
      have q := h.2.1 c hc hl
      exact ⟨Or.inl q.1, Or.inl q.2⟩
  · by_cases e : c = (a + 80).toNat
    · subst e
      rw [upI_s, upI_s]
      have q := h.2.2 _ hc
      by_cases z : f (a + 80).toNat ≤ b
      · rw [Int.min_eq_left z]; by_cases y : g (a + 80).toNat ≤ b
        · rw [Int.max_eq_right y]; omega
        · rw [Int.max_eq_left (by omega)]; omega
      · rw [Int.min_eq_right (by omega)]; by_cases y : g (a + 80).toNat ≤ b
        · rw [Int.max_eq_right y]; omega
        · rw [Int.max_eq_left (by omega)]; omega
    · rw [upI_n e, upI_n e]; exact h.2.2 c hc
theorem HUL_c {S S' : Int → Int → Prop} {f g : Nat → Int} (h : HUL S f g) (e : ∀ x y : Int, S' x y ↔ S x y) : HUL S' f g := ⟨fun x y s => h.1 x y ((e x y).mp s), fun c hc hl => ⟨(e _ _).mpr (h.2.1 c hc hl).1, (e _ _).mpr (h.2.1 c hc hl).2⟩, h.2.2⟩
/-- the corners of a row before the place i -/
def RPi (u : CS) (r : Nat) (i : Int) : Int → Int → Prop := fun x y => ∃ a : Nat, (a : Int) < i ∧ x = u.1.1 r a ∧ y = u.1.2.1 r a
def RP (u : CS) (r : Nat) : Int → Int → Prop := RPi u r (u.1.2.2.1 r)
theorem rp_s {S : Prop} {u : CS} {r : Nat} {i x0 y0 : Int} (h : 0 ≤ i) (ex : x0 = u.1.1 r i.toNat) (ey : y0 = u.1.2.1 r i.toNat) (x y : Int) : S ∨ RPi u r (i + 1) x y ↔ (S ∨ RPi u r i x y) ∨ (x = x0 ∧ y = y0) := by
  constructor
  · rintro (q | ⟨a, q1, q2, q3⟩)
    · exact Or.inl (Or.inl q)
    · by_cases e : (a : Int) = i
      · rw [show a = i.toNat by omega] at q2 q3; exact Or.inr ⟨q2.trans ex.symm, q3.trans ey.symm⟩
      · exact Or.inl (Or.inr ⟨a, by omega, q2, q3⟩)
  · rintro ((q | ⟨a, q1, q2⟩) | ⟨q1, q2⟩)
    · exact Or.inl q
    · exact Or.inr ⟨a, by omega, q2⟩
    · exact Or.inr ⟨i.toNat, by omega, q1.trans ex, q2.trans ey⟩
theorem rs_s {S : Prop} {u : CS} {r2 : Nat} {j A C x0 y0 : Int} (h : 0 ≤ j) (ex : x0 = A + u.1.1 r2 j.toNat) (ey : y0 = C + u.1.2.1 r2 j.toNat) (x y : Int) : (S ∨ ∃ b : Nat, (b : Int) < j + 1 ∧ x = A + u.1.1 r2 b ∧ y = C + u.1.2.1 r2 b) ↔ (S ∨ ∃ b : Nat, (b : Int) < j ∧ x = A + u.1.1 r2 b ∧ y = C + u.1.2.1 r2 b) ∨ (x = x0 ∧ y = y0) := by
  constructor
  · rintro (q | ⟨a, q1, q2, q3⟩)
    · exact Or.inl (Or.inl q)
    · by_cases e : (a : Int) = j
      · rw [show a = j.toNat by omega] at q2 q3; exact Or.inr ⟨q2.trans ex.symm, q3.trans ey.symm⟩
      · exact Or.inl (Or.inr ⟨a, by omega, q2, q3⟩)
  · rintro ((q | ⟨a, q1, q2⟩) | ⟨q1, q2⟩)
    · exact Or.inl q
    · exact Or.inr ⟨a, by omega, q2⟩
    · exact Or.inr ⟨j.toNat, by omega, q1.trans ex, q2.trans ey⟩
theorem RSi_s {u : CS} {r r2 : Nat} {i : Int} (h0 : 0 ≤ i) (x y : Int) : SM (RPi u r (i + 1)) (RP u r2) x y ↔ SM (RPi u r i) (RP u r2) x y ∨ ∃ b : Nat, (b : Int) < u.1.2.2.1 r2 ∧ x = u.1.1 r i.toNat + u.1.1 r2 b ∧ y = u.1.2.1 r i.toNat + u.1.2.1 r2 b := by
  constructor
  · rintro ⟨a, b, c, d, ⟨k, k1, k2, k3⟩, ⟨m, m1, m2, m3⟩, q1, q2⟩
    by_cases e : (k : Int) = i
    · rw [show k = i.toNat by omega] at k2 k3
      exact Or.inr ⟨m, m1, by omega, by omega⟩
    · exact Or.inl ⟨a, b, c, d, ⟨k, by omega, k2, k3⟩, ⟨m, m1, m2, m3⟩, q1, q2⟩
  · rintro (⟨a, b, c, d, ⟨k, k1, k2, k3⟩, q⟩ | ⟨b, q1, q2, q3⟩)
    · exact ⟨a, b, c, d, ⟨k, by omega, k2, k3⟩, q⟩
    · exact ⟨_, _, _, _, ⟨i.toNat, by omega, rfl, rfl⟩, ⟨b, q1, rfl, rfl⟩, q2, q3⟩


set_option maxHeartbeats 4000000 in
set_option maxRecDepth 100000 in
theorem c_X3_push2 (l : Launch) (D : JD) (q : Nat → Nat) (u : CS) (A : Nat → Prop) (hD : va_D A (cW D q u)) (a : Int) (b : Int) (t : Int) (p0 : RB 80 u 8) (p1 : -80 ≤ a ∧ a ≤ 80) (p2 : -80 ≤ b ∧ b ≤ 80) (p3 : 0 ≤ t ∧ t ≤ 400) (p4 : u.1.2.2.1 8 ≤ 322) : Met l yX3_push (jw yX3_push cX3_push 4 none) (jr 2 46) (jP [.ref (q 2), .int (J a), .int (J b), .int (J t)] D (fun H => va_P D.1 j_cl (cW D q u) H)) (jWv (fun u' => ∃ f : Nat → Int, ∃ g : Nat → Int, ∃ n : Int, u' = (sY (sX (sC u 8 n) 8 f) 8 g) ∧ (((0 ≤ n ∧ n ≤ 323) ∧ RV 80 f g) ∧ PU (u.1.1 8) (u.1.2.1 8) f g (u.1.2.2.1 8) t a b n)) (fun u' H => va_P D.1 j_cl (cW D q u') H) A) 0 0 A := by
  refine Met.ofW (cc := cX3_push) (maxL := 4) (ret := none) (by decide) rfl ?_
  intro pr en st mi args below meth co s₁ B hml hv
  obtain ⟨rfl, hG, hP⟩ := hv
  have hr := B.returns
  have hlk := B.notSynchronized
  have SS : jS pr mi co cX3_push 4 st _ RX3 := ⟨B.exec, B.bytes, hml, findClass_of_methodNamed B.named, fun w hw => atoms_spec (ws := (jw yX3_push cX3_push 4 none)) B.pre w (List.mem_cons_of_mem _ hw)⟩
  have hl := lv_entry ([.ref (q 2), .int (J a), .int (J b), .int (J t)]) (n := 4) (Nat.le_of_ble_eq_true rfl)
  rw [lg_entry_eq]
  generalize (lg_sl ([.ref (q 2), .int (J a), .int (J b), .int (J t)]) ++ List.replicate (4 - (lg_sl ([.ref (q 2), .int (J a), .int (J b), .int (J t)])).length) Slot.unset).toArray = ls at hl ⊢
  have hl : lv_has ls 4 [(0, .ref (q 2)), (1, .int (J a)), (2, .int (J b)), (3, .int (J t))] := hl
  have hS : va_S A st.heap st.heap [] := va_S.rf
  have hR : RB 80 u 8 := p0
  have hc := p0.1
  have hr8 := rl8
  rw [rl8] at hc
  refine lv_aload_n SS.1 SS.2.1 dX3_push_0 rfl (lv_at hl 0 rfl) ?_
  refine lv_iload_n SS.1 SS.2.1 dX3_push_1 rfl (lv_at hl 1 rfl) ?_
  refine lv_iload_n SS.1 SS.2.1 dX3_push_2 rfl (lv_at hl 2 rfl) ?_
  refine j_vRi SS (As := [.int (J a), .int (J b)]) (rest := []) (c_X3_isLast l D q u  a b (show RB 80 u 8 from (hR)) (show -2147483648 ≤ a ∧ a ≤ 2147483647 from (by omega)) (show -2147483648 ≤ b ∧ b ≤ 2147483647 from (by omega))) mf_X3_isLast kw_433 hG hP hP (ci := 3) (q0 := 2) rfl rfl rfl rfl hl.1 ⟨⟨Nat.le_of_ble_eq_true rfl, Nat.le_of_ble_eq_true rfl⟩, Nat.le_of_ble_eq_true rfl, Nat.le_refl _, Nat.le_refl _⟩ rfl dX3_push_3 (fun z_3 h_3 => ?_)
  have h_3 : (z_3 = 1 ∧ 0 < (u.1.2.2.1 8) ∧ rx u 8 ((u.1.2.2.1 8) - 1) = a ∧ ry9 u 8 ((u.1.2.2.1 8) - 1) = b) ∨ (z_3 = 0 ∧ ¬ (0 < (u.1.2.2.1 8) ∧ rx u 8 ((u.1.2.2.1 8) - 1) = a ∧ ry9 u 8 ((u.1.2.2.1 8) - 1) = b)) := h_3
  have hrx : 0 < u.1.2.2.1 8 → rx u 8 (u.1.2.2.1 8 - 1) = u.1.1 8 (u.1.2.2.1 8 - 1).toNat ∧ ry9 u 8 (u.1.2.2.1 8 - 1) = u.1.2.1 8 (u.1.2.2.1 8 - 1).toNat := fun h => ⟨if_pos (by rw [rl8]; omega), if_pos (by rw [rl8]; omega)⟩
  refine j_if_eq SS (tgt := 10) (x := z_3) dX3_push_6 (by decide) (by omega) (fun c_6 => ?_) (fun c_6 => ?_)
  · skip
    have L_10 : ∀ (nn : Nat) (n1 : Int) (H : Heap) (locs : List Loc) (hP : va_P D.1 j_cl (cW D q (sC u 8 n1)) H) (hS : va_S A st.heap H locs) (ls : Array Slot) (hl : lv_has ls 4 [(0, .ref (q 2)), (1, .int (J a)), (2, .int (J b)), (3, .int (J t))]) (i10_0 : 0 ≤ n1 ∧ n1 ≤ u.1.2.2.1 8) (i10_1 : 1 ≤ u.1.2.2.1 8 - t → 1 ≤ n1 - t) (i10_2 : ∀ j : Nat, n1 ≤ j → (j : Int) < u.1.2.2.1 8 → cx (u.1.1 8 j - u.1.1 8 (j - 1)) (u.1.2.1 8 j - u.1.2.1 8 (j - 1)) (a - u.1.1 8 (j - 1)) (b - u.1.2.1 8 (j - 1)) ≤ 0), n1.toNat < nn → W pr l en (headSpec (jw yX3_push cX3_push 4 none) (jr 2 46)).room st mi (([.ref (q 2), .int (J a), .int (J b), .int (J t)] : List Value).toArray) below meth co H locs 0 0 (MQ below (jWv (fun u' => ∃ f : Nat → Int, ∃ g : Nat → Int, ∃ n : Int, u' = (sY (sX (sC u 8 n) 8 f) 8 g) ∧ (((0 ≤ n ∧ n ≤ 323) ∧ RV 80 f g) ∧ PU (u.1.1 8) (u.1.2.1 8) f g (u.1.2.2.1 8) t a b n)) (fun u' H => va_P D.1 j_cl (cW D q u') H) A) (([.ref (q 2), .int (J a), .int (J b), .int (J t)] : List Value).toArray) st 0 0 A) (F0 mi 10 ls []) := by
      intro nn
      induction nn with
      | zero => intros; omega
      | succ nn ih_10 =>
        intro  n1 H locs hP hS ls hl i10_0 i10_1 i10_2 hm
        have hR : RB 80 (sC u 8 n1) 8 := ⟨by show 0 ≤ n1 ∧ n1 ≤ (rl 8 : Int); rw [rl8]; omega, p0.2⟩
        refine lv_aload_n SS.1 SS.2.1 dX3_push_10 rfl (lv_at hl 0 rfl) ?_
        refine j_get SS hG hP 2 (v := .ref (q (9 + 5 * 8))) (C := RX3) (T := TX3) (N := 3) rfl rfl inX3 2 (by decide) (ref := "GridPolygons$Hull") kw_179 rfl rfl dX3_push_11 ?_
        refine j_getS SS hG hP (9 + 5 * 8) (v := .int (J n1)) (C := RX7) (T := TX7) (N := 3) (cw_ring (by omega)) rfl inX7 2 (by decide) (ref := "GridPolygons$Ring") kw_141 kw_132 rfl dX3_push_14 ?_
        refine lv_iload_n SS.1 SS.2.1 dX3_push_17 rfl (lv_at hl 3 rfl) ?_
        refine j_isub SS (x := n1) (y := t) dX3_push_18 ?_
        refine j_iconst SS dX3_push_19 ?_
        refine j_icmp_lt SS (tgt := 48) (x := (n1 - t)) (y := 2) dX3_push_20 (by decide) (by omega) (by decide) (fun c_20 => ?_) (fun c_20 => ?_)
        · skip
          refine lv_aload_n SS.1 SS.2.1 dX3_push_48 rfl (lv_at hl 0 rfl) ?_
          refine j_get SS hG hP 2 (v := .ref (q (9 + 5 * 8))) (C := RX3) (T := TX3) (N := 3) rfl rfl inX3 2 (by decide) (ref := "GridPolygons$Hull") kw_179 rfl rfl dX3_push_49 ?_
          refine lv_iload_n SS.1 SS.2.1 dX3_push_52 rfl (lv_at hl 1 rfl) ?_
          refine lv_iload_n SS.1 SS.2.1 dX3_push_53 rfl (lv_at hl 2 rfl) ?_
          refine j_uWv SS (As := [.int (J a), .int (J b)]) (rest := []) (c_X8_append l D q (sC u 8 n1) A (cW_D hD) 8 (by omega) a b (show 0 ≤ n1 ∧ n1 ≤ rl 8 from (by omega))) mu_7_append kw_453 hG hP hP (ci := 7) (q0 := (9 + 5 * 8)) rfl (cw_ring (by omega)) rfl hS (fun _ h => h) rfl hl.1 ⟨⟨Nat.le_of_ble_eq_true rfl, Nat.le_of_ble_eq_true rfl⟩, Nat.le_of_ble_eq_true rfl, Nat.le_refl _, Nat.le_refl _⟩ rfl dX3_push_54 (fun u54 H locs h_54 hP _ hS => ?_)
          obtain ⟨f_54, g_54, n_54, rfl, h_54⟩ := h_54
          have hP : va_P D.1 j_cl (cW D q (sY (sX (sC u 8 n_54) 8 f_54) 8 g_54)) H := hP
          have h_54 : (n1 < rl 8 ∧ f_54 = upI ((u.1.1 8)) (n1).toNat a ∧ g_54 = upI ((u.1.2.1 8)) (n1).toNat b ∧ n_54 = n1 + 1) ∨ (rl 8 ≤ n1 ∧ f_54 = (u.1.1 8) ∧ g_54 = (u.1.2.1 8) ∧ n_54 = n1) := h_54
          exact W.vret SS.1 SS.2.1 hr (fun t0 ht hW => ⟨⟨(sY (sX (sC u 8 n_54) 8 f_54) 8 g_54), rfl, (⟨f_54, g_54, n_54, rfl, ⟨ap_b (n0 := n1) (K := 80) p0.2 (m := 323) (by omega) p1 p2 (by rw [rl8] at h_54; exact h_54), Or.inr ⟨by rcases h_3 with q | q; omega; intro w; exact q.2 ⟨w.1, by rw [(hrx w.1).1]; exact w.2.1, by rw [(hrx w.1).2]; exact w.2.2⟩, n1, ⟨by omega, by omega, i10_1⟩, by rw [rl8] at h_54; omega, by rw [rl8] at h_54; rcases h_54 with q | q; exact q.2.1; omega, by rw [rl8] at h_54; rcases h_54 with q | q; exact q.2.2.1; omega, i10_2, by first | exact Or.inl (by omega) | (refine Or.inr ?_; rw [show n1.toNat - 1 = (n1 - 1).toNat by omega, show n1.toNat - 2 = (n1 - 2).toNat by omega, cx_sh]; unfold cx; rcases h_26 with q | q; (have q2 := q.2; rw [ex1, ex2, ey1, ey2] at q2; exact q2); omega)⟩⟩⟩), by show va_P D.1 j_cl (cW D q (sY (sX (sC u 8 n_54) 8 f_54) 8 g_54)) t0.heap; rw [ht]; first | exact hP | (simp only [sC_id, sX_id, sY_id, sH_id, sT_id, sV_id]; exact hP)⟩, hS.F ht⟩) hS.2.2 dX3_push_57 hlk
        · skip
          refine lv_aload_n SS.1 SS.2.1 dX3_push_23 rfl (lv_at hl 0 rfl) ?_
          refine lv_iload_n SS.1 SS.2.1 dX3_push_24 rfl (lv_at hl 1 rfl) ?_
          refine lv_iload_n SS.1 SS.2.1 dX3_push_25 rfl (lv_at hl 2 rfl) ?_
          have ex1 : rx (sC u 8 n1) 8 (n1 - 1) = u.1.1 8 (n1 - 1).toNat := if_pos (by rw [rl8]; omega)
          have ex2 : rx (sC u 8 n1) 8 (n1 - 1 - 1) = u.1.1 8 (n1 - 2).toNat := by rw [show n1 - 1 - 1 = n1 - 2 by omega]; exact if_pos (by rw [rl8]; omega)
          have ey1 : ry9 (sC u 8 n1) 8 (n1 - 1) = u.1.2.1 8 (n1 - 1).toNat := if_pos (by rw [rl8]; omega)
          have ey2 : ry9 (sC u 8 n1) 8 (n1 - 1 - 1) = u.1.2.1 8 (n1 - 2).toNat := by rw [show n1 - 1 - 1 = n1 - 2 by omega]; exact if_pos (by rw [rl8]; omega)
          refine j_vRi SS (As := [.int (J a), .int (J b)]) (rest := []) (c_X3_turnsLeft l D q (sC u 8 n1)  a b (show RB 80 (sC u 8 n1) 8 from (hR)) (show -80 ≤ a ∧ a ≤ 80 from (by omega)) (show -80 ≤ b ∧ b ≤ 80 from (by omega))) mf_X3_turnsLeft kw_449 hG hP hP (ci := 3) (q0 := 2) rfl rfl rfl rfl hl.1 ⟨⟨Nat.le_of_ble_eq_true rfl, Nat.le_of_ble_eq_true rfl⟩, Nat.le_of_ble_eq_true rfl, Nat.le_refl _, Nat.le_refl _⟩ rfl dX3_push_26 (fun z_26 h_26 => ?_)
          have h_26 : (z_26 = 1 ∧ 0 < (rx (sC u 8 n1) 8 (n1 - 1) - rx (sC u 8 n1) 8 (n1 - 1 - 1)) * (b - ry9 (sC u 8 n1) 8 (n1 - 1)) - (ry9 (sC u 8 n1) 8 (n1 - 1) - ry9 (sC u 8 n1) 8 (n1 - 1 - 1)) * (a - rx (sC u 8 n1) 8 (n1 - 1))) ∨ (z_26 = 0 ∧ (rx (sC u 8 n1) 8 (n1 - 1) - rx (sC u 8 n1) 8 (n1 - 1 - 1)) * (b - ry9 (sC u 8 n1) 8 (n1 - 1)) - (ry9 (sC u 8 n1) 8 (n1 - 1) - ry9 (sC u 8 n1) 8 (n1 - 1 - 1)) * (a - rx (sC u 8 n1) 8 (n1 - 1)) ≤ 0) := h_26
          refine j_if_ne SS (tgt := 48) (x := z_26) dX3_push_29 (by decide) (by omega) (fun c_29 => ?_) (fun c_29 => ?_)
          · skip
            refine lv_aload_n SS.1 SS.2.1 dX3_push_48 rfl (lv_at hl 0 rfl) ?_
            refine j_get SS hG hP 2 (v := .ref (q (9 + 5 * 8))) (C := RX3) (T := TX3) (N := 3) rfl rfl inX3 2 (by decide) (ref := "GridPolygons$Hull") kw_179 rfl rfl dX3_push_49 ?_
            refine lv_iload_n SS.1 SS.2.1 dX3_push_52 rfl (lv_at hl 1 rfl) ?_
            refine lv_iload_n SS.1 SS.2.1 dX3_push_53 rfl (lv_at hl 2 rfl) ?_
            refine j_uWv SS (As := [.int (J a), .int (J b)]) (rest := []) (c_X8_append l D q (sC u 8 n1) A (cW_D hD) 8 (by omega) a b (show 0 ≤ n1 ∧ n1 ≤ rl 8 from (by omega))) mu_7_append kw_453 hG hP hP (ci := 7) (q0 := (9 + 5 * 8)) rfl (cw_ring (by omega)) rfl hS (fun _ h => h) rfl hl.1 ⟨⟨Nat.le_of_ble_eq_true rfl, Nat.le_of_ble_eq_true rfl⟩, Nat.le_of_ble_eq_true rfl, Nat.le_refl _, Nat.le_refl _⟩ rfl dX3_push_54 (fun u54 H locs h_54 hP _ hS => ?_)
            obtain ⟨f_54, g_54, n_54, rfl, h_54⟩ := h_54
            have hP : va_P D.1 j_cl (cW D q (sY (sX (sC u 8 n_54) 8 f_54) 8 g_54)) H := hP
            have h_54 : (n1 < rl 8 ∧ f_54 = upI ((u.1.1 8)) (n1).toNat a ∧ g_54 = upI ((u.1.2.1 8)) (n1).toNat b ∧ n_54 = n1 + 1) ∨ (rl 8 ≤ n1 ∧ f_54 = (u.1.1 8) ∧ g_54 = (u.1.2.1 8) ∧ n_54 = n1) := h_54
            exact W.vret SS.1 SS.2.1 hr (fun t0 ht hW => ⟨⟨(sY (sX (sC u 8 n_54) 8 f_54) 8 g_54), rfl, (⟨f_54, g_54, n_54, rfl, ⟨ap_b (n0 := n1) (K := 80) p0.2 (m := 323) (by omega) p1 p2 (by rw [rl8] at h_54; exact h_54), Or.inr ⟨by rcases h_3 with q | q; omega; intro w; exact q.2 ⟨w.1, by rw [(hrx w.1).1]; exact w.2.1, by rw [(hrx w.1).2]; exact w.2.2⟩, n1, ⟨by omega, by omega, i10_1⟩, by rw [rl8] at h_54; omega, by rw [rl8] at h_54; rcases h_54 with q | q; exact q.2.1; omega, by rw [rl8] at h_54; rcases h_54 with q | q; exact q.2.2.1; omega, i10_2, by first | exact Or.inl (by omega) | (refine Or.inr ?_; rw [show n1.toNat - 1 = (n1 - 1).toNat by omega, show n1.toNat - 2 = (n1 - 2).toNat by omega, cx_sh]; unfold cx; rcases h_26 with q | q; (have q2 := q.2; rw [ex1, ex2, ey1, ey2] at q2; exact q2); omega)⟩⟩⟩), by show va_P D.1 j_cl (cW D q (sY (sX (sC u 8 n_54) 8 f_54) 8 g_54)) t0.heap; rw [ht]; first | exact hP | (simp only [sC_id, sX_id, sY_id, sH_id, sT_id, sV_id]; exact hP)⟩, hS.F ht⟩) hS.2.2 dX3_push_57 hlk
          · skip
            refine lv_aload_n SS.1 SS.2.1 dX3_push_32 rfl (lv_at hl 0 rfl) ?_
            refine j_get SS hG hP 2 (v := .ref (q (9 + 5 * 8))) (C := RX3) (T := TX3) (N := 3) rfl rfl inX3 2 (by decide) (ref := "GridPolygons$Hull") kw_179 rfl rfl dX3_push_33 ?_
            refine lv_dup SS.1 SS.2.1 dX3_push_36 rfl ?_
            refine j_getS SS hG hP (9 + 5 * 8) (v := .int (J n1)) (C := RX7) (T := TX7) (N := 3) (cw_ring (by omega)) rfl inX7 2 (by decide) (ref := "GridPolygons$Ring") kw_141 kw_132 rfl dX3_push_37 ?_
            refine j_iconst SS dX3_push_40 ?_
            refine j_isub SS (x := n1) (y := 1) dX3_push_41 ?_
            refine j_putS SS hG hP (cW_D hD) hS (9 + 5 * 8) (v := .int (J (n1 - 1))) (ty := .int) (C := RX7) (T := TX7) (N := 3) (cw_ring (by omega)) rfl inX7 tyX7 tyX7_ok nmX7 2 (by decide) (ref := "GridPolygons$Ring") kw_141 kw_132 rfl (by decide +kernel) rfl rfl (Nat.le_of_ble_eq_true rfl) dX3_push_42 (ws' := (cW D q (sC u 8 (n1 - 1)))) (cs_ring (by omega)) (fun H locs hP hS => ?_)
            refine lv_goto (tgt := 10) SS.1 SS.2.1 dX3_push_45 (by decide) ?_
            exact ih_10 (n1 - 1) _ _ hP hS ls (lv_sub hl [0, 1, 2, 3] rfl) (by omega) (by omega) (fun j h1 h2 => by by_cases e : (j : Int) = n1 - 1; (rw [show j - 1 = (n1 - 2).toNat by omega, show j = (n1 - 1).toNat by omega, cx_sh]; unfold cx; rcases h_26 with q | q; omega; have q2 := q.2; rw [ex1, ex2, ey1, ey2] at q2; exact q2); exact i10_2 j (by omega) h2) (by omega)
    exact L_10 ((u.1.2.2.1 8).toNat + 1) (u.1.2.2.1 8) _ _ hP hS ls (lv_sub hl [0, 1, 2, 3] rfl) (by omega) (by omega) (fun j h1 h2 => by omega) (Nat.lt_succ_self _)
  · skip
    exact W.vret SS.1 SS.2.1 hr (fun t0 ht hW => ⟨⟨(sY (sX (sC u 8 (u.1.2.2.1 8)) 8 (u.1.1 8)) 8 (u.1.2.1 8)), rfl, (⟨(u.1.1 8), (u.1.2.1 8), (u.1.2.2.1 8), rfl, ⟨⟨hc, p0.2⟩, Or.inl ⟨by rcases h_3 with q | q; exact ⟨q.2.1, by rw [← (hrx q.2.1).1]; exact q.2.2.1, by rw [← (hrx q.2.1).2]; exact q.2.2.2⟩; omega, rfl, rfl, rfl⟩⟩⟩), by show va_P D.1 j_cl (cW D q (sY (sX (sC u 8 (u.1.2.2.1 8)) 8 (u.1.1 8)) 8 (u.1.2.1 8))) t0.heap; rw [ht]; first | exact hP | (simp only [sC_id, sX_id, sY_id, sH_id, sT_id, sV_id]; exact hP)⟩, hS.F ht⟩) hS.2.2 dX3_push_9 hlk

