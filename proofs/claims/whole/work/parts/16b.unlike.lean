/-! two maps found; unlike -/
theorem k13I (d : Nat) {s : List (Nat × Nat)} {c : Nat → Nat → Int} {n : Nat} (hI : Inv s c n) {m : Int} (m0 : 0 ≤ m) (m1 : m < c 143 0) : ∃ s' c' n', Cd (d + 3) 13 [vA ((40 + 5 * m.toNat : Nat) : Int)] (s, c) = some ([], (s', c')) ∧ n' ≤ n + 1 ∧ Inv s' c' n' ∧ c' 143 = c 143 ∧ c' 145 = c 145 ∧ AnsC s' c' (40 + 5 * m.toNat) (c 143 (20 + m).toNat) (ansL c m) ∧ FrA (40 + 5 * m.toNat) c c' := by
  have hs := hI.1.l
  have hc := hI.2.2.2.1
  have hn := hI.nM
  have n2 := hn.2
  obtain ⟨s1, c1, n1, g1, g2, g3, g4, g5, g6, g7, g8⟩ := k13 d hI.1 (m := m.toNat) (by omega) (by omega) (chN hs hc (by omega)) (hI.map (by omega)) hI.2.2.2.2.2.2.2.1 hI.2.2.2.2.2.2.2.2.1
  rw [Int.toNat_of_nonneg m0] at g8
  have hf1 := g5.frC (by omega)
  have hI1 := Inv_C hI hf1 g2 g6 g7
  exact ⟨s1, c1, n1, g1, g3, hI1, funext fun i => hf1 143 i (cScr_n (by omega)), funext fun i => hf1 145 i (cScr_n (by omega)), g8, g5⟩
theorem two13 (d : Nat) {s : List (Nat × Nat)} {c : Nat → Nat → Int} {n : Nat} (hI : Inv s c n) {m m' : Int} (m0 : 0 ≤ m) (m1 : m < c 143 0) (w0 : 0 ≤ m') (w1 : m' < c 143 0) : ∃ s1 c1 s2 c2 n2, Cd (d + 3) 13 [vA ((40 + 5 * m.toNat : Nat) : Int)] (s, c) = some ([], (s1, c1)) ∧ Cd (d + 3) 13 [vA ((40 + 5 * m'.toNat : Nat) : Int)] (s1, c1) = some ([], (s2, c2)) ∧ n2 ≤ n + 2 ∧ Inv s2 c2 n2 ∧ c2 143 = c 143 ∧ c2 145 = c 145 ∧ AnsC s2 c2 (40 + 5 * m.toNat) (c 143 (20 + m).toNat) (ansL c m) ∧ AnsC s2 c2 (40 + 5 * m'.toNat) (c 143 (20 + m').toNat) (ansL c m') := by
  have n4 := hI.nM.2
  obtain ⟨s1, c1, n1, a1, a2, a3, a4, a5, a6, a7⟩ := k13I d hI m0 m1
  obtain ⟨s2, c2, n2, b1, b2, b3, b4, b5, b6, b7⟩ := k13I d a3 w0 (by rw [a4]; exact w1)
  have e3 := b4.trans a4
  rw [a4, ansL_of a4] at b6
  refine ⟨s1, c1, s2, c2, n2, a1, b1, by omega, b3, e3, b5.trans a5, ?_, b6⟩
  by_cases e : m = m'
  · subst e; exact b6
  · have := b3.2.2.2.2.2.2.2.2.1 m.toNat (by omega) (by rw [e3]; omega)
    rw [Int.toNat_of_nonneg m0, e3, ansL_of e3] at this
    refine this.resolve_left (fun z => ?_)
    rw [b7 _ _ (by omega) (by omega), a6.1] at z
    exact absurd z (by decide)
def orS (w o : Int) : Nat → Int → Int → Int
  | 0, _, a => a
  | n + 1, s, a => orS w o n (s + 1) (if bt (drw w) s then ior a (ishl 1 (swO o s)) else a)
def orOk (w : Nat) : Bool := (List.range 3).all fun p => (List.range 3).all fun q => decide (p = q) || (decide (0 ≤ orS w (3 * ((p : Nat) : Int) + (q : Nat)) 6 0 0) && decide (orS w (3 * ((p : Nat) : Int) + (q : Nat)) 6 0 0 < 512) && pop (orS w (3 * ((p : Nat) : Int) + (q : Nat)) 6 0 0) == ((w : Nat) : Int))
theorem orOk_1 : orOk 1 = true := by decide +kernel
theorem orOk_2 : orOk 2 = true := by decide +kernel
theorem orOk_3 : orOk 3 = true := by decide +kernel
theorem orOk_6 : orOk 6 = true := by decide +kernel
theorem or_ok {w P Q : Int} (hw : w = 1 ∨ w = 2 ∨ w = 3 ∨ w = 6) (hP : b3 P) (hQ : b3 Q) (h : P ≠ Q) : (0 ≤ orS w (3 * P + Q) 6 0 0 ∧ orS w (3 * P + Q) 6 0 0 < 512) ∧ pop (orS w (3 * P + Q) 6 0 0) = w := by
  have k : orOk w.toNat = true := by
    rcases hw with e | e | e | e <;> subst e
    · exact orOk_1
    · exact orOk_2
    · exact orOk_3
    · exact orOk_6
  obtain ⟨p0, p1⟩ := hP
  obtain ⟨q0, q1⟩ := hQ
  have ew : ((w.toNat : Nat) : Int) = w := by omega
  have := List.all_eq_true.mp k P.toNat (List.mem_range.mpr (by omega))
  have := List.all_eq_true.mp this Q.toNat (List.mem_range.mpr (by omega))
  rw [decide_eq_false (show ¬ P.toNat = Q.toNat by omega), Bool.false_or, Int.toNat_of_nonneg p0, Int.toNat_of_nonneg q0, ew] at this
  simp only [Bool.and_eq_true, decide_eq_true_eq, beq_iff_eq] at this
  exact ⟨this.1, this.2⟩
def hsU (w P Q x : Int) : Int := sumU (fun v => b2i (decide (oE P Q (drS w v) = x))) w.toNat 0
def unX (w P Q X Y x : Int) : Bool := decide ((if x % 9 / 3 = x % 9 % 3 then 0 else hsU w P Q (x / 9)) ≠ (if x / 9 / 3 = x / 9 % 3 then 0 else hsU w X Y (x % 9)))
def unOk (w : Nat) : Bool := (List.range 3).all fun p => (List.range 3).all fun q => decide (p = q) || (List.range 3).all fun x => (List.range 3).all fun y => decide (x = y) || sumU (fun z => b2i (unX (w : Nat) (p : Nat) (q : Nat) (x : Nat) (y : Nat) z)) 81 0 == 2 * ((w : Nat) : Int) * (6 - (w : Nat))
theorem unOk_1 : unOk 1 = true := by decide +kernel
theorem unOk_2 : unOk 2 = true := by decide +kernel
theorem unOk_3 : unOk 3 = true := by decide +kernel
theorem unOk_6 : unOk 6 = true := by decide +kernel
theorem un_ok {w P Q X Y : Int} (hw : w = 1 ∨ w = 2 ∨ w = 3 ∨ w = 6) (hP : b3 P) (hQ : b3 Q) (h : P ≠ Q) (hX : b3 X) (hY : b3 Y) (g : X ≠ Y) : sumU (fun z => b2i (unX w P Q X Y z)) 81 0 = 2 * w * (6 - w) := by
  have k : unOk w.toNat = true := by
    rcases hw with e | e | e | e <;> subst e
    · exact unOk_1
    · exact unOk_2
    · exact unOk_3
    · exact unOk_6
  obtain ⟨p0, p1⟩ := hP
  obtain ⟨q0, q1⟩ := hQ
  obtain ⟨x0, x1⟩ := hX
  obtain ⟨y0, y1⟩ := hY
  have ew : ((w.toNat : Nat) : Int) = w := by omega
  have := List.all_eq_true.mp k P.toNat (List.mem_range.mpr (by omega))
  have := List.all_eq_true.mp this Q.toNat (List.mem_range.mpr (by omega))
  rw [decide_eq_false (show ¬ P.toNat = Q.toNat by omega), Bool.false_or] at this
  have := List.all_eq_true.mp this X.toNat (List.mem_range.mpr (by omega))
  have := List.all_eq_true.mp this Y.toNat (List.mem_range.mpr (by omega))
  rw [decide_eq_false (show ¬ X.toNat = Y.toNat by omega), Bool.false_or, Int.toNat_of_nonneg p0, Int.toNat_of_nonneg q0, Int.toNat_of_nonneg x0, Int.toNat_of_nonneg y0, ew] at this
  exact beq_iff_eq.mp this
section
variable {s : List (Nat × Nat)} {c : Nat → Nat → Int}
theorem k16_15 (d : Nat) (hs : SpL s) (hx : Xt c) (w : Int) {o : Int} (p0 : 0 ≤ o) (p1 : o < 9) (o0 o1 o2 : Option AV) : ∀ (n : Nat) (v a : Int), 0 ≤ v → v + n = 6 → Rr (Cd (d + 1)) 16 15 [o0, o1, o2, some (vI (drw w)), some (vI o), some (vI a), some (vI v)] [] (s, c) = some ([vI (orS w o n v a)], (s, c))
  | 0, v, a, h0, h => by rw [c16_15, if_neg (by omega)]; rfl
  | n + 1, v, a, h0, h => by
    have db := drw_b w
    have ih := fun a => k16_15 d hs hx w p0 p1 o0 o1 o2 n (v + 1) a (by omega) (by omega)
    simp only [orS]
    rw [c16_15, if_pos (by omega)]
    repeat (first | rw [bnd_s] | rw [tI_m] | rw [tL_m] | rw [tA_m] | rw [tV_m] | rw [k169 d (s, c) db.1 (show drw w < 2147483648 by omega) h0 (by omega)] | rw [if_b0])
    cases bt (drw w) v
    · rw [cond_f, c16_30, w32_id (by omega) (by omega), ih]; rfl
    · rw [cond_t]
      repeat (first | rw [bnd_s] | rw [tI_m] | rw [tL_m] | rw [tA_m] | rw [tV_m] | rw [k168 d hs hx h0 (show v < 6 by omega) p0 p1] | rw [c16_30] | rw [w32_id (z := v + 1) (by omega) (by omega)] | rw [ih])
      rfl
/-- what a border may be opened as: as many as there are swaps drawn -/
theorem k16 (d : Nat) {n0 : Nat} (hI : Inv s c n0) {m : Int} (m0 : 0 ≤ m) (m1 : m < c 143 0) {w : Int} (hw : w = 1 ∨ w = 2 ∨ w = 3 ∨ w = 6) {r e : Int} (ha : isA c m r = true) (r0 : 0 ≤ r) (r1 : r < r3 (c 143 (20 + m).toNat)) (e0 : 0 ≤ e) (e1 : e < c 143 (24 + m).toNat) : ∃ x, Cd (d + 3) 16 [vA ((40 + 5 * m.toNat : Nat) : Int), vI e, vI (pkR r (c 143 (20 + m).toNat)), vI (drw w)] (s, c) = some ([vI x], (s, c)) ∧ (0 ≤ x ∧ x < 512) ∧ pop x = w := by
  have hs := hI.1.l
  have hc := hI.2.2.2.1
  have n4 := hI.nM.2
  have hM := hI.mok m m0 m1
  obtain ⟨⟨k0, k1⟩, ⟨k2, k3⟩, ⟨k4, k5⟩, k6⟩ := id hM
  have hch := chN hs hc (m := m.toNat) (by omega)
  have hmp := (hI.map (m := m.toNat) (by omega)).2.2.2.1 e e0 (by rw [Int.toNat_of_nonneg m0]; exact e1)
  rw [Int.toNat_of_nonneg m0] at hmp
  have kb := k6 e e0 e1
  have pk := pk_ok k2 k3 r0 r1
  have ne := (allU_iff _ _ _).mp ha e e0 (by omega)
  have ne := of_decide_eq_true ne
  have eo : opn (pkR r (c 143 (20 + m).toNat)) (c 143 (30 + 30 * m + 2 * e).toNat) (c 143 (30 + 30 * m + 2 * e + 1).toNat) = 3 * pnt (c 143 (20 + m).toNat) r (c 143 (30 + 30 * m + 2 * e).toNat) + pnt (c 143 (20 + m).toNat) r (c 143 (30 + 30 * m + 2 * e + 1).toNat) := by
    unfold opn; rw [pk.2 _ kb.1.1 kb.1.2, pk.2 _ kb.2.1 kb.2.2, Int.mul_comm]
  have q1 := k166 d (s, c) pk.1.1 (by omega) kb.1.1 (by omega) kb.2.1 (by omega)
  rw [eo] at q1
  have p1 := pnt_b (c 143 (20 + m).toNat) r (c 143 (30 + 30 * m + 2 * e).toNat)
  have p2 := pnt_b (c 143 (20 + m).toNat) r (c 143 (30 + 30 * m + 2 * e + 1).toNat)
  have ok := or_ok hw p1 p2 ne
  refine ⟨_, ?_, ok⟩
  have i1 := hmp.1.1
  have i2 := hmp.1.2
  have f0 := hch.2.1
  have f1 := hch.2.2.1
  rw [c16 (hg := hch.g)]
  repeat (first | rw [bnd_s] | rw [tI_m] | rw [tL_m] | rw [tA_m] | rw [tV_m] | rw [gF_g hch.1.1 _ (by decide)] | rw [f0] | rw [f1] | rw [gA_g (a := 0) hch.1.2.1 _ e0 (by omega)] | rw [gA_g (a := 0) hch.1.2.2.1 _ e0 (by omega)] | rw [i1] | rw [i2] | rw [q1])
  exact k16_15 (d + 1) hs hI.2.1 w (by omega) (by omega) _ _ _ 6 0 0 (by omega) (by omega)
theorem k155 (d : Nat) {x y w : Int} (hp : HP) (hw : w = 1 ∨ w = 2 ∨ w = 3 ∨ w = 6) (x0 : 0 ≤ x ∧ x < 512) (xw : pop x = w) (y0 : 0 ≤ y ∧ y < 512) (yw : pop y = w) : Cd (d + 2) 155 [vI x, vI y] hp = some ([vI (2 * w * (6 - w))], hp) := by
  rw [c155]
  repeat (first | rw [bnd_s] | rw [tI_m] | rw [tL_m] | rw [tA_m] | rw [tV_m] | rw [j284 d _ x0.1 x0.2] | rw [j284 d _ y0.1 y0.2] | rw [xw] | rw [yw])
  rcases hw with e | e | e | e <;> subst e <;> rfl
theorem k154_16 (d : Nat) {n0 : Nat} (hI : Inv s c n0) {m m' : Int} (w0 : 0 ≤ m') (w1 : m' < c 143 0) {w : Int} (hw : w = 1 ∨ w = 2 ∨ w = 3 ∨ w = 6) {r' x : Int} (ha : isA c m' r' = true) (r0 : 0 ≤ r') (r1 : r' < r3 (c 143 (20 + m').toNat)) (xb : 0 ≤ x ∧ x < 512) (xw : pop x = w) {e : Int} (e0 : 0 ≤ e) (e1 : e < 15) (p : Int) : ∀ (n : Nat) (f a : Int) (o9 : Option AV), 0 ≤ f → f + n = c 143 (24 + m').toNat → 0 ≤ a → a + 18 * n ≤ 100000 → ∃ o7 o8 o9', Rr (Cd (d + 3)) 154 16 [some (vA ((40 + 5 * m.toNat : Nat) : Int)), some (vI p), some (vA ((40 + 5 * m'.toNat : Nat) : Int)), some (vI (pkR r' (c 143 (20 + m').toNat))), some (vI (drw w)), some (vI a), some (vI e), some (vI x), some (vI f), o9] [] (s, c) = Rr (Cd (d + 3)) 154 4 [some (vA ((40 + 5 * m.toNat : Nat) : Int)), some (vI p), some (vA ((40 + 5 * m'.toNat : Nat) : Int)), some (vI (pkR r' (c 143 (20 + m').toNat))), some (vI (drw w)), some (vI (a + n * (2 * w * (6 - w)))), some (vI (e + 1)), o7, o8, o9'] [] (s, c)
  | 0, f, a, o9, h0, h, a0, a1 => by
    have hs := hI.1.l
    have hc := hI.2.2.2.1
    have n4 := hI.nM.2
    have hch := chN hs hc (m := m'.toNat) (by omega)
    have h5 := (hI.map (m := m'.toNat) (by omega)).1.2
    rw [Int.toNat_of_nonneg w0] at h5
    refine ⟨some (vI x), some (vI f), o9, ?_⟩
    rw [c154_16]
    repeat (first | rw [bnd_s] | rw [tI_m] | rw [tL_m] | rw [tA_m] | rw [tV_m] | rw [gF_g hch.1.1 _ (by decide)] | rw [h5] | rw [if_neg (show ¬ f < c 143 (24 + m').toNat by omega)] | rw [w32_id (z := e + 1) (by omega) (by omega)])
    rw [show a + ((0 : Nat) : Int) * (2 * w * (6 - w)) = a by rw [show ((0 : Nat) : Int) = 0 from rfl, Int.zero_mul, Int.add_zero]]
  | n + 1, f, a, o9, h0, h, a0, a1 => by
    have hs := hI.1.l
    have hc := hI.2.2.2.1
    have n4 := hI.nM.2
    have hch := chN hs hc (m := m'.toNat) (by omega)
    have h5 := (hI.map (m := m'.toNat) (by omega)).1.2
    rw [Int.toNat_of_nonneg w0] at h5
    have hM := hI.mok m' w0 w1
    have kb := hM.2.2.1
    obtain ⟨y, y1, y2, y3⟩ := k16 d hI w0 w1 hw ha r0 r1 h0 (show f < c 143 (24 + m').toNat by omega)
    have ub : 0 ≤ 2 * w * (6 - w) ∧ 2 * w * (6 - w) ≤ 18 := by rcases hw with e | e | e | e <;> subst e <;> decide
    have q5 := k155 (d + 1) (s, c) hw xb xw y2 y3
    obtain ⟨o7, o8, o9', ih⟩ := k154_16 d hI (m := m) w0 w1 hw ha r0 r1 xb xw e0 e1 p n (f + 1) (a + 2 * w * (6 - w)) (some (vI y)) (by omega) (by omega) (by omega) (by omega)
    refine ⟨o7, o8, o9', ?_⟩
    have ea : a + ((n + 1 : Nat) : Int) * (2 * w * (6 - w)) = a + 2 * w * (6 - w) + (n : Int) * (2 * w * (6 - w)) := by
      rw [show ((n + 1 : Nat) : Int) = (n : Int) + 1 by omega, Int.add_mul, Int.one_mul]; omega
    rw [ea, ← ih, c154_16]
    repeat (first | rw [bnd_s] | rw [tI_m] | rw [tL_m] | rw [tA_m] | rw [tV_m] | rw [gF_g hch.1.1 _ (by decide)] | rw [h5] | rw [if_pos (show f < c 143 (24 + m').toNat by omega)] | rw [y1] | rw [q5] | rw [w32_id (z := a + 2 * w * (6 - w)) (by omega) (by omega)] | rw [w32_id (z := f + 1) (by omega) (by omega)])
theorem k154_4 (d : Nat) {n0 : Nat} (hI : Inv s c n0) {m m' : Int} (m0 : 0 ≤ m) (m1 : m < c 143 0) (w0 : 0 ≤ m') (w1 : m' < c 143 0) {w : Int} (hw : w = 1 ∨ w = 2 ∨ w = 3 ∨ w = 6) {r r' : Int} (hr : isA c m r = true) (z0 : 0 ≤ r) (z1 : r < r3 (c 143 (20 + m).toNat)) (ha : isA c m' r' = true) (r0 : 0 ≤ r') (r1 : r' < r3 (c 143 (20 + m').toNat)) : ∀ (n : Nat) (e a : Int) (o7 o8 o9 : Option AV), 0 ≤ e → e + n = c 143 (24 + m).toNat → 0 ≤ a → a + 270 * n ≤ 90000 → Rr (Cd (d + 3)) 154 4 [some (vA ((40 + 5 * m.toNat : Nat) : Int)), some (vI (pkR r (c 143 (20 + m).toNat))), some (vA ((40 + 5 * m'.toNat : Nat) : Int)), some (vI (pkR r' (c 143 (20 + m').toNat))), some (vI (drw w)), some (vI a), some (vI e), o7, o8, o9] [] (s, c) = some ([vI (a + n * (c 143 (24 + m').toNat * (2 * w * (6 - w))))], (s, c))
  | 0, e, a, o7, o8, o9, h0, h, a0, a1 => by
    have hs := hI.1.l
    have hc := hI.2.2.2.1
    have n4 := hI.nM.2
    have hch := chN hs hc (m := m.toNat) (by omega)
    have h5 := (hI.map (m := m.toNat) (by omega)).1.2
    rw [Int.toNat_of_nonneg m0] at h5
    rw [c154_4]
    repeat (first | rw [bnd_s] | rw [tI_m] | rw [tL_m] | rw [tA_m] | rw [tV_m] | rw [gF_g hch.1.1 _ (by decide)] | rw [h5] | rw [if_neg (show ¬ e < c 143 (24 + m).toNat by omega)])
    rw [show a + ((0 : Nat) : Int) * (c 143 (24 + m').toNat * (2 * w * (6 - w))) = a by rw [show ((0 : Nat) : Int) = 0 from rfl, Int.zero_mul, Int.add_zero]]
  | n + 1, e, a, o7, o8, o9, h0, h, a0, a1 => by
    have hs := hI.1.l
    have hc := hI.2.2.2.1
    have n4 := hI.nM.2
    have hch := chN hs hc (m := m.toNat) (by omega)
    have h5 := (hI.map (m := m.toNat) (by omega)).1.2
    rw [Int.toNat_of_nonneg m0] at h5
    have kb := (hI.mok m m0 m1).2.2.1
    have kb' := (hI.mok m' w0 w1).2.2.1
    obtain ⟨x, x1, x2, x3⟩ := k16 d hI m0 m1 hw hr z0 z1 h0 (show e < c 143 (24 + m).toNat by omega)
    have ub : 0 ≤ 2 * w * (6 - w) ∧ 2 * w * (6 - w) ≤ 18 := by rcases hw with e | e | e | e <;> subst e <;> decide
    have mb := mulB (a := c 143 (24 + m').toNat) (b := 2 * w * (6 - w)) (x := 15) (y := 18) kb'.1 ub.1 kb'.2 ub.2
    obtain ⟨p7, p8, p9, y⟩ := k154_16 d hI (m := m) w0 w1 hw ha r0 r1 x2 x3 h0 (show e < 15 by omega) (pkR r (c 143 (20 + m).toNat)) (c 143 (24 + m').toNat).toNat 0 a o9 (by omega) (by omega) a0 (by omega)
    rw [Int.toNat_of_nonneg kb'.1] at y
    have ih := k154_4 d hI m0 m1 w0 w1 hw hr z0 z1 ha r0 r1 n (e + 1) (a + c 143 (24 + m').toNat * (2 * w * (6 - w))) p7 p8 p9 (by omega) (by omega) (by omega) (by omega)
    have ea : a + ((n + 1 : Nat) : Int) * (c 143 (24 + m').toNat * (2 * w * (6 - w))) = a + c 143 (24 + m').toNat * (2 * w * (6 - w)) + (n : Int) * (c 143 (24 + m').toNat * (2 * w * (6 - w))) := by
      rw [show ((n + 1 : Nat) : Int) = (n : Int) + 1 by omega, Int.add_mul, Int.one_mul]; omega
    rw [ea, ← ih, ← y, c154_4]
    repeat (first | rw [bnd_s] | rw [tI_m] | rw [tL_m] | rw [tA_m] | rw [tV_m] | rw [gF_g hch.1.1 _ (by decide)] | rw [h5] | rw [if_pos (show e < c 143 (24 + m).toNat by omega)] | rw [x1])
end
