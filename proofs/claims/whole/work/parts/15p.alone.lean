/-! alone -/
def SL (b : Nat → Nat → Int) (m r : Int) : Int := sumU (fun l => (l + 1) * pnt (b 143 (20 + m).toNat) r l) (b 143 (20 + m).toNat).toNat 0
def kx (b : Nat → Nat → Int) (k : Nat) (m g r t : Int) : Int := (g * SL b m r + t) % (asN (b 145 (800 * k + 3)) (b 143 (20 + m).toNat) (b 143 (24 + m).toNat))
def fT (b : Nat → Nat → Int) (k : Nat) (m g r t : Int) : Option (Int × Int × Int) := if belR b k m 0 (kx b k m g r t) r then some (r, t, kx b k m g r t) else none
def fR (b : Nat → Nat → Int) (k : Nat) (m g q r : Int) : Option (Int × Int × Int) := if isA b m r then none else fdU (fT b k m g r) q.toNat 0
def alT (b : Nat → Nat → Int) (k : Nat) (m g q : Int) : Option (Int × Int × Int) := if asN (b 145 (800 * k + 3)) (b 143 (20 + m).toNat) (b 143 (24 + m).toNat) = 0 then none else fdU (fR b k m g q) (r3 (b 143 (20 + m).toNat)).toNat 0
theorem fdU_add {α : Type} (f : Int → Option α) (c : Nat) : ∀ (a : Nat) (j : Int), fdU f (a + c) j = (fdU f a j).or (fdU f c (j + a))
  | 0, j => by
    rw [Nat.zero_add, show j + ((0 : Nat) : Int) = j by omega]; rfl
  | a + 1, j => by
    rw [show a + 1 + c = (a + c) + 1 by omega]
    simp only [fdU]
    cases f j with
    | some x => rfl
    | none => simp only []; rw [fdU_add f c a (j + 1), show j + 1 + (a : Int) = j + ((a + 1 : Nat) : Int) by omega]
theorem SL_s (b : Nat → Nat → Int) (m r : Int) {B : Int} : ∀ (n : Nat) (l : Int), 0 ≤ l → l + n ≤ 7 → 0 ≤ sumU (fun l => (l + 1) * pnt (b 143 (20 + m).toNat) r l) n l ∧ sumU (fun l => (l + 1) * pnt (b 143 (20 + m).toNat) r l) n l ≤ 14 * n
  | 0, l, _, _ => by simp [sumU]
  | n + 1, l, h0, h => by
    have ih := SL_s b m r (B := B) n (l + 1) (by omega) (by omega)
    have p := pnt_b (b 143 (20 + m).toNat) r l
    have := mulB (a := l + 1) (b := pnt (b 143 (20 + m).toNat) r l) (x := 7) (y := 2) (by omega) p.1 (by omega) (by omega)
    simp only [sumU]; omega
theorem SL_b {b : Nat → Nat → Int} {m : Int} (hM : MapOK b m) (r : Int) : 0 ≤ SL b m r ∧ SL b m r ≤ 98 := by
  have := hM.2.1
  have := SL_s b m r (B := 0) (b 143 (20 + m).toNat).toNat 0 (by omega) (by omega)
  unfold SL; omega
theorem gS_b {b : Nat → Nat → Int} {m : Int} (hM : MapOK b m) (r : Int) {g : Int} (g0 : 0 ≤ g) (g1 : g ≤ 99) : 0 ≤ g * SL b m r ∧ g * SL b m r ≤ 9702 := by
  have s := SL_b hM r
  have := mulB (x := 99) (y := 98) g0 s.1 g1 s.2
  omega
theorem kx_b {b : Nat → Nat → Int} {k : Nat} {m g r t : Int} (hA : 0 < asN (b 145 (800 * k + 3)) (b 143 (20 + m).toNat) (b 143 (24 + m).toNat)) : 0 ≤ kx b k m g r t ∧ kx b k m g r t < asN (b 145 (800 * k + 3)) (b 143 (20 + m).toNat) (b 143 (24 + m).toNat) := ⟨Int.emod_nonneg _ (by omega), Int.emod_lt_of_pos _ hA⟩
theorem kx_m (b : Nat → Nat → Int) (k : Nat) (m g r t : Int) : kx b k m g r (t % (asN (b 145 (800 * k + 3)) (b 143 (20 + m).toNat) (b 143 (24 + m).toNat))) = kx b k m g r t := by
  unfold kx; rw [Int.add_emod, Int.emod_emod, ← Int.add_emod]
/-- after as many tries as there are askings the same ones come again -/
theorem fT_per {b : Nat → Nat → Int} {k : Nat} {m g r : Int} (hA : 0 < asN (b 145 (800 * k + 3)) (b 143 (20 + m).toNat) (b 143 (24 + m).toNat)) {q : Int} (q0 : 0 ≤ q) : fdU (fT b k m g r) q.toNat 0 = fdU (fT b k m g r) (if asN (b 145 (800 * k + 3)) (b 143 (20 + m).toNat) (b 143 (24 + m).toNat) < q then asN (b 145 (800 * k + 3)) (b 143 (20 + m).toNat) (b 143 (24 + m).toNat) else q).toNat 0 := by
  by_cases h : asN (b 145 (800 * k + 3)) (b 143 (20 + m).toNat) (b 143 (24 + m).toNat) < q
  · rw [if_pos h, show q.toNat = (asN (b 145 (800 * k + 3)) (b 143 (20 + m).toNat) (b 143 (24 + m).toNat)).toNat + (q - asN (b 145 (800 * k + 3)) (b 143 (20 + m).toNat) (b 143 (24 + m).toNat)).toNat by omega, fdU_add]
    cases e : fdU (fT b k m g r) (asN (b 145 (800 * k + 3)) (b 143 (20 + m).toNat) (b 143 (24 + m).toNat)).toNat 0 with
    | some x => rfl
    | none =>
      rw [Option.none_or]
      refine (fdU_none _ _).mpr (fun t t0 t1 => ?_)
      have tm := Int.emod_nonneg t (show asN (b 145 (800 * k + 3)) (b 143 (20 + m).toNat) (b 143 (24 + m).toNat) ≠ 0 by omega)
      have tl := Int.emod_lt_of_pos t hA
      have := (fdU_none _ _).mp e (t % (asN (b 145 (800 * k + 3)) (b 143 (20 + m).toNat) (b 143 (24 + m).toNat))) tm (by omega)
      unfold fT at this ⊢
      rw [kx_m] at this
      by_cases z : belR b k m 0 (kx b k m g r t) r = true
      · rw [if_pos z] at this; cases this
      · rw [if_neg z]
  · rw [if_neg h]
section
variable {s : List (Nat × Nat)} {b : Nat → Nat → Int}
theorem k61_9 (d : Nat) {n0 : Nat} {c : Nat → Nat → Int} (hI : Inv s c n0) {m : Int} (m0 : 0 ≤ m) (m1 : m < c 143 0) (p5 : c 131 5 = ((40 + 5 * m.toNat : Nat) : Int)) {A : Int} (p8 : c 131 8 = A) {r g q : Int} (r0 : 0 ≤ r) (r1 : r < r3 (c 143 (20 + m).toNat)) (g0 : 0 ≤ g) (g1 : g ≤ 99) (o6 o7 : Option AV) : ∀ (n : Nat) (l a : Int), 0 ≤ l → l + n = c 143 (20 + m).toNat → 0 ≤ a → a ≤ 14 * l → Rr (Cd (d + 1)) 61 9 [some (vA 131), some (vI (pkR r (c 143 (20 + m).toNat))), some (vI g), some (vI q), some (vI (g * a)), some (vI l), o6, o7] [] (s, c) = Rr (Cd (d + 1)) 61 35 [some (vA 131), some (vI (pkR r (c 143 (20 + m).toNat))), some (vI g), some (vI q), some (vI (g * (a + sumU (fun l => (l + 1) * pnt (c 143 (20 + m).toNat) r l) n l))), some (vI (if A < q then A else q)), some (vI 0), o7] [] (s, c)
  | 0, l, a, h0, h, a0, a1 => by
    have hs := hI.1.l
    have hc := hI.2.2.2.1
    have n4 := hI.nM.2
    have hch := chN hs hc (m := m.toNat) (by omega)
    have hmr := (hI.map (m := m.toNat) (by omega)).1.1
    rw [Int.toNat_of_nonneg m0] at hmr
    rw [c61_9]
    repeat (first | rw [bnd_s] | rw [tI_m] | rw [tL_m] | rw [tA_m] | rw [tV_m] | rw [fC131 hs _ (by decide)] | rw [pC131 hs _ _ (by decide)] | rw [p5] | rw [gF_g hch.1.1 _ (by decide)] | rw [hmr] | rw [if_neg (show ¬ l < c 143 (20 + m).toNat by omega)] | rw [p8] | rw [j288])
    simp only [sumU, Int.add_zero]
  | n + 1, l, a, h0, h, a0, a1 => by
    have hs := hI.1.l
    have hc := hI.2.2.2.1
    have n4 := hI.nM.2
    have hM := hI.mok m m0 m1
    have k2 := hM.2.1
    have hch := chN hs hc (m := m.toNat) (by omega)
    have hmr := (hI.map (m := m.toNat) (by omega)).1.1
    rw [Int.toNat_of_nonneg m0] at hmr
    have pk := (pk_ok k2.1 k2.2 r0 r1).2 l h0 (by omega)
    have p := pnt_b (c 143 (20 + m).toNat) r l
    have mb := mulB (a := l + 1) (b := pnt (c 143 (20 + m).toNat) r l) (x := 7) (y := 2) (by omega) p.1 (by omega) (by omega)
    have mb2 := mulB (a := (l + 1) * pnt (c 143 (20 + m).toNat) r l) (b := g) (x := 14) (y := 99) mb.1 g0 (by omega) g1
    have mb3 := mulB (a := g) (b := a) (x := 99) (y := 98) g0 a0 g1 (by omega)
    have ep : g * a + (l + 1) * pnt (c 143 (20 + m).toNat) r l * g = g * (a + (l + 1) * pnt (c 143 (20 + m).toNat) r l) := by
      rw [Int.mul_add, Int.mul_comm _ g]
    have pl : (l + 1) * pnt (c 143 (20 + m).toNat) r l ≤ 14 := by omega
    have ih := k61_9 d hI m0 m1 p5 p8 r0 r1 g0 g1 (q := q) o6 o7 n (l + 1) (a + (l + 1) * pnt (c 143 (20 + m).toNat) r l) (by omega) (by omega) (by omega) (by omega)
    simp only [sumU]
    rw [← Int.add_assoc, ← ih, c61_9]
    repeat (first | rw [bnd_s] | rw [tI_m] | rw [tL_m] | rw [tA_m] | rw [tV_m] | rw [fC131 hs _ (by decide)] | rw [pC131 hs _ _ (by decide)] | rw [p5] | rw [gF_g hch.1.1 _ (by decide)] | rw [hmr] | rw [if_pos (show l < c 143 (20 + m).toNat by omega)] | rw [k165] | rw [pk] | rw [w32_id (z := l + 1) (by omega) (by omega)] | rw [w32_id (z := (l + 1) * pnt (c 143 (20 + m).toNat) r l) (by omega) (by omega)] | rw [w32_id (z := (l + 1) * pnt (c 143 (20 + m).toNat) r l * g) (by omega) (by omega)] | rw [ep] | rw [w32_id (z := g * (a + (l + 1) * pnt (c 143 (20 + m).toNat) r l)) (by omega) (by omega)])
theorem k61_35 (d : Nat) {n0 : Nat} (hI : Inv s b n0) {k : Nat} {m : Int} (m0 : 0 ≤ m) (m1 : m < b 143 0) (ha2 : 0 ≤ b 145 (800 * k + 3) ∧ b 145 (800 * k + 3) ≤ 2) (hP : PlayR b k m) (hA : 0 < asN (b 145 (800 * k + 3)) (b 143 (20 + m).toNat) (b 143 (24 + m).toNat)) {r g : Int} (r0 : 0 ≤ r) (r1 : r < r3 (b 143 (20 + m).toNat)) (g0 : 0 ≤ g) (g1 : g ≤ 99) {c : Nat → Nat → Int} (hF : PlF b c) {D : Int} (D1 : D ≤ 100) (o2 o3 : Option AV) : ∀ (n : Nat) (t : Int) (o7 : Option AV), 0 ≤ t → t + n = D → (∃ x c', fdU (fT b k m g r) n t = some x ∧ Rr (Cd (d + 2)) 61 35 [some (vA 131), some (vI (pkR r (b 143 (20 + m).toNat))), o2, o3, some (vI (g * SL b m r)), some (vI D), some (vI t), o7] [] (s, c) = some ([vI 1], (s, c')) ∧ PlF b c' ∧ (r, c' 131 16, c' 131 13) = x) ∨ (fdU (fT b k m g r) n t = none ∧ Rr (Cd (d + 2)) 61 35 [some (vA 131), some (vI (pkR r (b 143 (20 + m).toNat))), o2, o3, some (vI (g * SL b m r)), some (vI D), some (vI t), o7] [] (s, c) = some ([vI 0], (s, c)))
  | 0, t, o7, h0, h => Or.inr ⟨rfl, by rw [c61_35, if_neg (by omega)]⟩
  | n + 1, t, o7, h0, h => by
    have hI1 := hF.inv hI
    have hs := hI1.1.l
    have hc := hI1.2.2.2.1
    have hM := hI.mok m m0 m1
    have n7 := hM.2.1.2
    have aN := asN_b (a := b 145 (800 * k + 3)) hM.2.1.1 hM.2.1.2 hM.2.2.1.1 hM.2.2.1.2
    have gs := gS_b hM r g0 g1
    have p8 : c 131 8 = asN (b 145 (800 * k + 3)) (b 143 (20 + m).toNat) (b 143 (24 + m).toNat) := (hF _ _ (by omega) (by omega) (by omega)).trans hP.2.2.2.1
    have kb := kx_b (b := b) (k := k) (m := m) (g := g) (r := r) (t := t) hA
    have gi := hP.2.2.2.2 _ kb.1 kb.2
    have e2 : c 132 (kx b k m g r t).toNat = asX b m (b 145 (800 * k + 3)) (kx b k m g r t) := (hF _ _ (by omega) (by omega) (by omega)).trans gi.1
    have e3 : c 133 (kx b k m g r t).toNat = asY b m (b 145 (800 * k + 3)) (kx b k m g r t) := (hF _ _ (by omega) (by omega) (by omega)).trans gi.2.1
    have bx := asX_b hM ha2 kb.1 kb.2
    have pk := pk_ok hM.2.1.1 hM.2.1.2 r0 r1
    have p1 := pnt_b (b 143 (20 + m).toNat) r (asX b m (b 145 (800 * k + 3)) (kx b k m g r t))
    have p2 := pnt_b (b 143 (20 + m).toNat) r (asY b m (b 145 (800 * k + 3)) (kx b k m g r t))
    have eo : opn (pkR r (b 143 (20 + m).toNat)) (asX b m (b 145 (800 * k + 3)) (kx b k m g r t)) (asY b m (b 145 (800 * k + 3)) (kx b k m g r t)) = 3 * pnt (b 143 (20 + m).toNat) r (asX b m (b 145 (800 * k + 3)) (kx b k m g r t)) + pnt (b 143 (20 + m).toNat) r (asY b m (b 145 (800 * k + 3)) (kx b k m g r t)) := by
      unfold opn; rw [pk.2 _ bx.1.1 bx.1.2, pk.2 _ bx.2.1 bx.2.2, Int.mul_comm]
    have q1 := k166 d (s, c) pk.1.1 (by omega) bx.1.1 (by omega) bx.2.1 (by omega)
    rw [eo] at q1
    have E3 : c 143 = b 143 := funext fun i => hF _ _ (by omega) (by omega) (by omega)
    have E5 : c 145 = b 145 := funext fun i => hF _ _ (by omega) (by omega) (by omega)
    have q48 := k48 d hs hc (PlayR_of hP hF) (i := kx b k m g r t) (p := pnt (b 143 (20 + m).toNat) r (asX b m (b 145 (800 * k + 3)) (kx b k m g r t))) (q := pnt (b 143 (20 + m).toNat) r (asY b m (b 145 (800 * k + 3)) (kx b k m g r t))) kb.1 (by rw [E3, E5]; exact kb.2) (by rw [E3, E5]; exact aN.2) p1 p2
    have s0 : ∀ z, 0 ≤ z → z < 3 → swp 0 z = z := fun z z0 z1 => by
      have : z = 0 ∨ z = 1 ∨ z = 2 := by omega
      rcases this with rfl | rfl | rfl <;> decide
    have eb : jud (c 145) k (pnt (b 143 (20 + m).toNat) r (asX b m (b 145 (800 * k + 3)) (kx b k m g r t))) (pnt (b 143 (20 + m).toNat) r (asY b m (b 145 (800 * k + 3)) (kx b k m g r t))) (asX c m (c 145 (800 * k + 3)) (kx b k m g r t)) (asY c m (c 145 (800 * k + 3)) (kx b k m g r t)) = belR b k m 0 (kx b k m g r t) r := by
      rw [E5, asX_of E3, asY_of E3]
      unfold belR; rw [s0 _ p1.1 p1.2, s0 _ p2.1 p2.2]
    rw [eb] at q48
    have ek : irem (w32 (g * SL b m r + t)) (asN (b 145 (800 * k + 3)) (b 143 (20 + m).toNat) (b 143 (24 + m).toNat)) = kx b k m g r t := by
      rw [w32_id (by omega) (by omega), irem_n (by omega) (by omega) hA (by omega)]; rfl
    simp only [fdU]
    by_cases z : belR b k m 0 (kx b k m g r t) r = true
    · have ef : fT b k m g r t = some (r, t, kx b k m g r t) := if_pos z
      rw [z] at q48
      refine Or.inl ⟨(r, t, kx b k m g r t), u2 (u2 c 131 16 t) 131 13 (kx b k m g r t), by rw [ef], ?_, (hF.u (by omega) _).u (by omega) _, by rw [u2_n (by omega), u2_e, u2_e]⟩
      rw [c61_35, if_pos (by omega)]
      repeat (first | rw [bnd_s] | rw [tI_m] | rw [tL_m] | rw [tA_m] | rw [tV_m] | rw [fC131 hs _ (by decide)] | rw [pC131 hs _ _ (by decide)] | rw [p8] | rw [if_neg (show ¬ asN (b 145 (800 * k + 3)) (b 143 (20 + m).toNat) (b 143 (24 + m).toNat) = 0 by omega)] | rw [ek] | rw [CS_131_0 hc] | rw [CS_131_1 hc] | rw [aC132 hs _ kb.1 (by omega)] | rw [aC133 hs _ kb.1 (by omega)] | rw [e2] | rw [e3] | rw [q1] | rw [q48] | rw [b2i_t] | rw [if_neg (show ¬ (1 : Int) = 0 by decide)])
    · have ef : fT b k m g r t = none := if_neg z
      rw [Bool.eq_false_iff.mpr z] at q48
      rw [ef]
      have run : Rr (Cd (d + 2)) 61 35 [some (vA 131), some (vI (pkR r (b 143 (20 + m).toNat))), o2, o3, some (vI (g * SL b m r)), some (vI D), some (vI t), o7] [] (s, c) = Rr (Cd (d + 2)) 61 35 [some (vA 131), some (vI (pkR r (b 143 (20 + m).toNat))), o2, o3, some (vI (g * SL b m r)), some (vI D), some (vI (t + 1)), some (vI (kx b k m g r t))] [] (s, c) := by
        rw [c61_35, if_pos (by omega)]
        repeat (first | rw [bnd_s] | rw [tI_m] | rw [tL_m] | rw [tA_m] | rw [tV_m] | rw [fC131 hs _ (by decide)] | rw [pC131 hs _ _ (by decide)] | rw [p8] | rw [if_neg (show ¬ asN (b 145 (800 * k + 3)) (b 143 (20 + m).toNat) (b 143 (24 + m).toNat) = 0 by omega)] | rw [ek] | rw [CS_131_0 hc] | rw [CS_131_1 hc] | rw [aC132 hs _ kb.1 (by omega)] | rw [aC133 hs _ kb.1 (by omega)] | rw [e2] | rw [e3] | rw [q1] | rw [q48] | rw [b2i_f] | rw [if_pos (show (0 : Int) = 0 from rfl)] | rw [w32_id (z := t + 1) (by omega) (by omega)])
      rw [run]
      exact k61_35 d hI m0 m1 ha2 hP hA r0 r1 g0 g1 hF D1 o2 o3 n (t + 1) _ (by omega) (by omega)
def TD (c : Nat → Nat → Int) : Int × Int × Int := (c 131 11, c 131 16, c 131 13)
theorem k60_9 (d : Nat) {n0 : Nat} (hI : Inv s b n0) {k : Nat} {m : Int} (m0 : 0 ≤ m) (m1 : m < b 143 0) (ha2 : 0 ≤ b 145 (800 * k + 3) ∧ b 145 (800 * k + 3) ≤ 2) (hP : PlayR b k m) {g q : Int} (g0 : 0 ≤ g) (g1 : g ≤ 99) (q0 : 1 ≤ q) (q1 : q ≤ 100) : ∀ (n : Nat) (r : Int) (c : Nat → Nat → Int) (o5 : Option AV), 0 ≤ r → r + n = r3 (b 143 (20 + m).toNat) → PlF b c → TD c = (-1, -1, -1) → ∃ c', Rr (Cd (d + 4)) 60 9 [some (vA 131), some (vI g), some (vI q), some (vI (r3 (b 143 (20 + m).toNat))), some (vI r), o5] [] (s, c) = some ([], (s, c')) ∧ PlF b c' ∧ TD c' = (if asN (b 145 (800 * k + 3)) (b 143 (20 + m).toNat) (b 143 (24 + m).toNat) = 0 then none else fdU (fR b k m g q) n r).getD (-1, -1, -1)
  | 0, r, c, o5, h0, h, hF, hT => by
    refine ⟨c, by rw [c60_9, if_neg (by omega), c60_38], hF, ?_⟩
    rw [hT]; split <;> rfl
  | n + 1, r, c, o5, h0, h, hF, hT => by
    have hI1 := hF.inv hI
    have hs := hI1.1.l
    have hc := hI1.2.2.2.1
    have n4 := hI.nM.2
    have hM := hI.mok m m0 m1
    have k2 := hM.2.1
    have rb := r3_b k2.2
    have aN := asN_b (a := b 145 (800 * k + 3)) hM.2.1.1 hM.2.1.2 hM.2.2.1.1 hM.2.2.1.2
    have e3 : c 143 = b 143 := funext fun i => hF _ _ (by omega) (by omega) (by omega)
    have hch := chN hs hc (m := m.toNat) (by omega)
    have hmp := hI1.map (m := m.toNat) (by rw [e3]; omega)
    have hmr := hmp.1.1
    rw [Int.toNat_of_nonneg m0] at hmp
    rw [Int.toNat_of_nonneg m0, e3] at hmr
    have p5 := (PlayR_of hP hF).1
    have p8 : c 131 8 = asN (b 145 (800 * k + 3)) (b 143 (20 + m).toNat) (b 143 (24 + m).toNat) := (hF _ _ (by omega) (by omega) (by omega)).trans hP.2.2.2.1
    have T11 : c 131 11 = -1 := congrArg (fun t => t.1) hT
    have q12 := k12 (d + 2) hch hmp (pkR r (b 143 (20 + m).toNat))
    have eA : isP c m (pkR r (b 143 (20 + m).toNat)) = isA b m r := by
      have := isP_A (c := c) (m := m) (r := r) (MapOK_of hM e3) h0 (by rw [e3]; omega)
      rw [e3, isA_of e3] at this; exact this
    rw [eA] at q12
    have q164 := k164 (d + 3) r (s, c) (show 0 ≤ b 143 (20 + m).toNat by omega) k2.2
    have ih := fun c' hF' hT' o5 => k60_9 d hI m0 m1 ha2 hP g0 g1 q0 q1 n (r + 1) c' o5 (by omega) (by omega) hF' hT'
    by_cases ia : isA b m r = true
    · obtain ⟨c', y1, y2, y3⟩ := ih c hF hT (some (vI (pkR r (b 143 (20 + m).toNat))))
      have ef : fR b k m g q r = none := if_pos ia
      refine ⟨c', ?_, y2, by rw [y3]; simp only [fdU]; rw [ef]⟩
      rw [ia] at q12
      rw [c60_9, if_pos (by omega)]
      repeat (first | rw [bnd_s] | rw [tI_m] | rw [tL_m] | rw [tA_m] | rw [tV_m] | rw [fC131 hs _ (by decide)] | rw [pC131 hs _ _ (by decide)] | rw [T11] | rw [if_pos (show (-1 : Int) = -1 from rfl)] | rw [p5] | rw [gF_g hch.1.1 _ (by decide)] | rw [hmr] | rw [q164] | rw [q12] | rw [b2i_t] | rw [if_neg (show ¬ (1 : Int) = 0 by decide)] | rw [c60_36] | rw [w32_id (z := r + 1) (by omega) (by omega)])
      exact y1
    · have ef : fR b k m g q r = fdU (fT b k m g r) q.toNat 0 := if_neg ia
      rw [Bool.eq_false_iff.mpr ia] at q12
      by_cases z : asN (b 145 (800 * k + 3)) (b 143 (20 + m).toNat) (b 143 (24 + m).toNat) = 0
      · obtain ⟨c', y1, y2, y3⟩ := ih c hF hT (some (vI (pkR r (b 143 (20 + m).toNat))))
        refine ⟨c', ?_, y2, by rw [y3, if_pos z, if_pos z]⟩
        have q61 : Cd (d + 4) 61 [vA 131, vI (pkR r (b 143 (20 + m).toNat)), vI g, vI q] (s, c) = some ([vI 0], (s, c)) := by
          rw [c61 (hg := gC131 hs c)]
          repeat (first | rw [bnd_s] | rw [tI_m] | rw [tL_m] | rw [tA_m] | rw [tV_m] | rw [fC131 hs _ (by decide)] | rw [pC131 hs _ _ (by decide)] | rw [p8] | rw [if_pos z])
        rw [c60_9, if_pos (by omega)]
        repeat (first | rw [bnd_s] | rw [tI_m] | rw [tL_m] | rw [tA_m] | rw [tV_m] | rw [fC131 hs _ (by decide)] | rw [pC131 hs _ _ (by decide)] | rw [T11] | rw [if_pos (show (-1 : Int) = -1 from rfl)] | rw [p5] | rw [gF_g hch.1.1 _ (by decide)] | rw [hmr] | rw [q164] | rw [q12] | rw [b2i_f] | rw [if_pos (show (0 : Int) = 0 from rfl)] | rw [q61] | rw [c60_36] | rw [w32_id (z := r + 1) (by omega) (by omega)])
        exact y1
      · have hA : 0 < asN (b 145 (800 * k + 3)) (b 143 (20 + m).toNat) (b 143 (24 + m).toNat) := by omega
        rw [fT_per hA (by omega)] at ef
        have zD : ∃ D, D = if asN (b 145 (800 * k + 3)) (b 143 (20 + m).toNat) (b 143 (24 + m).toNat) < q then asN (b 145 (800 * k + 3)) (b 143 (20 + m).toNat) (b 143 (24 + m).toNat) else q := ⟨_, rfl⟩
        obtain ⟨D, zD⟩ := zD
        have Db : 0 ≤ D ∧ D ≤ 100 := by rw [zD]; split <;> omega
        have s9 := k61_9 (d + 2) hI1 m0 (by rw [e3]; exact m1) p5 p8 (r := r) (q := q) h0 (by rw [e3]; omega) g0 g1 none none (b 143 (20 + m).toNat).toNat 0 0 (by omega) (by rw [e3]; omega) (by omega) (by omega)
        rw [e3, Int.mul_zero, Int.zero_add, ← zD] at s9
        have H := k61_35 (d + 1) hI m0 m1 ha2 hP hA h0 (show r < r3 (b 143 (20 + m).toNat) by omega) g0 g1 hF Db.2 (some (vI g)) (some (vI q)) D.toNat 0 none (by omega) (by omega)
        rw [← zD] at ef
        have r61 : ∀ X, Rr (Cd (d + 3)) 61 35 [some (vA 131), some (vI (pkR r (b 143 (20 + m).toNat))), some (vI g), some (vI q), some (vI (g * SL b m r)), some (vI D), some (vI 0), none] [] (s, c) = X → Cd (d + 4) 61 [vA 131, vI (pkR r (b 143 (20 + m).toNat)), vI g, vI q] (s, c) = X := fun X hX => by
          rw [c61 (hg := gC131 hs c)]
          repeat (first | rw [bnd_s] | rw [tI_m] | rw [tL_m] | rw [tA_m] | rw [tV_m] | rw [fC131 hs _ (by decide)] | rw [pC131 hs _ _ (by decide)] | rw [p8] | rw [if_neg z])
          rw [s9]; exact hX
        rcases H with ⟨x, c', x1, x2, x3, x4⟩ | ⟨x1, x2⟩
        · have q61 := r61 _ x2
          refine ⟨u2 c' 131 11 r, ?_, x3.u (by omega) _, ?_⟩
          · have t11 : u2 c' 131 11 r 131 11 = r := u2_e _ _ _ _
            have rr : ¬ r = -1 := by omega
            have fin : ∀ n' : Int, Rr (Cd (d + 4)) 60 9 [some (vA 131), some (vI g), some (vI q), some (vI (r3 (b 143 (20 + m).toNat))), some (vI n'), some (vI (pkR r (b 143 (20 + m).toNat)))] [] (s, u2 c' 131 11 r) = some ([], (s, u2 c' 131 11 r)) := fun n' => by
              rw [c60_9]
              by_cases u : n' < r3 (b 143 (20 + m).toNat)
              · rw [if_pos u]
                repeat (first | rw [bnd_s] | rw [tI_m] | rw [tL_m] | rw [tA_m] | rw [tV_m] | rw [fC131 hs _ (by decide)] | rw [pC131 hs _ _ (by decide)] | rw [t11] | rw [if_neg rr] | rw [c60_38])
              · rw [if_neg u, c60_38]
            rw [c60_9, if_pos (by omega)]
            repeat (first | rw [bnd_s] | rw [tI_m] | rw [tL_m] | rw [tA_m] | rw [tV_m] | rw [fC131 hs _ (by decide)] | rw [pC131 hs _ _ (by decide)] | rw [T11] | rw [if_pos (show (-1 : Int) = -1 from rfl)] | rw [p5] | rw [gF_g hch.1.1 _ (by decide)] | rw [hmr] | rw [q164] | rw [q12] | rw [b2i_f] | rw [if_pos (show (0 : Int) = 0 from rfl)] | rw [q61] | rw [if_neg (show ¬ (1 : Int) = 0 by decide)] | rw [c60_36] | rw [fin])
          · rw [if_neg z]
            simp only [fdU]
            rw [ef, x1, ← x4]
            unfold TD
            rw [u2_e, u2_n (by omega), u2_n (by omega)]; rfl
        · have q61 := r61 _ x2
          obtain ⟨c', y1, y2, y3⟩ := ih c hF hT (some (vI (pkR r (b 143 (20 + m).toNat))))
          refine ⟨c', ?_, y2, by rw [y3, if_neg z, if_neg z]; simp only [fdU]; rw [ef, x1]⟩
          rw [c60_9, if_pos (by omega)]
          repeat (first | rw [bnd_s] | rw [tI_m] | rw [tL_m] | rw [tA_m] | rw [tV_m] | rw [fC131 hs _ (by decide)] | rw [pC131 hs _ _ (by decide)] | rw [T11] | rw [if_pos (show (-1 : Int) = -1 from rfl)] | rw [p5] | rw [gF_g hch.1.1 _ (by decide)] | rw [hmr] | rw [q164] | rw [q12] | rw [b2i_f] | rw [if_pos (show (0 : Int) = 0 from rfl)] | rw [q61] | rw [c60_36] | rw [w32_id (z := r + 1) (by omega) (by omega)])
          exact y1
theorem k60 (d : Nat) {n0 : Nat} (hI : Inv s b n0) {k : Nat} {m : Int} (m0 : 0 ≤ m) (m1 : m < b 143 0) (ha2 : 0 ≤ b 145 (800 * k + 3) ∧ b 145 (800 * k + 3) ≤ 2) (hP : PlayR b k m) {g q : Int} (g0 : 0 ≤ g) (g1 : g ≤ 99) (q0 : 1 ≤ q) (q1 : q ≤ 100) : ∃ c', Cd (d + 5) 60 [vA 131, vI g, vI q] (s, b) = some ([], (s, c')) ∧ PlF b c' ∧ TD c' = (alT b k m g q).getD (-1, -1, -1) := by
  have hs := hI.1.l
  have n4 := hI.nM.2
  have hM := hI.mok m m0 m1
  have k2 := hM.2.1
  have rb := r3_b k2.2
  obtain ⟨c1, r1, f1, t1⟩ := k47 (d + 3) (c := b) hs
  have hc1 := (f1.inv hI).2.2.2.1
  have hch := chN hs hc1 (m := m.toNat) (by omega)
  have e3 : c1 143 = b 143 := funext fun i => f1 _ _ (by omega) (by omega) (by omega)
  have hmr := ((f1.inv hI).map (m := m.toNat) (by rw [e3]; omega)).1.1
  rw [Int.toNat_of_nonneg m0, e3] at hmr
  have p5 := (PlayR_of hP f1).1
  obtain ⟨c', y1, y2, y3⟩ := k60_9 d hI m0 m1 ha2 hP g0 g1 q0 q1 (r3 (b 143 (20 + m).toNat)).toNat 0 c1 none (by omega) (by omega) f1 (by unfold TD; rw [t1 11 (by omega) (by omega), t1 16 (by omega) (by omega), t1 13 (by omega) (by omega)])
  refine ⟨c', ?_, y2, y3⟩
  rw [c60 (hg := gC131 hs b)]
  repeat (first | rw [bnd_s] | rw [tI_m] | rw [tL_m] | rw [tA_m] | rw [tV_m] | rw [r1] | rw [fC131 hs _ (by decide)] | rw [pC131 hs _ _ (by decide)] | rw [p5] | rw [gF_g hch.1.1 _ (by decide)] | rw [hmr] | rw [k163 _ _ (show 0 ≤ b 143 (20 + m).toNat by omega) k2.2])
  exact y1
theorem m266_51 (d : Nat) (hs : SpL s) {c : Nat → Nat → Int} (hm : MS c) {m : Int} (hM : MapOK c m) {r : Int} (r0 : 0 ≤ r) (r1 : r < 2187) (A g q v : Int) (o1 o10 : Option AV) : ∀ (n : Nat) (l a : Int), 0 ≤ l → l + n = c 143 (20 + m).toNat → 0 ≤ a → a ≤ 14 * l → Rr (Cd (d + 1)) 266 51 [some (vA 142), o1, some (vI m), some (vI g), some (vI q), some (vI v), some (vI A), some (vI r), some (vI a), some (vI l), o10] [] (s, c) = Rr (Cd (d + 1)) 266 75 [some (vA 142), o1, some (vI m), some (vI g), some (vI q), some (vI v), some (vI A), some (vI r), some (vI (a + sumU (fun l => (l + 1) * pnt (c 143 (20 + m).toNat) r l) n l)), some (vI 0), o10] [] (s, c)
  | 0, l, a, h0, h, a0, a1 => by
    obtain ⟨⟨k0, k1⟩, ⟨k2, k3⟩, -⟩ := id hM
    rw [c266_51]
    repeat (first | rw [bnd_s] | rw [tI_m] | rw [tL_m] | rw [tA_m] | rw [tV_m] | rw [fC142 hs _ (by decide)] | rw [pC142 hs _ _ (by decide)] | rw [MS_0 hm] | rw [w32_id (z := 20 + m) (by omega) (by omega)] | rw [aC143 hs _ (show 0 ≤ 20 + m by omega) (by omega)] | rw [if_neg (show ¬ l < c 143 (20 + m).toNat by omega)])
    simp only [sumU, Int.add_zero]
  | n + 1, l, a, h0, h, a0, a1 => by
    obtain ⟨⟨k0, k1⟩, ⟨k2, k3⟩, -⟩ := id hM
    have p := pnt_b (c 143 (20 + m).toNat) r l
    have mb := mulB (a := l + 1) (b := pnt (c 143 (20 + m).toNat) r l) (x := 7) (y := 2) (by omega) p.1 (by omega) (by omega)
    have ih := m266_51 d hs hm hM r0 r1 A g q v o1 o10 n (l + 1) (a + (l + 1) * pnt (c 143 (20 + m).toNat) r l) (by omega) (by omega) (by omega) (by omega)
    simp only [sumU]
    rw [← Int.add_assoc, ← ih, c266_51]
    repeat (first | rw [bnd_s] | rw [tI_m] | rw [tL_m] | rw [tA_m] | rw [tV_m] | rw [fC142 hs _ (by decide)] | rw [pC142 hs _ _ (by decide)] | rw [MS_0 hm] | rw [w32_id (z := 20 + m) (by omega) (by omega)] | rw [aC143 hs _ (show 0 ≤ 20 + m by omega) (by omega)] | rw [if_pos (show l < c 143 (20 + m).toNat by omega)] | rw [m181 d hs hm hM r0 r1 h0 (show l < c 143 (20 + m).toNat by omega)] | rw [w32_id (z := l + 1) (by omega) (by omega)] | rw [w32_id (z := (l + 1) * pnt (c 143 (20 + m).toNat) r l) (by omega) (by omega)] | rw [w32_id (z := a + (l + 1) * pnt (c 143 (20 + m).toNat) r l) (by omega) (by omega)])
def pk3 (v : Int) (t : Int × Int × Int) : Int := if v = 0 then t.1 else if v = 1 then t.2.1 else t.2.2
theorem m266_75 (d : Nat) (hs : SpL s) {k : Nat} {m : Int} (hP : MP b k m) (hA : 0 < asN (b 145 (800 * k + 3)) (b 143 (20 + m).toNat) (b 143 (24 + m).toNat)) {r g q : Int} (r0 : 0 ≤ r) (r1 : r < 2187) (g0 : 0 ≤ g) (g1 : g ≤ 99) (q1 : q ≤ 100) (o1 : Option AV) (v : Int) : ∀ (n : Nat) (t : Int) (c : Nat → Nat → Int) (o10 : Option AV), 0 ≤ t → t + n = q → Fm [152, 153, 154] [] b c → ∃ c' o8 o9 o10', Fm [152, 153, 154] [] b c' ∧ Rr (Cd (d + 5)) 266 75 [some (vA 142), o1, some (vI m), some (vI g), some (vI q), some (vI v), some (vI (asN (b 145 (800 * k + 3)) (b 143 (20 + m).toNat) (b 143 (24 + m).toNat))), some (vI r), some (vI (SL b m r)), some (vI t), o10] [] (s, c) = match fdU (fT b k m g r) n t with | some x => some ([vI (pk3 v x)], (s, c')) | none => Rr (Cd (d + 5)) 266 106 [some (vA 142), o1, some (vI m), some (vI g), some (vI q), some (vI v), some (vI (asN (b 145 (800 * k + 3)) (b 143 (20 + m).toNat) (b 143 (24 + m).toNat))), some (vI r), o8, o9, o10'] [] (s, c')
  | 0, t, c, o10, h0, h, hF => ⟨c, some (vI (SL b m r)), some (vI t), o10, hF, by rw [c266_75, if_neg (by omega)]; rfl⟩
  | n + 1, t, c, o10, h0, h, hF => by
    obtain ⟨hP1, e3, e5⟩ := hP.mv hF (by decide)
    have hM := hP.1.2.2.2.2.1
    have aN := asN_b (a := b 145 (800 * k + 3)) hM.2.1.1 hM.2.1.2 hM.2.2.1.1 hM.2.2.1.2
    have gs := gS_b hM r g0 g1
    have kb := kx_b (b := b) (k := k) (m := m) (g := g) (r := r) (t := t) hA
    obtain ⟨c1, x1, x2⟩ := hP1.n232 d hs (i := kx b k m g r t) kb.1 (by rw [e3, e5]; exact kb.2) r0 r1 (show (0 : Int) ≤ 0 by decide) (by decide)
    rw [belR_of e3 e5] at x1
    have F1 : Fm [152, 153, 154] [] b c1 := hF.tr x2
    have ek : irem (w32 (w32 (g * SL b m r) + t)) (asN (b 145 (800 * k + 3)) (b 143 (20 + m).toNat) (b 143 (24 + m).toNat)) = kx b k m g r t := by
      rw [w32_id (z := g * SL b m r) (by omega) (by omega), w32_id (by omega) (by omega), irem_n (by omega) (by omega) hA (by omega)]; rfl
    simp only [fdU]
    by_cases z : belR b k m 0 (kx b k m g r t) r = true
    · have ef : fT b k m g r t = some (r, t, kx b k m g r t) := if_pos z
      rw [z] at x1
      refine ⟨c1, none, none, none, F1, ?_⟩
      rw [ef, c266_75, if_pos (by omega), if_neg (show ¬ asN (b 145 (800 * k + 3)) (b 143 (20 + m).toNat) (b 143 (24 + m).toNat) = 0 by omega)]
      repeat (first | rw [bnd_s] | rw [tI_m] | rw [tL_m] | rw [tA_m] | rw [tV_m] | rw [ek] | rw [x1] | rw [b2i_t] | rw [if_neg (show ¬ (1 : Int) = 0 by decide)])
      show _ = some ([vI (pk3 v (r, t, kx b k m g r t))], (s, c1))
      unfold pk3
      by_cases v0 : v = 0
      · rw [if_pos v0, if_pos v0, c266_103]
      · rw [if_neg v0, if_neg v0]
        by_cases v1 : v = 1
        · rw [if_pos v1, if_pos v1, c266_103]
        · rw [if_neg v1, if_neg v1, c266_103]
    · have ef : fT b k m g r t = none := if_neg z
      rw [Bool.eq_false_iff.mpr z] at x1
      obtain ⟨c', o8, o9, o10', y1, y2⟩ := m266_75 d hs hP hA r0 r1 g0 g1 q1 o1 v n (t + 1) c1 (some (vI (kx b k m g r t))) (by omega) (by omega) F1
      refine ⟨c', o8, o9, o10', y1, ?_⟩
      rw [ef, ← y2, c266_75, if_pos (by omega), if_neg (show ¬ asN (b 145 (800 * k + 3)) (b 143 (20 + m).toNat) (b 143 (24 + m).toNat) = 0 by omega)]
      repeat (first | rw [bnd_s] | rw [tI_m] | rw [tL_m] | rw [tA_m] | rw [tV_m] | rw [ek] | rw [x1] | rw [b2i_f] | rw [if_pos (show (0 : Int) = 0 from rfl)] | rw [w32_id (z := t + 1) (by omega) (by omega)])
theorem m266_34 (d : Nat) (hs : SpL s) {k : Nat} {m : Int} (hP : MP b k m) {g q : Int} (g0 : 0 ≤ g) (g1 : g ≤ 99) (q0 : 1 ≤ q) (q1 : q ≤ 100) (o1 : Option AV) (v : Int) : ∀ (n : Nat) (r : Int) (c : Nat → Nat → Int) (o8 o9 o10 : Option AV), 0 ≤ r → r + n = r3 (b 143 (20 + m).toNat) → Fm [152, 153, 154] [] b c → ∃ c', Fm [152, 153, 154] [] b c' ∧ Rr (Cd (d + 5)) 266 34 [some (vA 142), o1, some (vI m), some (vI g), some (vI q), some (vI v), some (vI (asN (b 145 (800 * k + 3)) (b 143 (20 + m).toNat) (b 143 (24 + m).toNat))), some (vI r), o8, o9, o10] [] (s, c) = some ([vI (pk3 v ((if asN (b 145 (800 * k + 3)) (b 143 (20 + m).toNat) (b 143 (24 + m).toNat) = 0 then none else fdU (fR b k m g q) n r).getD (-1, -1, -1)))], (s, c'))
  | 0, r, c, o8, o9, o10, h0, h, hF => by
    obtain ⟨hP1, e3, e5⟩ := hP.mv hF (by decide)
    have q180 := m180 (d + 4) hs hP1.1.1 hP1.1.2.2.2.2.1
    rw [e3] at q180
    refine ⟨c, hF, ?_⟩
    rw [c266_34]
    repeat (first | rw [bnd_s] | rw [tI_m] | rw [tL_m] | rw [tA_m] | rw [tV_m] | rw [q180] | rw [if_neg (show ¬ r < r3 (b 143 (20 + m).toNat) by omega)] | rw [c266_108])
    have : (if asN (b 145 (800 * k + 3)) (b 143 (20 + m).toNat) (b 143 (24 + m).toNat) = 0 then none else fdU (fR b k m g q) 0 r).getD (-1, -1, -1) = ((-1 : Int), (-1 : Int), (-1 : Int)) := by split <;> rfl
    rw [this]
    unfold pk3
    split <;> (try split) <;> rfl
  | n + 1, r, c, o8, o9, o10, h0, h, hF => by
    obtain ⟨hP1, e3, e5⟩ := hP.mv hF (by decide)
    have hM := hP.1.2.2.2.2.1
    have aN := asN_b (a := b 145 (800 * k + 3)) hM.2.1.1 hM.2.1.2 hM.2.2.1.1 hM.2.2.1.2
    have k2 := hM.2.1
    have rb := r3_b k2.2
    have q180 := m180 (d + 4) hs hP1.1.1 hP1.1.2.2.2.2.1
    rw [e3] at q180
    by_cases z : asN (b 145 (800 * k + 3)) (b 143 (20 + m).toNat) (b 143 (24 + m).toNat) = 0
    · refine ⟨c, hF, ?_⟩
      rw [c266_34, if_pos z]
      repeat (first | rw [bnd_s] | rw [tI_m] | rw [tL_m] | rw [tA_m] | rw [tV_m] | rw [q180] | rw [if_pos (show r < r3 (b 143 (20 + m).toNat) by omega)] | rw [if_neg (show ¬ 0 < asN (b 145 (800 * k + 3)) (b 143 (20 + m).toNat) (b 143 (24 + m).toNat) by omega)] | rw [c266_108])
      unfold pk3
      split <;> (try split) <;> rfl
    · have hA : 0 < asN (b 145 (800 * k + 3)) (b 143 (20 + m).toNat) (b 143 (24 + m).toNat) := by omega
      have q182 := m182 (d + 3) hs hP1.1.1 hP1.1.2.2.2.2.1 h0 (show r < 2187 by omega)
      rw [isA_of e3] at q182
      by_cases ia : isA b m r = true
      · have ef : fR b k m g q r = none := if_pos ia
        rw [ia] at q182
        obtain ⟨c', y1, y2⟩ := m266_34 d hs hP g0 g1 q0 q1 o1 v n (r + 1) c o8 o9 o10 (by omega) (by omega) hF
        refine ⟨c', y1, ?_⟩
        rw [if_neg z] at y2 ⊢
        simp only [fdU]
        rw [ef, ← y2, c266_34]
        repeat (first | rw [bnd_s] | rw [tI_m] | rw [tL_m] | rw [tA_m] | rw [tV_m] | rw [q180] | rw [if_pos (show r < r3 (b 143 (20 + m).toNat) by omega)] | rw [if_pos hA] | rw [q182] | rw [b2i_t] | rw [if_neg (show ¬ (1 : Int) = 0 by decide)] | rw [c266_106] | rw [w32_id (z := r + 1) (by omega) (by omega)])
      · have ef : fR b k m g q r = fdU (fT b k m g r) q.toNat 0 := if_neg ia
        rw [Bool.eq_false_iff.mpr ia] at q182
        have s51 := m266_51 (d + 4) hs hP1.1.1 hP1.1.2.2.2.2.1 h0 (show r < 2187 by omega) (asN (b 145 (800 * k + 3)) (b 143 (20 + m).toNat) (b 143 (24 + m).toNat)) g q v o1 o10 (b 143 (20 + m).toNat).toNat 0 0 (by omega) (by rw [e3]; omega) (by omega) (by omega)
        rw [Int.zero_add, e3] at s51
        obtain ⟨c1, p8, p9, p10, F1, x2⟩ := m266_75 d hs hP hA h0 (show r < 2187 by omega) g0 g1 q1 o1 v q.toNat 0 c o10 (by omega) (by omega) hF
        have run : Rr (Cd (d + 5)) 266 34 [some (vA 142), o1, some (vI m), some (vI g), some (vI q), some (vI v), some (vI (asN (b 145 (800 * k + 3)) (b 143 (20 + m).toNat) (b 143 (24 + m).toNat))), some (vI r), o8, o9, o10] [] (s, c) = Rr (Cd (d + 5)) 266 75 [some (vA 142), o1, some (vI m), some (vI g), some (vI q), some (vI v), some (vI (asN (b 145 (800 * k + 3)) (b 143 (20 + m).toNat) (b 143 (24 + m).toNat))), some (vI r), some (vI (SL b m r)), some (vI 0), o10] [] (s, c) := by
          rw [c266_34]
          repeat (first | rw [bnd_s] | rw [tI_m] | rw [tL_m] | rw [tA_m] | rw [tV_m] | rw [q180] | rw [if_pos (show r < r3 (b 143 (20 + m).toNat) by omega)] | rw [if_pos hA] | rw [q182] | rw [b2i_f] | rw [if_pos (show (0 : Int) = 0 from rfl)])
          rw [s51]; rfl
        rw [run, x2, if_neg z]
        simp only [fdU]
        rw [ef]
        cases e : fdU (fT b k m g r) q.toNat 0 with
        | some x => exact ⟨c1, F1, rfl⟩
        | none =>
          obtain ⟨c', y1, y2⟩ := m266_34 d hs hP g0 g1 q0 q1 o1 v n (r + 1) c1 p8 p9 p10 (by omega) (by omega) F1
          rw [if_neg z] at y2
          refine ⟨c', y1, ?_⟩
          simp only []
          rw [c266_106, w32_id (z := r + 1) (by omega) (by omega)]
          exact y2
end
theorem alT_of {b c : Nat → Nat → Int} (e3 : c 143 = b 143) (e5 : c 145 = b 145) (k : Nat) (m g q : Int) : alT c k m g q = alT b k m g q := by
  have h1 : ∀ r, SL c m r = SL b m r := fun r => by unfold SL; rw [e3]
  have h2 : ∀ r t, kx c k m g r t = kx b k m g r t := fun r t => by unfold kx; rw [h1, e3, e5]
  have h3 : ∀ r, fT c k m g r = fT b k m g r := fun r => funext fun t => by unfold fT; rw [h2, belR_of e3 e5]
  have h4 : fR c k m g q = fR b k m g q := funext fun r => by unfold fR; rw [h3, isA_of e3]
  unfold alT; rw [h4, e3, e5]
theorem op_alone (k m g q v : Int) : Op 141 266 [vI k, vI m, vI g, vI q, vI v] := by
  intro s c n hI
  by_cases hkm : ((0 ≤ k ∧ k < c 143 1) ∧ (0 ≤ m ∧ m < c 143 0)) ∧ (0 ≤ g ∧ g ≤ 99) ∧ (1 ≤ q ∧ q ≤ 100) ∧ (0 ≤ v ∧ v ≤ 2)
  case neg =>
    have hs := hI.1.l
    have hc := hI.2.2.2.1
    have hm := hI.2.2.1
    obtain ⟨h7, a7, a8⟩ := hI.2.2.2.2.1.2.2.2.1
    have hn := hI.nM
    have n2 := hn.2
    refine ⟨vI (-1), s, s, c, c, n, ?_, ?_, by omega, hI⟩
    · rw [c141 (hg := gC29 hs c)]
      by_cases w1 : g < 0
      · rw [if_pos w1, c141_21]
      · rw [if_neg w1]
        by_cases w2 : 99 < g
        · rw [if_pos w2, c141_21]
        · rw [if_neg w2]
          by_cases w3 : q < 1
          · rw [if_pos w3, c141_21]
          · rw [if_neg w3]
            by_cases w4 : 100 < q
            · rw [if_pos w4, c141_21]
            · rw [if_neg w4]
              by_cases w5 : v < 0
              · rw [if_pos w5, c141_21]
              · rw [if_neg w5]
                by_cases w6 : 2 < v
                · rw [if_pos w6, c141_21]
                · rw [if_neg w6]
                  rw [k152_n _ hI (fun w => hkm ⟨w, ⟨by omega, by omega⟩, ⟨by omega, by omega⟩, ⟨by omega, by omega⟩⟩)]
                  repeat (first | rw [bnd_s] | rw [tI_m] | rw [tL_m] | rw [tA_m] | rw [tV_m] | rw [if_pos (show (0 : Int) = 0 from rfl)] | rw [c141_21])
    · rw [c266 (hg := gC142 hs c)]
      repeat (first | rw [bnd_s] | rw [tI_m] | rw [tL_m] | rw [tA_m] | rw [tV_m] | rw [m221 _ hI] | rw [if_b0])
      by_cases gk : 0 ≤ k ∧ k < c 143 1
      · rw [inR_t (by omega), cond_t]
        repeat (first | rw [bnd_s] | rw [tI_m] | rw [tL_m] | rw [tA_m] | rw [tV_m] | rw [m173 _ hs hm hn] | rw [if_b0])
        by_cases gm : 0 ≤ m ∧ m < c 143 0
        · rw [inR_t (by omega), cond_t]
          repeat (first | rw [bnd_s] | rw [tI_m] | rw [tL_m] | rw [tA_m] | rw [tV_m] | rw [m172] | rw [if_b0])
          by_cases e0 : 0 ≤ g ∧ g ≤ 99
          · rw [inR_t e0, cond_t]
            repeat (first | rw [bnd_s] | rw [tI_m] | rw [tL_m] | rw [tA_m] | rw [tV_m] | rw [m172] | rw [if_b0])
            by_cases e1 : 1 ≤ q ∧ q ≤ 100
            · rw [inR_t e1, cond_t]
              repeat (first | rw [bnd_s] | rw [tI_m] | rw [tL_m] | rw [tA_m] | rw [tV_m] | rw [m172] | rw [if_b0])
              rw [inR_f (fun w => hkm ⟨⟨gk, gm⟩, e0, e1, w⟩), cond_f, c266_23]
            · rw [inR_f e1, cond_f, c266_23]
          · rw [inR_f e0, cond_f, c266_23]
        · rw [inR_f (by omega), cond_f, c266_23]
      · rw [inR_f (by omega), cond_f, c266_23]
  obtain ⟨hkm, hg, hq, hv⟩ := hkm
  obtain ⟨s1, c1, n1, r1, hn1, hI1, e3, e5, hA, hP⟩ := k152 994 hI hkm.1 hkm.2
  have hs := hI1.1.l
  have hc := hI1.2.2.2.1
  have hsg := hI.1.l
  rw [← e3] at hkm
  obtain ⟨⟨k0, k1⟩, m0, m1⟩ := hkm
  obtain ⟨M1, M2, q2, fS, E3, E5, hm2, hM2, ha2, kk, hco, q4⟩ := both hI1 k0 k1 m0 m1
  have hM := hI1.mok m m0 m1
  have p8 := hP.2.2.2.1
  have Inv2 : Inv s1 (mSet c1 k.toNat) n1 := Inv_M hI1 fS (by decide)
  obtain ⟨c2, x1, xf, x2⟩ := k60 993 hI1 m0 m1 ha2 hP hg.1 hg.2 hq.1 hq.2
  have hI2 := xf.inv hI1
  have F3 : c2 143 = c1 143 := funext fun i => xf _ _ (by omega) (by omega) (by omega)
  have F5 : c2 145 = c1 145 := funext fun i => xf _ _ (by omega) (by omega) (by omega)
  have hc2 := hI2.2.2.2.1
  obtain ⟨M1, M2, q2, fS, E3, E5, hm2, hM2, -, -, -, q4⟩ := both hI2 k0 (by rw [F3]; exact k1) m0 (by rw [F3]; exact m1)
  have P2 := MP_set hI2 k0 (by rw [F3]; exact k1) m0 (by rw [F3]; exact m1)
  have rb := r3_b hM2.2.1.2
  obtain ⟨c4, wf, w1⟩ := m266_34 993 hs P2 hg.1 hg.2 hq.1 hq.2 (some (vI k)) v (r3 (mSet c2 k.toNat 143 (20 + m).toNat)).toNat 0 (mSet c2 k.toNat) none none none (by omega) (by omega) (Fm.rf _ _ _)
  have eT : (if asN (mSet c2 k.toNat 145 (800 * k.toNat + 3)) (mSet c2 k.toNat 143 (20 + m).toNat) (mSet c2 k.toNat 143 (24 + m).toNat) = 0 then none else fdU (fR (mSet c2 k.toNat) k.toNat m g q) (r3 (mSet c2 k.toNat 143 (20 + m).toNat)).toNat 0) = alT c1 k.toNat m g q := alT_of (E3.trans F3) (E5.trans F5) _ _ _ _
  rw [eT] at w1
  rw [E3, E5] at w1
  have F4 : Fm [152, 153, 154] [25, 26, 27, 28] c2 c4 := (fS.mono (by decide) (by decide)).tr (wf.mono (by decide) (by decide))
  have hI3 := Inv_M hI2 F4 (by decide)
  have z : ∃ T, T = (alT c1 k.toNat m g q).getD (-1, -1, -1) := ⟨_, rfl⟩
  obtain ⟨T, zT⟩ := z
  rw [← zT] at w1 x2
  have X11 : c2 131 11 = T.1 := congrArg (fun t => t.1) x2
  have X16 : c2 131 16 = T.2.1 := congrArg (fun t => t.2.1) x2
  have X13 : c2 131 13 = T.2.2 := congrArg (fun t => t.2.2) x2
  refine ⟨vI (pk3 v T), s1, s1, c2, c4, n1, ?_, ?_, by omega, hI3⟩
  · rw [c141 (hg := gC29 hsg c)]
    repeat (first | rw [bnd_s] | rw [tI_m] | rw [tL_m] | rw [tA_m] | rw [tV_m] | rw [if_neg (show ¬ g < 0 by omega)] | rw [if_neg (show ¬ 99 < g by omega)] | rw [if_neg (show ¬ q < 1 by omega)] | rw [if_neg (show ¬ 100 < q by omega)] | rw [if_neg (show ¬ v < 0 by omega)] | rw [if_neg (show ¬ 2 < v by omega)] | rw [r1] | rw [if_neg (show ¬ (1 : Int) = 0 by decide)] | rw [fC29 hs _ (by decide)] | rw [pC29 hs _ _ (by decide)] | rw [CS_29_3 hc] | rw [x1])
    unfold pk3
    by_cases v0 : v = 0
    · rw [if_pos v0, if_pos v0]
      repeat (first | rw [bnd_s] | rw [tI_m] | rw [tL_m] | rw [tA_m] | rw [tV_m] | rw [fC29 hs _ (by decide)] | rw [pC29 hs _ _ (by decide)] | rw [fC131 hs _ (by decide)] | rw [pC131 hs _ _ (by decide)] | rw [CS_29_3 hc2] | rw [X11])
    · rw [if_neg v0, if_neg v0]
      by_cases v1 : v = 1
      · rw [if_pos v1, if_pos v1]
        repeat (first | rw [bnd_s] | rw [tI_m] | rw [tL_m] | rw [tA_m] | rw [tV_m] | rw [fC29 hs _ (by decide)] | rw [pC29 hs _ _ (by decide)] | rw [fC131 hs _ (by decide)] | rw [pC131 hs _ _ (by decide)] | rw [CS_29_3 hc2] | rw [X16])
      · rw [if_neg v1, if_neg v1]
        repeat (first | rw [bnd_s] | rw [tI_m] | rw [tL_m] | rw [tA_m] | rw [tV_m] | rw [fC29 hs _ (by decide)] | rw [pC29 hs _ _ (by decide)] | rw [fC131 hs _ (by decide)] | rw [pC131 hs _ _ (by decide)] | rw [CS_29_3 hc2] | rw [X13])
  · rw [c266 (hg := gC142 hs c2)]
    repeat (first | rw [bnd_s] | rw [tI_m] | rw [tL_m] | rw [tA_m] | rw [tV_m] | rw [M1] | rw [M2] | rw [if_b0] | rw [cond_t] | rw [m172] | rw [inR_t (show 0 ≤ g ∧ g ≤ 99 from hg)] | rw [inR_t (show 1 ≤ q ∧ q ≤ 100 from hq)] | rw [inR_t (show 0 ≤ v ∧ v ≤ 2 from hv)] | rw [q2] | rw [q4])
    exact w1
