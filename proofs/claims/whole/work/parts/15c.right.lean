/-! right -/
def itU {α : Type} (F : Int → α → α) : Nat → Int → α → α
  | 0, _, q => q
  | n + 1, j, q => itU F n (j + 1) (F j q)
theorem itU_cg {α : Type} {F G : Int → α → α} : ∀ (n : Nat) (j : Int) (q : α), (∀ i, j ≤ i → i < j + n → F i = G i) → itU F n j q = itU G n j q
  | 0, _, _, _ => rfl
  | n + 1, j, q, h => by
    simp only [itU]
    rw [h j (by omega) (by omega)]
    exact itU_cg n (j + 1) _ (fun i h1 h2 => h i (by omega) (by omega))
def rfB (g : Int → Bool) : Nat → Int → Int → Int
  | 0, _, a => a
  | n + 1, w, a => rfB g n (w + 1) (if g w then a else ior a (ishl 1 w))
theorem rfA_B (x o : Int) : ∀ (n : Nat) (w a : Int), rfA x o n w a = rfB (fun w => bt x (swO o w)) n w a
  | 0, _, _ => rfl
  | n + 1, w, a => by simp only [rfA, rfB]; rw [rfA_B x o n]
theorem rfB_cg {g g' : Int → Bool} : ∀ (n : Nat) (w a : Int), (∀ j, w ≤ j → j < w + n → g j = g' j) → rfB g n w a = rfB g' n w a
  | 0, _, _, _ => rfl
  | n + 1, w, a, h => by
    simp only [rfB]
    rw [h w (by omega) (by omega)]
    exact rfB_cg n (w + 1) _ (fun i h1 h2 => h i (by omega) (by omega))
def G6 (b0 b1 b2 b3 b4 b5 : Bool) : Int → Bool := fun w => if w = 0 then b0 else if w = 1 then b1 else if w = 2 then b2 else if w = 3 then b3 else if w = 4 then b4 else b5
def cnB (g : Int → Bool) (w : Int) : Int := sumU (fun v => b2i (!g (drS w v))) w.toNat 0
def fsB (g : Int → Bool) (w : Int) : Int := (fnd (fun v => if g (drS w v) then none else some (drS w v)) w.toNat 0).getD (-1)
def rfC (w : Int) (g : Int → Bool) : Bool := decide (0 ≤ iand (rfB g 6 0 0) (drw w)) && decide (iand (rfB g 6 0 0) (drw w) < 64) && (pop (iand (rfB g 6 0 0) (drw w)) == cnB g w) && (decide (iand (rfB g 6 0 0) (drw w) = 0) || (ntz (iand (rfB g 6 0 0) (drw w)) == fsB g w && decide (0 < cnB g w)))
theorem rfC_ok : ∀ b0 b1 b2 b3 b4 b5 : Bool, (rfC 1 (G6 b0 b1 b2 b3 b4 b5) && rfC 2 (G6 b0 b1 b2 b3 b4 b5) && rfC 3 (G6 b0 b1 b2 b3 b4 b5) && rfC 6 (G6 b0 b1 b2 b3 b4 b5)) = true := by decide +kernel
theorem rfC_cg {g g' : Int → Bool} (h : ∀ j, 0 ≤ j → j < 6 → g j = g' j) {w : Int} (hw : w = 1 ∨ w = 2 ∨ w = 3 ∨ w = 6) : rfC w g = rfC w g' := by
  have e1 : rfB g 6 0 0 = rfB g' 6 0 0 := rfB_cg 6 0 0 (fun j h0 h1 => h j h0 (by omega))
  have e2 : cnB g w = cnB g' w := sumU_cg _ _ (fun v h0 h1 => by have := drS_b hw h0 (by omega); rw [h _ this.1 this.2])
  have e3 : fsB g w = fsB g' w := by unfold fsB; rw [fnd_cg _ _ (fun v h0 h1 => by have := drS_b hw h0 (by omega); rw [h _ this.1 this.2])]
  unfold rfC; rw [e1, e2, e3]
theorem rfC_all (g : Int → Bool) {w : Int} (hw : w = 1 ∨ w = 2 ∨ w = 3 ∨ w = 6) : rfC w g = true := by
  rw [rfC_cg (g' := G6 (g 0) (g 1) (g 2) (g 3) (g 4) (g 5)) (fun j h0 h1 => by
    have : j = 0 ∨ j = 1 ∨ j = 2 ∨ j = 3 ∨ j = 4 ∨ j = 5 := by omega
    rcases this with e | e | e | e | e | e <;> subst e <;> rfl) hw]
  have := rfC_ok (g 0) (g 1) (g 2) (g 3) (g 4) (g 5)
  simp only [Bool.and_eq_true] at this
  rcases hw with e | e | e | e <;> subst e
  · exact this.1.1.1
  · exact this.1.1.2
  · exact this.1.2
  · exact this.2
theorem rf_ok (g : Int → Bool) {w : Int} (hw : w = 1 ∨ w = 2 ∨ w = 3 ∨ w = 6) : (0 ≤ iand (rfB g 6 0 0) (drw w) ∧ iand (rfB g 6 0 0) (drw w) < 64) ∧ pop (iand (rfB g 6 0 0) (drw w)) = cnB g w ∧ (iand (rfB g 6 0 0) (drw w) = 0 → cnB g w = 0) ∧ (iand (rfB g 6 0 0) (drw w) ≠ 0 → ntz (iand (rfB g 6 0 0) (drw w)) = fsB g w ∧ 0 < cnB g w) := by
  have := rfC_all g hw
  unfold rfC at this
  simp only [Bool.and_eq_true, Bool.or_eq_true, decide_eq_true_eq, beq_iff_eq] at this
  obtain ⟨⟨⟨a, b⟩, p⟩, q⟩ := this
  refine ⟨⟨a, b⟩, p, fun z => ?_, fun z => q.resolve_left z⟩
  rw [← p, z]; decide
theorem cnB_b (g : Int → Bool) {w : Int} (hw : w = 1 ∨ w = 2 ∨ w = 3 ∨ w = 6) : 0 ≤ cnB g w ∧ cnB g w ≤ 6 := by
  have := sumU_b (B := 1) (fun v => b2i (!g (drS w v))) w.toNat 0 (fun i _ _ => b2i_b _)
  unfold cnB; omega
def cnR (b : Nat → Nat → Int) (k : Nat) (m r i : Int) : Int := cnB (fun v => belR b k m v i r) (b 145 (800 * k + 1))
def fsR (b : Nat → Nat → Int) (k : Nat) (m r i : Int) : Int := fsB (fun v => belR b k m v i r) (b 145 (800 * k + 1))
def stR (b : Nat → Nat → Int) (k : Nat) (m r a i : Int) (q : Int × Int × Int × Int) : Int × Int × Int × Int := (q.1 + cnR b k m r i, if q.1 = 0 ∧ 0 < cnR b k m r i then (a, i, fsR b k m r i) else q.2)
theorem cnR_of {b c : Nat → Nat → Int} (e3 : c 143 = b 143) (e5 : c 145 = b 145) (k : Nat) (m r i : Int) : cnR c k m r i = cnR b k m r i := by
  unfold cnR; rw [e5, show (fun v => belR c k m v i r) = fun v => belR b k m v i r from funext fun v => belR_of e3 e5 k m v i r]
theorem fsR_of {b c : Nat → Nat → Int} (e3 : c 143 = b 143) (e5 : c 145 = b 145) (k : Nat) (m r i : Int) : fsR c k m r i = fsR b k m r i := by
  unfold fsR; rw [e5, show (fun v => belR c k m v i r) = fun v => belR b k m v i r from funext fun v => belR_of e3 e5 k m v i r]
theorem stR_of {b c : Nat → Nat → Int} (e3 : c 143 = b 143) (e5 : c 145 = b 145) (k : Nat) (m r a i : Int) : stR c k m r a i = stR b k m r a i := by
  funext q; unfold stR; rw [cnR_of e3 e5, fsR_of e3 e5]
/-- the refusing swaps of an asking are those that aren't believed -/
theorem rfM {c : Nat → Nat → Int} {k : Nat} {m i r : Int} (hP : PlayR c k m) (hw : c 145 (800 * k + 1) = 1 ∨ c 145 (800 * k + 1) = 2 ∨ c 145 (800 * k + 1) = 3 ∨ c 145 (800 * k + 1) = 6) (h0 : 0 ≤ i) (h1 : i < asN (c 145 (800 * k + 3)) (c 143 (20 + m).toNat) (c 143 (24 + m).toNat)) : (fun v => bt (c 134 i.toNat) (swO (pnt (c 143 (20 + m).toNat) r (asX c m (c 145 (800 * k + 3)) i) * 3 + pnt (c 143 (20 + m).toNat) r (asY c m (c 145 (800 * k + 3)) i)) v)) = (fun v => bt (c 134 i.toNat) (3 * swp v (pnt (c 143 (20 + m).toNat) r (asX c m (c 145 (800 * k + 3)) i)) + swp v (pnt (c 143 (20 + m).toNat) r (asY c m (c 145 (800 * k + 3)) i)))) := by
  funext v
  have p1 := pnt_b (c 143 (20 + m).toNat) r (asX c m (c 145 (800 * k + 3)) i)
  have p2 := pnt_b (c 143 (20 + m).toNat) r (asY c m (c 145 (800 * k + 3)) i)
  generalize pnt (c 143 (20 + m).toNat) r (asX c m (c 145 (800 * k + 3)) i) = P at *
  generalize pnt (c 143 (20 + m).toNat) r (asY c m (c 145 (800 * k + 3)) i) = Q at *
  unfold swO
  rw [show (P * 3 + Q) / 3 = P by omega, show (P * 3 + Q) % 3 = Q by omega, Int.mul_comm]
theorem rfN {c : Nat → Nat → Int} {k : Nat} {m i r : Int} (hP : PlayR c k m) (hw : c 145 (800 * k + 1) = 1 ∨ c 145 (800 * k + 1) = 2 ∨ c 145 (800 * k + 1) = 3 ∨ c 145 (800 * k + 1) = 6) (h0 : 0 ≤ i) (h1 : i < asN (c 145 (800 * k + 3)) (c 143 (20 + m).toNat) (c 143 (24 + m).toNat)) {x : Int} (hx : x = iand (rfA (c 134 i.toNat) (pnt (c 143 (20 + m).toNat) r (asX c m (c 145 (800 * k + 3)) i) * 3 + pnt (c 143 (20 + m).toNat) r (asY c m (c 145 (800 * k + 3)) i)) 6 0 0) (drw (c 145 (800 * k + 1)))) : (0 ≤ x ∧ x < 64) ∧ pop x = cnR c k m r i ∧ (x = 0 → cnR c k m r i = 0) ∧ (x ≠ 0 → ntz x = fsR c k m r i ∧ 0 < cnR c k m r i) := by
  rw [rfA_B, rfM hP hw h0 h1, rfB_cg (g' := fun v => belR c k m v i r) 6 0 0 (fun v v0 v1 => by
    have s1 := swp_bd v0 (show v < 6 by omega) (pnt_b (c 143 (20 + m).toNat) r (asX c m (c 145 (800 * k + 3)) i)).1 (pnt_b (c 143 (20 + m).toNat) r (asX c m (c 145 (800 * k + 3)) i)).2
    have s2 := swp_bd v0 (show v < 6 by omega) (pnt_b (c 143 (20 + m).toNat) r (asY c m (c 145 (800 * k + 3)) i)).1 (pnt_b (c 143 (20 + m).toNat) r (asY c m (c 145 (800 * k + 3)) i)).2
    exact (hP.2.2.2.2 i h0 h1).2.2.2 _ _ s1.1 s1.2 s2.1 s2.2)] at hx
  subst hx
  exact rf_ok _ hw
def QC (c : Nat → Nat → Int) (q : Int × Int × Int × Int) : Prop := c 131 12 = q.2.1 ∧ c 131 13 = q.2.2.1 ∧ c 131 15 = q.2.2.2
section
variable {s : List (Nat × Nat)} {b : Nat → Nat → Int}
theorem k49_20 (d : Nat) {n0 : Nat} (hI : Inv s b n0) {k : Nat} {m : Int} (m0 : 0 ≤ m) (m1 : m < b 143 0) (ha2 : 0 ≤ b 145 (800 * k + 3) ∧ b 145 (800 * k + 3) ≤ 2) (hP : PlayR b k m) (hw : b 145 (800 * k + 1) = 1 ∨ b 145 (800 * k + 1) = 2 ∨ b 145 (800 * k + 1) = 3 ∨ b 145 (800 * k + 1) = 6) (a : Int) {r : Int} (r0 : 0 ≤ r) (r1 : r < r3 (b 143 (20 + m).toNat)) : ∀ (n : Nat) (i : Int) (q : Int × Int × Int × Int) (c : Nat → Nat → Int), PlF b c → rfD b c (9 * (asN (b 145 (800 * k + 3)) (b 143 (20 + m).toNat) (b 143 (24 + m).toNat))) → QC c q → 0 ≤ i → i + n = asN (b 145 (800 * k + 3)) (b 143 (20 + m).toNat) (b 143 (24 + m).toNat) → 0 ≤ q.1 → q.1 + 6 * n < 2147483648 → ∀ o5, ∃ c' o5', Rr (Cd (d + 2)) 49 20 [some (vA 131), some (vI q.1), some (vI a), some (vI (pkR r (b 143 (20 + m).toNat))), some (vI i), o5] [] (s, c) = Rr (Cd (d + 2)) 49 20 [some (vA 131), some (vI (itU (stR b k m r a) n i q).1), some (vI a), some (vI (pkR r (b 143 (20 + m).toNat))), some (vI (asN (b 145 (800 * k + 3)) (b 143 (20 + m).toNat) (b 143 (24 + m).toNat))), o5'] [] (s, c') ∧ PlF b c' ∧ rfD b c' (9 * (asN (b 145 (800 * k + 3)) (b 143 (20 + m).toNat) (b 143 (24 + m).toNat))) ∧ QC c' (itU (stR b k m r a) n i q) ∧ 0 ≤ (itU (stR b k m r a) n i q).1 ∧ (itU (stR b k m r a) n i q).1 ≤ q.1 + 6 * n
  | 0, i, q, c, hF, hD, hQ, h0, h, g0, g1, o5 => ⟨c, o5, by simp only [itU]; rw [show i = asN (b 145 (800 * k + 3)) (b 143 (20 + m).toNat) (b 143 (24 + m).toNat) by omega], hF, hD, hQ, g0, by simp only [itU]; omega⟩
  | n + 1, i, q, c, hF, hD, hQ, h0, h, g0, g1, o5 => by
    have hI1 := hF.inv hI
    have hs := hI1.1.l
    have hc := hI1.2.2.2.1
    have hM := hI.mok m m0 m1
    have aN := asN_b (a := b 145 (800 * k + 3)) hM.2.1.1 hM.2.1.2 hM.2.2.1.1 hM.2.2.1.2
    have hi : i < asN (b 145 (800 * k + 3)) (b 143 (20 + m).toNat) (b 143 (24 + m).toNat) := by omega
    have p8 : c 131 8 = asN (b 145 (800 * k + 3)) (b 143 (20 + m).toNat) (b 143 (24 + m).toNat) := (hF _ _ (by omega) (by omega) (by omega)).trans hP.2.2.2.1
    have gi := hP.2.2.2.2 i h0 hi
    have e2 : c 132 i.toNat = asX b m (b 145 (800 * k + 3)) i := (hF _ _ (by omega) (by omega) (by omega)).trans gi.1
    have e3 : c 133 i.toNat = asY b m (b 145 (800 * k + 3)) i := (hF _ _ (by omega) (by omega) (by omega)).trans gi.2.1
    have bx := asX_b hM ha2 h0 hi
    have n7 := hM.2.1.2
    have pk := pk_ok hM.2.1.1 hM.2.1.2 r0 r1
    have e0 : opn (pkR r (b 143 (20 + m).toNat)) (asX b m (b 145 (800 * k + 3)) i) (asY b m (b 145 (800 * k + 3)) i) = pnt (b 143 (20 + m).toNat) r (asX b m (b 145 (800 * k + 3)) i) * 3 + pnt (b 143 (20 + m).toNat) r (asY b m (b 145 (800 * k + 3)) i) := by
      unfold opn; rw [pk.2 _ bx.1.1 bx.1.2, pk.2 _ bx.2.1 bx.2.2]
    have q1 := k166 d (s, c) pk.1.1 (by omega) bx.1.1 (by omega) bx.2.1 (by omega)
    rw [e0] at q1
    have p1 := pnt_b (b 143 (20 + m).toNat) r (asX b m (b 145 (800 * k + 3)) i)
    have p2 := pnt_b (b 143 (20 + m).toNat) r (asY b m (b 145 (800 * k + 3)) i)
    have zx : ∃ x, x = iand (rfA (b 134 i.toNat) (pnt (b 143 (20 + m).toNat) r (asX b m (b 145 (800 * k + 3)) i) * 3 + pnt (b 143 (20 + m).toNat) r (asY b m (b 145 (800 * k + 3)) i)) 6 0 0) (drw (b 145 (800 * k + 1))) := ⟨_, rfl⟩
    obtain ⟨x, zx⟩ := zx
    obtain ⟨xb, xp, x0, xn⟩ := rfN hP hw h0 hi zx
    have cb := cnB_b (fun v => belR b k m v i r) hw
    have cb : 0 ≤ cnR b k m r i ∧ cnR b k m r i ≤ 6 := cb
    generalize pnt (b 143 (20 + m).toNat) r (asX b m (b 145 (800 * k + 3)) i) = P at *
    generalize pnt (b 143 (20 + m).toNat) r (asY b m (b 145 (800 * k + 3)) i) = Q at *
    have ex : c 136 (i * 9 + (P * 3 + Q)).toNat = x := by
      rw [hD _ (by omega) (by omega), show (i * 9 + (P * 3 + Q)) / 9 = i by omega, show (i * 9 + (P * 3 + Q)) % 9 = P * 3 + Q by omega, hP.2.1, zx]
    have j4 := j284 (d + 1) (x := x) (s, c) xb.1 (by omega)
    simp only [itU]
    have st1 : (stR b k m r a i q).1 = q.1 + cnR b k m r i := rfl
    rw [c49_20]
    repeat (first | rw [bnd_s] | rw [tI_m] | rw [tL_m] | rw [tA_m] | rw [tV_m] | rw [fC131 hs _ (by decide)] | rw [pC131 hs _ _ (by decide)] | rw [p8] | rw [if_pos hi] | rw [CS_131_0 hc] | rw [CS_131_1 hc] | rw [CS_131_4 hc] | rw [aC132 hs _ h0 (by omega)] | rw [aC133 hs _ h0 (by omega)] | rw [e2] | rw [e3] | rw [q1] | rw [w32_id (z := i * 9) (by omega) (by omega)] | rw [w32_id (z := i * 9 + (P * 3 + Q)) (by omega) (by omega)] | rw [aC136 hs _ (show 0 ≤ i * 9 + (P * 3 + Q) by omega) (by omega)] | rw [ex])
    by_cases z : x = 0
    · have z2 := x0 z
      rw [if_pos z, c49_56]
      repeat (first | rw [bnd_s] | rw [tI_m] | rw [tL_m] | rw [tA_m] | rw [tV_m] | rw [j4] | rw [xp] | rw [w32_id (z := q.1 + cnR b k m r i) (by omega) (by omega)] | rw [w32_id (z := i + 1) (by omega) (by omega)])
      have hq2 : QC c (stR b k m r a i q) := by unfold stR; rw [if_neg (fun w => by omega)]; exact hQ
      obtain ⟨c', o5', y1, y2, y3, y4, y5, y6⟩ := k49_20 d hI m0 m1 ha2 hP hw a r0 r1 n (i + 1) (stR b k m r a i q) c hF hD hq2 (by omega) (by omega) (by omega) (by omega) (some (vI x))
      exact ⟨c', o5', by rw [← y1, st1], y2, y3, y4, y5, by omega⟩
    · obtain ⟨z2, z3⟩ := xn z
      rw [if_neg z]
      by_cases g : q.1 = 0
      · rw [if_pos g]
        have j3 := fun (hp : HP) => j283 (d + 1) (x := x) hp (by omega) xb.2
        have j4' := fun (hp : HP) => j284 (d + 1) (x := x) hp xb.1 (by omega)
        repeat (first | rw [bnd_s] | rw [tI_m] | rw [tL_m] | rw [tA_m] | rw [tV_m] | rw [fC131 hs _ (by decide)] | rw [pC131 hs _ _ (by decide)] | rw [j3] | rw [c49_56] | rw [j4'] | rw [xp] | rw [w32_id (z := q.1 + cnR b k m r i) (by omega) (by omega)] | rw [w32_id (z := i + 1) (by omega) (by omega)])
        have hF2 : PlF b (u2 (u2 (u2 c 131 12 a) 131 13 i) 131 15 (ntz x)) := ((hF.u (by omega) _).u (by omega) _).u (by omega) _
        have hD2 : rfD b (u2 (u2 (u2 c 131 12 a) 131 13 i) 131 15 (ntz x)) (9 * (asN (b 145 (800 * k + 3)) (b 143 (20 + m).toNat) (b 143 (24 + m).toNat))) := fun j j0 j1 => by rw [u2_n (by omega), u2_n (by omega), u2_n (by omega)]; exact hD j j0 j1
        have hq2 : QC (u2 (u2 (u2 c 131 12 a) 131 13 i) 131 15 (ntz x)) (stR b k m r a i q) := by
          unfold stR; rw [if_pos ⟨g, z3⟩]
          exact ⟨by rw [u2_n (by omega), u2_n (by omega), u2_e], by rw [u2_n (by omega), u2_e], by rw [u2_e, z2]⟩
        obtain ⟨c', o5', y1, y2, y3, y4, y5, y6⟩ := k49_20 d hI m0 m1 ha2 hP hw a r0 r1 n (i + 1) (stR b k m r a i q) _ hF2 hD2 hq2 (by omega) (by omega) (by omega) (by omega) (some (vI x))
        exact ⟨c', o5', by rw [← y1, st1], y2, y3, y4, y5, by omega⟩
      · rw [if_neg g, c49_56]
        repeat (first | rw [bnd_s] | rw [tI_m] | rw [tL_m] | rw [tA_m] | rw [tV_m] | rw [j4] | rw [xp] | rw [w32_id (z := q.1 + cnR b k m r i) (by omega) (by omega)] | rw [w32_id (z := i + 1) (by omega) (by omega)])
        have hq2 : QC c (stR b k m r a i q) := by unfold stR; rw [if_neg (fun w => g w.1)]; exact hQ
        obtain ⟨c', o5', y1, y2, y3, y4, y5, y6⟩ := k49_20 d hI m0 m1 ha2 hP hw a r0 r1 n (i + 1) (stR b k m r a i q) c hF hD hq2 (by omega) (by omega) (by omega) (by omega) (some (vI x))
        exact ⟨c', o5', by rw [← y1, st1], y2, y3, y4, y5, by omega⟩
/-- what right counts and finds -/
def rgI (b : Nat → Nat → Int) (k : Nat) (m : Int) (a : Int) (q : Int × Int × Int × Int) : Int × Int × Int × Int := itU (stR b k m ((ansL b m).getD a.toNat 0) a) (asN (b 145 (800 * k + 3)) (b 143 (20 + m).toNat) (b 143 (24 + m).toNat)).toNat 0 q
theorem k49_8 (d : Nat) {n0 : Nat} (hI : Inv s b n0) {k : Nat} {m : Int} (m0 : 0 ≤ m) (m1 : m < b 143 0) (ha2 : 0 ≤ b 145 (800 * k + 3) ∧ b 145 (800 * k + 3) ≤ 2) (hP : PlayR b k m) (hA : AnsC s b (40 + 5 * m.toNat) (b 143 (20 + m).toNat) (ansL b m)) (hw : b 145 (800 * k + 1) = 1 ∨ b 145 (800 * k + 1) = 2 ∨ b 145 (800 * k + 1) = 3 ∨ b 145 (800 * k + 1) = 6) : ∀ (n : Nat) (a : Int) (q : Int × Int × Int × Int) (c : Nat → Nat → Int), PlF b c → rfD b c (9 * (asN (b 145 (800 * k + 3)) (b 143 (20 + m).toNat) (b 143 (24 + m).toNat))) → QC c q → 0 ≤ a → a + n = (ansL b m).length → 0 ≤ q.1 → q.1 + 126 * n < 2147483648 → ∀ o3 o4 o5, ∃ c', Rr (Cd (d + 2)) 49 8 [some (vA 131), some (vI q.1), some (vI a), o3, o4, o5] [] (s, c) = some ([vI (itU (rgI b k m) n a q).1], (s, c')) ∧ PlF b c' ∧ QC c' (itU (rgI b k m) n a q)
  | 0, a, q, c, hF, hD, hQ, h0, h, g0, g1, o3, o4, o5 => by
    have hI1 := hF.inv hI
    have hs := hI1.1.l
    have hc := hI1.2.2.2.1
    have n4 := hI.nM.2
    have hch := chN hs hc (m := m.toNat) (by omega)
    have p5 := (PlayR_of hP hF).1
    have p8 : c (40 + 5 * m.toNat) 8 = (ansL b m).length := (hF _ _ (by omega) (by omega) (by omega)).trans hA.2.1
    refine ⟨c, ?_, hF, hQ⟩
    rw [c49_8]
    repeat (first | rw [bnd_s] | rw [tI_m] | rw [tL_m] | rw [tA_m] | rw [tV_m] | rw [fC131 hs _ (by decide)] | rw [pC131 hs _ _ (by decide)] | rw [p5] | rw [gF_g hch.1.1 _ (by decide)] | rw [p8] | rw [if_neg (show ¬ a < ((ansL b m).length : Int) by omega)])
    rfl
  | n + 1, a, q, c, hF, hD, hQ, h0, h, g0, g1, o3, o4, o5 => by
    have hI1 := hF.inv hI
    have hs := hI1.1.l
    have hc := hI1.2.2.2.1
    have n4 := hI.nM.2
    have hM := hI.mok m m0 m1
    have aN := asN_b (a := b 145 (800 * k + 3)) hM.2.1.1 hM.2.1.2 hM.2.2.1.1 hM.2.2.1.2
    have hch := chN hs hc (m := m.toNat) (by omega)
    have p5 := (PlayR_of hP hF).1
    have p8 : c (40 + 5 * m.toNat) 8 = (ansL b m).length := (hF _ _ (by omega) (by omega) (by omega)).trans hA.2.1
    have ll := ansL_len hM
    have al := ansL_at hM (i := a.toNat) (by omega)
    have hA1 : AnsC s c (40 + 5 * m.toNat) (b 143 (20 + m).toNat) (ansL b m) := AnsC_of hA ⟨[], by simp⟩ (fun k => hF _ _ (by omega) (by omega) (by omega)) (fun r hr _ => ⟨funext fun k => hF _ _ (by omega) (by omega) (by omega), funext fun k => hF _ _ (by omega) (by omega) (by omega)⟩)
    have q15 := k15 (d + 1) hch hA1 (by omega) a
    rw [if_pos ⟨h0, by omega⟩] at q15
    obtain ⟨c1, o5', y1, y2, y3, y4, y5, y6⟩ := k49_20 d hI m0 m1 ha2 hP hw a al.1 al.2.1 (asN (b 145 (800 * k + 3)) (b 143 (20 + m).toNat) (b 143 (24 + m).toNat)).toNat 0 q c hF hD hQ (by omega) (by omega) g0 (by omega) o5
    obtain ⟨c2, z1, z2, z3⟩ := k49_8 d hI m0 m1 ha2 hP hA hw n (a + 1) (rgI b k m a q) c1 y2 y3 y4 (by omega) (by omega) y5 (by unfold rgI; omega) (some (vI (pkR ((ansL b m).getD a.toNat 0) (b 143 (20 + m).toNat)))) (some (vI (asN (b 145 (800 * k + 3)) (b 143 (20 + m).toNat) (b 143 (24 + m).toNat)))) o5'
    have p8' : c1 131 8 = asN (b 145 (800 * k + 3)) (b 143 (20 + m).toNat) (b 143 (24 + m).toNat) := (y2 _ _ (by omega) (by omega) (by omega)).trans hP.2.2.2.1
    refine ⟨c2, ?_, z2, z3⟩
    rw [c49_8]
    repeat (first | rw [bnd_s] | rw [tI_m] | rw [tL_m] | rw [tA_m] | rw [tV_m] | rw [fC131 hs _ (by decide)] | rw [pC131 hs _ _ (by decide)] | rw [p5] | rw [gF_g hch.1.1 _ (by decide)] | rw [p8] | rw [if_pos (show a < ((ansL b m).length : Int) by omega)] | rw [q15] | rw [y1])
    rw [c49_20]
    repeat (first | rw [bnd_s] | rw [tI_m] | rw [tL_m] | rw [tA_m] | rw [tV_m] | rw [fC131 hs _ (by decide)] | rw [pC131 hs _ _ (by decide)] | rw [p8'] | rw [if_neg (show ¬ asN (b 145 (800 * k + 3)) (b 143 (20 + m).toNat) (b 143 (24 + m).toNat) < asN (b 145 (800 * k + 3)) (b 143 (20 + m).toNat) (b 143 (24 + m).toNat) by omega)] | rw [w32_id (z := a + 1) (by omega) (by omega)])
    exact z1
def rgT (b : Nat → Nat → Int) (k : Nat) (m : Int) : Int × Int × Int × Int := itU (rgI b k m) (ansL b m).length 0 (0, -1, -1, -1)
theorem k49 (d : Nat) {n0 : Nat} (hI : Inv s b n0) {k : Nat} {m : Int} (m0 : 0 ≤ m) (m1 : m < b 143 0) (ha2 : 0 ≤ b 145 (800 * k + 3) ∧ b 145 (800 * k + 3) ≤ 2) (hP : PlayR b k m) (hA : AnsC s b (40 + 5 * m.toNat) (b 143 (20 + m).toNat) (ansL b m)) (hw : b 145 (800 * k + 1) = 1 ∨ b 145 (800 * k + 1) = 2 ∨ b 145 (800 * k + 1) = 3 ∨ b 145 (800 * k + 1) = 6) : ∃ c', Cd (d + 4) 49 [vA 131] (s, b) = some ([vI (rgT b k m).1], (s, c')) ∧ PlF b c' ∧ QC c' (rgT b k m) := by
  have hs := hI.1.l
  have hM := hI.mok m m0 m1
  have aN := asN_b (a := b 145 (800 * k + 3)) hM.2.1.1 hM.2.1.2 hM.2.2.1.1 hM.2.2.1.2
  have ll := ansL_len hM
  obtain ⟨c1, r1, f1, g1⟩ := k47 (d + 2) (c := b) hs
  have z3 : c1 143 = b 143 := funext fun i => f1 _ _ (by omega) (by omega) (by omega)
  have z5 : c1 145 = b 145 := funext fun i => f1 _ _ (by omega) (by omega) (by omega)
  have aN2 := aN
  rw [← z3, ← z5] at aN2
  obtain ⟨c2, r2, f2, g2⟩ := k50_2 d (f1.inv hI) (PlayR_of hP f1) aN2.2 (asN (c1 145 (800 * k + 3)) (c1 143 (20 + m).toNat) (c1 143 (24 + m).toNat)).toNat 0 c1 (fun _ _ _ => rfl) (by omega) (by omega) (fun j j0 j1 => by omega) none none none
  rw [z3, z5] at g2
  have g2' : rfD b c2 (9 * (asN (b 145 (800 * k + 3)) (b 143 (20 + m).toNat) (b 143 (24 + m).toNat))) := fun j j0 j1 => by
    rw [g2 j j0 j1, f1 134 _ (by omega) (by omega) (by omega), f1 131 6 (by omega) (by omega) (by omega)]
  have r2' : Cd (d + 3) 50 [vA 131] (s, c1) = some ([], (s, c2)) := by
    rw [c50 (hg := gC131 hs _)]; exact r2
  have e : ∀ i, 9 ≤ i → i ≤ 16 → c2 131 i = c1 131 i := fun i _ _ => f2 131 i (by omega)
  have f2' : PlF b c2 := fun o i h1 h2 h3 => (f2 o i h3).trans (f1 o i h1 h2 h3)
  obtain ⟨c3, r3, f3, g3⟩ := k49_8 (d + 1) hI m0 m1 ha2 hP hA hw (ansL b m).length 0 (0, -1, -1, -1) c2 f2' g2' ⟨by rw [e _ (by omega) (by omega)]; exact g1 12 (by omega) (by omega), by rw [e _ (by omega) (by omega)]; exact g1 13 (by omega) (by omega), by rw [e _ (by omega) (by omega)]; exact g1 15 (by omega) (by omega)⟩ (by omega) (by omega) (by decide) (by show (0 : Int) + 126 * _ < 2147483648; omega) none none none
  refine ⟨c3, ?_, f3, g3⟩
  rw [c49 (hg := gC131 hs _)]
  repeat (first | rw [bnd_s] | rw [tI_m] | rw [tL_m] | rw [tA_m] | rw [tV_m] | rw [r1] | rw [r2'])
  exact r3
end
