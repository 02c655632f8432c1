/-! a row believed -/
def belR (c : Nat → Nat → Int) (k : Nat) (m w i r : Int) : Bool := jud (c 145) k (swp w (pnt (c 143 (20 + m).toNat) r (asX c m (c 145 (800 * k + 3)) i))) (swp w (pnt (c 143 (20 + m).toNat) r (asY c m (c 145 (800 * k + 3)) i))) (asX c m (c 145 (800 * k + 3)) i) (asY c m (c 145 (800 * k + 3)) i)
section
variable {s : List (Nat × Nat)} {c : Nat → Nat → Int}
theorem m232 (d : Nat) (hs : SpL s) (hm : MS c) {k : Nat} (hk : k < 8) (h27 : c 142 27 = (k : Int)) (hc : codeOK (c 145) k) {m i r w : Int} (hM : MapOK c m) (ha : c 142 26 = c 145 (800 * k + 3)) (ha2 : 0 ≤ c 145 (800 * k + 3) ∧ c 145 (800 * k + 3) ≤ 2) (h0 : 0 ≤ i) (h1 : i < asN (c 145 (800 * k + 3)) (c 143 (20 + m).toNat) (c 143 (24 + m).toNat)) (r0 : 0 ≤ r) (r1 : r < 2187) (w0 : 0 ≤ w) (w1 : w < 6) : ∃ c', Cd (d + 5) 232 [vA 142, vI m, vI i, vI r, vI w] (s, c) = some ([vI (b2i (belR c k m w i r))], (s, c')) ∧ Fm [152, 153, 154] [] c c' := by
  have xb := asX_b hM ha2 h0 h1
  have bx := pnt_b (c 143 (20 + m).toNat) r (asX c m (c 145 (800 * k + 3)) i)
  have by' := pnt_b (c 143 (20 + m).toNat) r (asY c m (c 145 (800 * k + 3)) i)
  have sx := swp_bd w0 w1 bx.1 bx.2
  have sy := swp_bd w0 w1 by'.1 by'.2
  obtain ⟨c', q, f⟩ := m231 d hs hm hk h27 hc hM ha ha2 h0 h1 sx sy
  refine ⟨c', ?_, f⟩
  rw [c232 (hg := gC142 hs c)]
  repeat (first | rw [bnd_s] | rw [tI_m] | rw [tL_m] | rw [tA_m] | rw [tV_m] | rw [m225 (d + 2) hs hm hM ha ha2 h0 h1] | rw [m181 (d + 3) hs hm hM r0 r1 xb.1.1 xb.1.2] | rw [m174 (d + 3) hs hm w0 w1 bx.1 bx.2] | rw [m226 (d + 1) hs hm hM ha ha2 h0 h1] | rw [m181 (d + 3) hs hm hM r0 r1 xb.2.1 xb.2.2] | rw [m174 (d + 3) hs hm w0 w1 by'.1 by'.2] | rw [q] | rw [if_pos (b2i_o _)])
  rfl
theorem k52_4 (d : Nat) (hs : SpL s) (hc : CS c) {k : Nat} {m r : Int} (hM : MapOK c m) (ha2 : 0 ≤ c 145 (800 * k + 3) ∧ c 145 (800 * k + 3) ≤ 2) (hP : PlayR c k m) (r0 : 0 ≤ r) (r1 : r < r3 (c 143 (20 + m).toNat)) : ∀ (n : Nat) (i a : Int), 0 ≤ i → i + n = asN (c 145 (800 * k + 3)) (c 143 (20 + m).toNat) (c 143 (24 + m).toNat) → 0 ≤ a → a ≤ i → Rr (Cd (d + 2)) 52 4 [some (vA 131), some (vI (pkR r (c 143 (20 + m).toNat))), some (vI a), some (vI i)] [] (s, c) = some ([vI (a + sumU (fun i => b2i (belR c k m 0 i r)) n i)], (s, c))
  | 0, i, a, h0, h, g0, g1 => by
    have p8 := hP.2.2.2.1
    rw [c52_4]
    repeat (first | rw [bnd_s] | rw [tI_m] | rw [tL_m] | rw [tA_m] | rw [tV_m] | rw [fC131 hs _ (by decide)] | rw [pC131 hs _ _ (by decide)] | rw [p8] | rw [if_neg (show ¬ i < asN (c 145 (800 * k + 3)) (c 143 (20 + m).toNat) (c 143 (24 + m).toNat) by omega)])
    simp only [sumU, Int.add_zero]
  | n + 1, i, a, h0, h, g0, g1 => by
    have p8 := hP.2.2.2.1
    have aN := asN_b (a := c 145 (800 * k + 3)) hM.2.1.1 hM.2.1.2 hM.2.2.1.1 hM.2.2.1.2
    have hi : i < asN (c 145 (800 * k + 3)) (c 143 (20 + m).toNat) (c 143 (24 + m).toNat) := by omega
    have xb := asX_b hM ha2 h0 hi
    have xN := hM.2.1
    have pk := pk_ok hM.2.1.1 hM.2.1.2 r0 r1
    have g := hP.2.2.2.2 i h0 hi
    have bx := pnt_b (c 143 (20 + m).toNat) r (asX c m (c 145 (800 * k + 3)) i)
    have by' := pnt_b (c 143 (20 + m).toNat) r (asY c m (c 145 (800 * k + 3)) i)
    have eo : opn (pkR r (c 143 (20 + m).toNat)) (asX c m (c 145 (800 * k + 3)) i) (asY c m (c 145 (800 * k + 3)) i) = 3 * pnt (c 143 (20 + m).toNat) r (asX c m (c 145 (800 * k + 3)) i) + pnt (c 143 (20 + m).toNat) r (asY c m (c 145 (800 * k + 3)) i) := by
      unfold opn; rw [pk.2 _ xb.1.1 xb.1.2, pk.2 _ xb.2.1 xb.2.2, Int.mul_comm]
    have s0 : ∀ z, 0 ≤ z → z < 3 → swp 0 z = z := fun z z0 z1 => by
      have : z = 0 ∨ z = 1 ∨ z = 2 := by omega
      rcases this with rfl | rfl | rfl <;> decide
    have eb : bt (c 134 i.toNat) (3 * pnt (c 143 (20 + m).toNat) r (asX c m (c 145 (800 * k + 3)) i) + pnt (c 143 (20 + m).toNat) r (asY c m (c 145 (800 * k + 3)) i)) = belR c k m 0 i r := by
      unfold belR; rw [s0 _ bx.1 bx.2, s0 _ by'.1 by'.2]; exact g.2.2.2 _ _ bx.1 bx.2 by'.1 by'.2
    have bb := b2i_b (belR c k m 0 i r)
    have ih := k52_4 d hs hc hM ha2 hP r0 r1 n (i + 1) (a + b2i (belR c k m 0 i r)) (by omega) (by omega) (by omega) (by omega)
    rw [c52_4]
    repeat (first | rw [bnd_s] | rw [tI_m] | rw [tL_m] | rw [tA_m] | rw [tV_m] | rw [fC131 hs _ (by decide)] | rw [pC131 hs _ _ (by decide)] | rw [p8] | rw [if_pos hi] | rw [CS_131_2 hc] | rw [CS_131_0 hc] | rw [CS_131_1 hc] | rw [aC134 hs _ h0 (by omega)] | rw [aC132 hs _ h0 (by omega)] | rw [aC133 hs _ h0 (by omega)] | rw [g.1] | rw [g.2.1] | rw [k166 _ _ pk.1.1 (by omega) xb.1.1 (by omega) xb.2.1 (by omega)] | rw [eo] | rw [bt_sh g.2.2.1.1 (by omega) (show 0 ≤ 3 * pnt (c 143 (20 + m).toNat) r (asX c m (c 145 (800 * k + 3)) i) + pnt (c 143 (20 + m).toNat) r (asY c m (c 145 (800 * k + 3)) i) by omega) (by omega)] | rw [eb] | rw [w32_id (z := a + b2i (belR c k m 0 i r)) (by omega) (by omega)] | rw [w32_id (z := i + 1) (by omega) (by omega)])
    simp only [sumU]
    rw [ih, Int.add_assoc]
theorem k52 (d : Nat) (hs : SpL s) (hc : CS c) {k : Nat} {m r : Int} (hM : MapOK c m) (ha2 : 0 ≤ c 145 (800 * k + 3) ∧ c 145 (800 * k + 3) ≤ 2) (hP : PlayR c k m) (r0 : 0 ≤ r) (r1 : r < r3 (c 143 (20 + m).toNat)) : Cd (d + 3) 52 [vA 131, vI (pkR r (c 143 (20 + m).toNat))] (s, c) = some ([vI (sumU (fun i => b2i (belR c k m 0 i r)) (asN (c 145 (800 * k + 3)) (c 143 (20 + m).toNat) (c 143 (24 + m).toNat)).toNat 0)], (s, c)) := by
  have aN := asN_b (a := c 145 (800 * k + 3)) hM.2.1.1 hM.2.1.2 hM.2.2.1.1 hM.2.2.1.2
  rw [c52 (hg := gC131 hs c), k52_4 d hs hc hM ha2 hP r0 r1 (asN (c 145 (800 * k + 3)) (c 143 (20 + m).toNat) (c 143 (24 + m).toNat)).toNat 0 0 (by omega) (by omega) (by omega) (by omega), Int.zero_add]
end
