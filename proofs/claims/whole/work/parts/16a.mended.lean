/-! the play of any showing: told, or mended -/
section
variable {tx : Nat → Int} {s : List (Nat × Nat)} {b c : Nat → Nat → Int}
def PlayRV (tx : Nat → Int) (c : Nat → Nat → Int) (k : Nat) (m : Int) : Prop := c 131 5 = ((40 + 5 * m.toNat : Nat) : Int) ∧ c 131 6 = drw (tx (800 * k + 1)) ∧ c 131 7 = tx (800 * k + 2) ∧ c 131 8 = asN (tx (800 * k + 3)) (c 143 (20 + m).toNat) (c 143 (24 + m).toNat) ∧ ∀ i, 0 ≤ i → i < asN (tx (800 * k + 3)) (c 143 (20 + m).toNat) (c 143 (24 + m).toNat) → c 132 i.toNat = asX c m (tx (800 * k + 3)) i ∧ c 133 i.toNat = asY c m (tx (800 * k + 3)) i ∧ (0 ≤ c 134 i.toNat ∧ c 134 i.toNat < 512) ∧ ∀ p q, 0 ≤ p → p < 3 → 0 ≤ q → q < 3 → bt (c 134 i.toNat) (3 * p + q) = jud (tx) k p q (asX c m (tx (800 * k + 3)) i) (asY c m (tx (800 * k + 3)) i)
theorem k48V (d : Nat) {s : List (Nat × Nat)} {c : Nat → Nat → Int} (hs : SpL s) (hc : CS c) {k : Nat} {m : Int} (hP : PlayRV tx c k m) {i p q : Int} (h0 : 0 ≤ i) (h1 : i < asN (tx (800 * k + 3)) (c 143 (20 + m).toNat) (c 143 (24 + m).toNat)) (hN : asN (tx (800 * k + 3)) (c 143 (20 + m).toNat) (c 143 (24 + m).toNat) ≤ 21) (hp : 0 ≤ p ∧ p < 3) (hq : 0 ≤ q ∧ q < 3) : Cd (d + 2) 48 [vA 131, vI i, vI (3 * p + q)] (s, c) = some ([vI (b2i (jud (tx) k p q (asX c m (tx (800 * k + 3)) i) (asY c m (tx (800 * k + 3)) i)))], (s, c)) := by
  have g := hP.2.2.2.2 i h0 h1
  rw [← g.2.2.2 p q hp.1 hp.2 hq.1 hq.2, c48 (hg := gC131 hs c)]
  repeat (first | rw [bnd_s] | rw [tI_m] | rw [tL_m] | rw [tA_m] | rw [tV_m] | rw [fC131 hs _ (by decide)] | rw [pC131 hs _ _ (by decide)] | rw [CS_131_2 hc] | rw [aC134 hs _ h0 (by omega)] | rw [k169 _ _ g.2.2.1.1 (by omega) (show 0 ≤ 3 * p + q by omega) (by omega)] | rw [if_pos (b2i_o _)])
def belRV (tx : Nat → Int) (c : Nat → Nat → Int) (k : Nat) (m w i r : Int) : Bool := jud (tx) k (swp w (pnt (c 143 (20 + m).toNat) r (asX c m (tx (800 * k + 3)) i))) (swp w (pnt (c 143 (20 + m).toNat) r (asY c m (tx (800 * k + 3)) i))) (asX c m (tx (800 * k + 3)) i) (asY c m (tx (800 * k + 3)) i)
/-- how the reference judges -/
def JOK (tx : Nat → Int) (b : Nat → Nat → Int) (k : Nat) : Prop := (b 142 27 = (k : Int) ∧ codeOK (b 145) k ∧ ∀ p q x y, jud tx k p q x y = jud (b 145) k p q x y) ∨ (b 142 27 = -1 ∧ ∀ p q x y, jud tx k p q x y = decide (p ≠ q))
def MPV (tx : Nat → Int) (b : Nat → Nat → Int) (k : Nat) (m : Int) : Prop := (MS b ∧ k < 8 ∧ JOK tx b k ∧ True ∧ MapOK b m ∧ b 142 26 = tx (800 * k + 3)) ∧ (0 ≤ tx (800 * k + 3) ∧ tx (800 * k + 3) ≤ 2) ∧ b 142 25 = tx (800 * k + 1) ∧ (tx (800 * k + 1) = 1 ∨ tx (800 * k + 1) = 2 ∨ tx (800 * k + 1) = 3 ∨ tx (800 * k + 1) = 6) ∧ b 142 28 = tx (800 * k + 2) ∧ (tx (800 * k + 2) = 0 ∨ tx (800 * k + 2) = 1)
theorem MPV.mv {b c : Nat → Nat → Int} {k : Nat} {m : Int} (h : MPV tx b k m) {L F : List Nat} (f : Fm L F b c) (hk : mpk L F = true) : MPV tx c k m ∧ c 143 = b 143 ∧ tx = tx := by
  unfold mpk at hk
  simp only [Bool.and_eq_true, Bool.not_eq_true', Bool.not_eq_true] at hk
  obtain ⟨⟨⟨⟨⟨⟨a1, a2⟩, a3⟩, a4⟩, a5⟩, a6⟩, a7⟩ := hk
  have nn : ∀ {x : Nat} {M : List Nat}, M.contains x = false → x ∉ M := fun {x M} g w => by
    have := List.contains_iff_mem.mpr w
    rw [g] at this; cases this
  have e3 : c 143 = b 143 := f.1 143 (nn a1) (by decide)
  have e5 : c 145 = b 145 := f.1 145 (nn a2) (by decide)
  obtain ⟨⟨h1, h2, h3, h4, h5, h6⟩, h7, h8, h9, h10, h11⟩ := h
  refine ⟨?_, e3, rfl⟩
  have hj : JOK tx c k := by
    unfold JOK at h3 ⊢
    rw [f.2 27 (nn a6), e5]; exact h3
  exact ⟨⟨f.ms h1 a3, h2, hj, trivial, MapOK_of h5 e3, (f.2 26 (nn a5)).trans h6⟩, h7, (f.2 25 (nn a4)).trans h8, h9, (f.2 28 (nn a7)).trans h10, h11⟩
theorem MPV.n232 (d : Nat) {s : List (Nat × Nat)} {b : Nat → Nat → Int} (hs : SpL s) {k : Nat} {m : Int} (h : MPV tx b k m) {i r w : Int} (h0 : 0 ≤ i) (h1 : i < asN (tx (800 * k + 3)) (b 143 (20 + m).toNat) (b 143 (24 + m).toNat)) (r0 : 0 ≤ r) (r1 : r < 2187) (w0 : 0 ≤ w) (w1 : w < 6) : ∃ c', Cd (d + 5) 232 [vA 142, vI m, vI i, vI r, vI w] (s, b) = some ([vI (b2i (belRV tx b k m w i r))], (s, c')) ∧ Fm [152, 153, 154] [] b c' := by
  obtain ⟨⟨hm, hk, hj, -, hM, ha⟩, ha2, -⟩ := h
  have xb := asX_b hM ha2 h0 h1
  have bx := pnt_b (b 143 (20 + m).toNat) r (asX b m (tx (800 * k + 3)) i)
  have by' := pnt_b (b 143 (20 + m).toNat) r (asY b m (tx (800 * k + 3)) i)
  have sx := swp_bd w0 w1 bx.1 bx.2
  have sy := swp_bd w0 w1 by'.1 by'.2
  have q231 : ∃ c', Cd (d + 4) 231 [vA 142, vI m, vI i, vI (swp w (pnt (b 143 (20 + m).toNat) r (asX b m (tx (800 * k + 3)) i))), vI (swp w (pnt (b 143 (20 + m).toNat) r (asY b m (tx (800 * k + 3)) i)))] (s, b) = some ([vI (b2i (belRV tx b k m w i r))], (s, c')) ∧ Fm [152, 153, 154] [] b c' := by
    unfold belRV
    rcases hj with ⟨j1, j2, j3⟩ | ⟨j1, j2⟩
    · rw [j3]
      exact m231 d hs hm hk j1 j2 hM ha ha2 h0 h1 sx sy
    · rw [j2]
      refine ⟨b, ?_, Fm.rf _ _ _⟩
      rw [c231 (hg := gC142 hs b), fC142 hs _ (by decide), bnd_s, j1, if_pos rfl]
      by_cases e : swp w (pnt (b 143 (20 + m).toNat) r (asX b m (tx (800 * k + 3)) i)) = swp w (pnt (b 143 (20 + m).toNat) r (asY b m (tx (800 * k + 3)) i))
      · rw [if_pos e, c231_10, if_pos (Or.inl rfl), decide_eq_false (fun z => z e)]; rfl
      · rw [if_neg e, c231_10, if_pos (Or.inr rfl), decide_eq_true e]; rfl
  obtain ⟨c', q, f⟩ := q231
  refine ⟨c', ?_, f⟩
  rw [c232 (hg := gC142 hs b)]
  repeat (first | rw [bnd_s] | rw [tI_m] | rw [tL_m] | rw [tA_m] | rw [tV_m] | rw [m225 (d + 2) hs hm hM ha ha2 h0 h1] | rw [m181 (d + 3) hs hm hM r0 r1 xb.1.1 xb.1.2] | rw [m174 (d + 3) hs hm w0 w1 bx.1 bx.2] | rw [m226 (d + 1) hs hm hM ha ha2 h0 h1] | rw [m181 (d + 3) hs hm hM r0 r1 xb.2.1 xb.2.2] | rw [m174 (d + 3) hs hm w0 w1 by'.1 by'.2] | rw [q] | rw [if_pos (b2i_o _)])
theorem k52_4V (d : Nat) (hs : SpL s) (hc : CS c) {k : Nat} {m r : Int} (hM : MapOK c m) (ha2 : 0 ≤ tx (800 * k + 3) ∧ tx (800 * k + 3) ≤ 2) (hP : PlayRV tx c k m) (r0 : 0 ≤ r) (r1 : r < r3 (c 143 (20 + m).toNat)) : ∀ (n : Nat) (i a : Int), 0 ≤ i → i + n = asN (tx (800 * k + 3)) (c 143 (20 + m).toNat) (c 143 (24 + m).toNat) → 0 ≤ a → a ≤ i → Rr (Cd (d + 2)) 52 4 [some (vA 131), some (vI (pkR r (c 143 (20 + m).toNat))), some (vI a), some (vI i)] [] (s, c) = some ([vI (a + sumU (fun i => b2i (belRV tx c k m 0 i r)) n i)], (s, c))
  | 0, i, a, h0, h, g0, g1 => by
    have p8 := hP.2.2.2.1
    rw [c52_4]
    repeat (first | rw [bnd_s] | rw [tI_m] | rw [tL_m] | rw [tA_m] | rw [tV_m] | rw [fC131 hs _ (by decide)] | rw [pC131 hs _ _ (by decide)] | rw [p8] | rw [if_neg (show ¬ i < asN (tx (800 * k + 3)) (c 143 (20 + m).toNat) (c 143 (24 + m).toNat) by omega)])
    simp only [sumU, Int.add_zero]
  | n + 1, i, a, h0, h, g0, g1 => by
    have p8 := hP.2.2.2.1
    have aN := asN_b (a := tx (800 * k + 3)) hM.2.1.1 hM.2.1.2 hM.2.2.1.1 hM.2.2.1.2
    have hi : i < asN (tx (800 * k + 3)) (c 143 (20 + m).toNat) (c 143 (24 + m).toNat) := by omega
    have xb := asX_b hM ha2 h0 hi
    have xN := hM.2.1
    have pk := pk_ok hM.2.1.1 hM.2.1.2 r0 r1
    have g := hP.2.2.2.2 i h0 hi
    have bx := pnt_b (c 143 (20 + m).toNat) r (asX c m (tx (800 * k + 3)) i)
    have by' := pnt_b (c 143 (20 + m).toNat) r (asY c m (tx (800 * k + 3)) i)
    have eo : opn (pkR r (c 143 (20 + m).toNat)) (asX c m (tx (800 * k + 3)) i) (asY c m (tx (800 * k + 3)) i) = 3 * pnt (c 143 (20 + m).toNat) r (asX c m (tx (800 * k + 3)) i) + pnt (c 143 (20 + m).toNat) r (asY c m (tx (800 * k + 3)) i) := by
      unfold opn; rw [pk.2 _ xb.1.1 xb.1.2, pk.2 _ xb.2.1 xb.2.2, Int.mul_comm]
    have s0 : ∀ z, 0 ≤ z → z < 3 → swp 0 z = z := fun z z0 z1 => by
      have : z = 0 ∨ z = 1 ∨ z = 2 := by omega
      rcases this with rfl | rfl | rfl <;> decide
    have eb : bt (c 134 i.toNat) (3 * pnt (c 143 (20 + m).toNat) r (asX c m (tx (800 * k + 3)) i) + pnt (c 143 (20 + m).toNat) r (asY c m (tx (800 * k + 3)) i)) = belRV tx c k m 0 i r := by
      unfold belRV; rw [s0 _ bx.1 bx.2, s0 _ by'.1 by'.2]; exact g.2.2.2 _ _ bx.1 bx.2 by'.1 by'.2
    have bb := b2i_b (belRV tx c k m 0 i r)
    have ih := k52_4V d hs hc hM ha2 hP r0 r1 n (i + 1) (a + b2i (belRV tx c k m 0 i r)) (by omega) (by omega) (by omega) (by omega)
    rw [c52_4]
    repeat (first | rw [bnd_s] | rw [tI_m] | rw [tL_m] | rw [tA_m] | rw [tV_m] | rw [fC131 hs _ (by decide)] | rw [pC131 hs _ _ (by decide)] | rw [p8] | rw [if_pos hi] | rw [CS_131_2 hc] | rw [CS_131_0 hc] | rw [CS_131_1 hc] | rw [aC134 hs _ h0 (by omega)] | rw [aC132 hs _ h0 (by omega)] | rw [aC133 hs _ h0 (by omega)] | rw [g.1] | rw [g.2.1] | rw [k166 _ _ pk.1.1 (by omega) xb.1.1 (by omega) xb.2.1 (by omega)] | rw [eo] | rw [bt_sh g.2.2.1.1 (by omega) (show 0 ≤ 3 * pnt (c 143 (20 + m).toNat) r (asX c m (tx (800 * k + 3)) i) + pnt (c 143 (20 + m).toNat) r (asY c m (tx (800 * k + 3)) i) by omega) (by omega)] | rw [eb] | rw [w32_id (z := a + b2i (belRV tx c k m 0 i r)) (by omega) (by omega)] | rw [w32_id (z := i + 1) (by omega) (by omega)])
    simp only [sumU]
    rw [ih, Int.add_assoc]
theorem k52V (d : Nat) (hs : SpL s) (hc : CS c) {k : Nat} {m r : Int} (hM : MapOK c m) (ha2 : 0 ≤ tx (800 * k + 3) ∧ tx (800 * k + 3) ≤ 2) (hP : PlayRV tx c k m) (r0 : 0 ≤ r) (r1 : r < r3 (c 143 (20 + m).toNat)) : Cd (d + 3) 52 [vA 131, vI (pkR r (c 143 (20 + m).toNat))] (s, c) = some ([vI (sumU (fun i => b2i (belRV tx c k m 0 i r)) (asN (tx (800 * k + 3)) (c 143 (20 + m).toNat) (c 143 (24 + m).toNat)).toNat 0)], (s, c)) := by
  have aN := asN_b (a := tx (800 * k + 3)) hM.2.1.1 hM.2.1.2 hM.2.2.1.1 hM.2.2.1.2
  rw [c52 (hg := gC131 hs c), k52_4V d hs hc hM ha2 hP r0 r1 (asN (tx (800 * k + 3)) (c 143 (20 + m).toNat) (c 143 (24 + m).toNat)).toNat 0 0 (by omega) (by omega) (by omega) (by omega), Int.zero_add]
theorem belR_ofV {c c' : Nat → Nat → Int} (e3 : c' 143 = c 143) (e5 : tx = tx) (k : Nat) (m w i r : Int) : belRV tx c' k m w i r = belRV tx c k m w i r := by
  unfold belRV; rw [asX_of e3, asY_of e3, e3, e5]
def cntRV (tx : Nat → Int) (b : Nat → Nat → Int) (k : Nat) (m r : Int) : Int := sumU (fun i => b2i (belRV tx b k m 0 i r)) (asN (tx (800 * k + 3)) (b 143 (20 + m).toNat) (b 143 (24 + m).toNat)).toNat 0
theorem m236_14V (d : Nat) (hs : SpL s) {k : Nat} {m r : Int} (hP : MPV tx b k m) (r0 : 0 ≤ r) (r1 : r < 2187) : ∀ (n : Nat) (i a : Int) (c : Nat → Nat → Int), Fm [152, 153, 154] [35, 36] b c → 0 ≤ i → i + n = asN (tx (800 * k + 3)) (b 143 (20 + m).toNat) (b 143 (24 + m).toNat) → 0 ≤ a → a ≤ i → ∃ c', Rr (Cd (d + 5)) 236 14 [some (vA 142), some (vI m), some (vI r), some (vI a), some (vI i)] [] (s, c) = Rr (Cd (d + 5)) 236 14 [some (vA 142), some (vI m), some (vI r), some (vI (a + sumU (fun i => b2i (belRV tx b k m 0 i r)) n i)), some (vI (asN (tx (800 * k + 3)) (b 143 (20 + m).toNat) (b 143 (24 + m).toNat)))] [] (s, c') ∧ Fm [152, 153, 154] [35, 36] b c' ∧ c' 142 35 = c 142 35 ∧ c' 142 36 = c 142 36
  | 0, i, a, c, hF, h0, h, g0, g1 => ⟨c, by simp only [sumU, Int.add_zero]; rw [show i = asN (tx (800 * k + 3)) (b 143 (20 + m).toNat) (b 143 (24 + m).toNat) by omega], hF, rfl, rfl⟩
  | n + 1, i, a, c, hF, h0, h, g0, g1 => by
    obtain ⟨⟨hm, hk, hj, -, hM, ha⟩, ha2, -⟩ := id hP
    have aN := asN_b (a := tx (800 * k + 3)) hM.2.1.1 hM.2.1.2 hM.2.2.1.1 hM.2.2.1.2
    have e3 : c 143 = b 143 := hF.1 143 (by decide) (by decide)
    have e5 : tx = tx := rfl
    have hm1 : MS c := MS_of hm (fun w hw => hF.2 _ (by
      have : (mRefs.all fun w => !([35, 36].contains w.1)) = true := by decide
      simpa using List.all_eq_true.mp this w hw)) (hF.1 146 (by decide) (by decide)) (hF.1 147 (by decide) (by decide))
    have hM1 := MapOK_of hM e3
    have a1 : c 142 26 = tx (800 * k + 3) := by rw [hF.2 26 (by decide), e5]; exact ha
    have q4 := m224 (d + 4) hs hm1 hM1 a1 (by rw [e5]; exact ha2)
    obtain ⟨c1, q, f⟩ := (hP.mv hF (by decide)).1.n232 d hs h0 (by rw [e3]; omega) r0 r1 (show (0 : Int) ≤ 0 by decide) (by decide)
    rw [belR_ofV e3 e5] at q
    rw [e3, e5] at q4
    have bb := b2i_b (belRV tx b k m 0 i r)
    have hF1 : Fm [152, 153, 154] [35, 36] b c1 := hF.tr (f.mono (by decide) (by decide))
    obtain ⟨c2, x1, x2, x3, x4⟩ := m236_14V d hs hP r0 r1 n (i + 1) (a + b2i (belRV tx b k m 0 i r)) c1 hF1 (by omega) (by omega) (by omega) (by omega)
    refine ⟨c2, ?_, x2, x3.trans (f.2 35 (by decide)), x4.trans (f.2 36 (by decide))⟩
    simp only [sumU]
    rw [← Int.add_assoc, ← x1, c236_14]
    repeat (first | rw [bnd_s] | rw [tI_m] | rw [tL_m] | rw [tA_m] | rw [tV_m] | rw [q4] | rw [if_pos (show i < asN (tx (800 * k + 3)) (b 143 (20 + m).toNat) (b 143 (24 + m).toNat) by omega)] | rw [q] | rw [if_b0])
    generalize belRV tx b k m 0 i r = B at *
    cases B
    · rw [cond_f, c236_30, b2i_f, w32_id (z := a + 0) (by omega) (by omega), w32_id (z := i + 1) (by omega) (by omega)]
    · rw [cond_t, c236_30, b2i_t, w32_id (z := a + 1) (by omega) (by omega), w32_id (z := i + 1) (by omega) (by omega)]
theorem m236_5V (d : Nat) (hs : SpL s) {k : Nat} {m : Int} (hP : MPV tx b k m) : ∀ (n : Nat) (r : Int) (c : Nat → Nat → Int), Fm [152, 153, 154] [35, 36] b c → 0 ≤ r → r + n = r3 (b 143 (20 + m).toNat) → ∀ o3 o4, ∃ c', Rr (Cd (d + 5)) 236 5 [some (vA 142), some (vI m), some (vI r), o3, o4] [] (s, c) = some ([], (s, c')) ∧ Fm [152, 153, 154] [35, 36] b c' ∧ c' 142 36 = (mx (cntRV tx b k m) n r (c 142 36) (c 142 35)).1 ∧ c' 142 35 = (mx (cntRV tx b k m) n r (c 142 36) (c 142 35)).2
  | 0, r, c, hF, h0, h, o3, o4 => by
    obtain ⟨⟨hm, hk, hj, -, hM, ha⟩, ha2, -⟩ := id hP
    have e3 : c 143 = b 143 := hF.1 143 (by decide) (by decide)
    have hm1 : MS c := MS_of hm (fun w hw => hF.2 _ (by
      have : (mRefs.all fun w => !([35, 36].contains w.1)) = true := by decide
      simpa using List.all_eq_true.mp this w hw)) (hF.1 146 (by decide) (by decide)) (hF.1 147 (by decide) (by decide))
    have q := m180 (d + 4) hs hm1 (MapOK_of hM e3)
    rw [e3] at q
    refine ⟨c, ?_, hF, rfl, rfl⟩
    rw [c236_5]
    repeat (first | rw [bnd_s] | rw [tI_m] | rw [tL_m] | rw [tA_m] | rw [tV_m] | rw [q] | rw [if_neg (show ¬ r < r3 (b 143 (20 + m).toNat) by omega)])
  | n + 1, r, c, hF, h0, h, o3, o4 => by
    obtain ⟨⟨hm, hk, hj, -, hM, ha⟩, ha2, -⟩ := id hP
    have aN := asN_b (a := tx (800 * k + 3)) hM.2.1.1 hM.2.1.2 hM.2.2.1.1 hM.2.2.1.2
    have rb := r3_b hM.2.1.2
    have e3 : c 143 = b 143 := hF.1 143 (by decide) (by decide)
    have hm1 : MS c := MS_of hm (fun w hw => hF.2 _ (by
      have : (mRefs.all fun w => !([35, 36].contains w.1)) = true := by decide
      simpa using List.all_eq_true.mp this w hw)) (hF.1 146 (by decide) (by decide)) (hF.1 147 (by decide) (by decide))
    have q := m180 (d + 4) hs hm1 (MapOK_of hM e3)
    rw [e3] at q
    obtain ⟨c1, x1, x2, x3, x4⟩ := m236_14V d hs hP h0 (by omega) (asN (tx (800 * k + 3)) (b 143 (20 + m).toNat) (b 143 (24 + m).toNat)).toNat 0 0 c hF (by omega) (by omega) (by omega) (by omega)
    rw [Int.zero_add] at x1
    have E3 : c1 143 = b 143 := x2.1 143 (by decide) (by decide)
    have E5 : tx = tx := rfl
    have hm2 : MS c1 := MS_of hm (fun w hw => x2.2 _ (by
      have : (mRefs.all fun w => !([35, 36].contains w.1)) = true := by decide
      simpa using List.all_eq_true.mp this w hw)) (x2.1 146 (by decide) (by decide)) (x2.1 147 (by decide) (by decide))
    have q4 := m224 (d + 4) hs hm2 (MapOK_of hM E3) (a := tx (800 * k + 3)) ((x2.2 26 (by decide)).trans ha) ha2
    rw [E3] at q4
    rw [c236_5]
    repeat (first | rw [bnd_s] | rw [tI_m] | rw [tL_m] | rw [tA_m] | rw [tV_m] | rw [q] | rw [if_pos (show r < r3 (b 143 (20 + m).toNat) by omega)])
    rw [x1, c236_14]
    simp only [mx]
    rw [show sumU (fun i => b2i (belRV tx b k m 0 i r)) (asN (tx (800 * k + 3)) (b 143 (20 + m).toNat) (b 143 (24 + m).toNat)).toNat 0 = cntRV tx b k m r from rfl]
    repeat (first | rw [bnd_s] | rw [tI_m] | rw [tL_m] | rw [tA_m] | rw [tV_m] | rw [fC142 hs _ (by decide)] | rw [pC142 hs _ _ (by decide)] | rw [q4] | rw [if_neg (show ¬ asN (tx (800 * k + 3)) (b 143 (20 + m).toNat) (b 143 (24 + m).toNat) < asN (tx (800 * k + 3)) (b 143 (20 + m).toNat) (b 143 (24 + m).toNat) by omega)] | rw [x4])
    by_cases g : c 142 36 < cntRV tx b k m r
    · have hF2 : Fm [152, 153, 154] [35, 36] b (u2 (u2 c1 142 36 (cntRV tx b k m r)) 142 35 r) := x2.tr ⟨fun o _ ho => funext fun i => by rw [u2_n (by omega), u2_n (by omega)], fun i hi => by rw [u2_n (fun w => hi (by rw [w.2]; decide)), u2_n (fun w => hi (by rw [w.2]; decide))]⟩
      obtain ⟨c2, y1, y2, y3, y4⟩ := m236_5V d hs hP n (r + 1) _ hF2 (by omega) (by omega) (some (vI (cntRV tx b k m r))) (some (vI (asN (tx (800 * k + 3)) (b 143 (20 + m).toNat) (b 143 (24 + m).toNat))))
      rw [u2_e, u2_n (by omega), u2_e] at y3 y4
      refine ⟨c2, ?_, y2, ?_, ?_⟩
      · rw [if_pos g]
        repeat (first | rw [bnd_s] | rw [tI_m] | rw [tL_m] | rw [tA_m] | rw [tV_m] | rw [fC142 hs _ (by decide)] | rw [pC142 hs _ _ (by decide)] | rw [c236_45] | rw [w32_id (z := r + 1) (by omega) (by omega)])
        exact y1
      · rw [if_pos g]; exact y3
      · rw [if_pos g]; exact y4
    · obtain ⟨c2, y1, y2, y3, y4⟩ := m236_5V d hs hP n (r + 1) c1 x2 (by omega) (by omega) (some (vI (cntRV tx b k m r))) (some (vI (asN (tx (800 * k + 3)) (b 143 (20 + m).toNat) (b 143 (24 + m).toNat))))
      rw [x3, x4] at y3 y4
      refine ⟨c2, ?_, y2, ?_, ?_⟩
      · rw [if_neg g, c236_45, w32_id (z := r + 1) (by omega) (by omega)]; exact y1
      · rw [if_neg g]; exact y3
      · rw [if_neg g]; exact y4
theorem PlayR_ofV {b c : Nat → Nat → Int} {k : Nat} {m : Int} (h : PlayRV tx b k m) (f : PlF b c) : PlayRV tx c k m := by
  have e3 : c 143 = b 143 := funext fun i => f _ _ (by omega) (by omega) (by omega)
  have e5 : tx = tx := rfl
  unfold PlayRV
  rw [e3, e5, f 131 5 (by omega) (by omega) (by omega), f 131 6 (by omega) (by omega) (by omega), f 131 7 (by omega) (by omega) (by omega), f 131 8 (by omega) (by omega) (by omega)]
  refine ⟨h.1, h.2.1, h.2.2.1, h.2.2.2.1, fun i h0 h1 => ?_⟩
  rw [asX_of e3, asY_of e3, f 132 _ (by omega) (by omega) (by omega), f 133 _ (by omega) (by omega) (by omega), f 134 _ (by omega) (by omega) (by omega)]
  exact h.2.2.2.2 i h0 h1
theorem cntR_bV {k : Nat} {m : Int} (hM : MapOK b m) (r : Int) : 0 ≤ cntRV tx b k m r ∧ cntRV tx b k m r ≤ asN (tx (800 * k + 3)) (b 143 (20 + m).toNat) (b 143 (24 + m).toNat) := by
  have aN := asN_b (a := tx (800 * k + 3)) hM.2.1.1 hM.2.1.2 hM.2.2.1.1 hM.2.2.1.2
  have := sumU_b (fun i => b2i (belRV tx b k m 0 i r)) (B := 1) (asN (tx (800 * k + 3)) (b 143 (20 + m).toNat) (b 143 (24 + m).toNat)).toNat 0 (fun _ _ _ => b2i_b _)
  unfold cntRV
  omega
theorem k51_12V (d : Nat) {n0 : Nat} (hI : Inv s b n0) {k : Nat} {m : Int} (m0 : 0 ≤ m) (m1 : m < b 143 0) (ha2 : 0 ≤ tx (800 * k + 3) ∧ tx (800 * k + 3) ≤ 2) (hP : PlayRV tx b k m) : ∀ (n : Nat) (r : Int) (c : Nat → Nat → Int), PlF b c → 0 ≤ r → r + n = r3 (b 143 (20 + m).toNat) → ∀ o3, ∃ c', Rr (Cd (d + 3)) 51 12 [some (vA 131), some (vI (r3 (b 143 (20 + m).toNat))), some (vI r), o3] [] (s, c) = some ([], (s, c')) ∧ PlF b c' ∧ c' 131 9 = (mx (cntRV tx b k m) n r (c 131 9) (c 131 11)).1 ∧ c' 131 11 = (mx (cntRV tx b k m) n r (c 131 9) (c 131 11)).2
  | 0, r, c, hF, h0, h, o3 => by
    refine ⟨c, ?_, hF, rfl, rfl⟩
    rw [c51_12, if_neg (by omega), c51_40]
  | n + 1, r, c, hF, h0, h, o3 => by
    have hI1 := hF.inv hI
    have hs := hI1.1.l
    have hc := hI1.2.2.2.1
    have e3 : c 143 = b 143 := funext fun i => hF _ _ (by omega) (by omega) (by omega)
    have e5 : tx = tx := rfl
    have hM := hI.mok m m0 m1
    have hM1 := MapOK_of hM e3
    have hP1 := PlayR_ofV hP hF
    have rb := r3_b hM.2.1.2
    have p5 := hP1.1
    have p8 := hP1.2.2.2.1
    rw [e3, e5] at p8
    have n4 := hI.nM.2
    have hch := chN hs hc (m := m.toNat) (by omega)
    have hmr := (hI1.map (m := m.toNat) (by rw [e3]; omega)).1.1
    rw [Int.toNat_of_nonneg m0, e3] at hmr
    have q52 := k52V d hs hc hM1 (by rw [e5]; exact ha2) hP1 h0 (by rw [e3]; omega)
    rw [e3, e5] at q52
    rw [show (fun i => b2i (belRV tx c k m 0 i r)) = fun i => b2i (belRV tx b k m 0 i r) from funext fun i => by rw [belR_ofV e3 e5]] at q52
    rw [show sumU (fun i => b2i (belRV tx b k m 0 i r)) (asN (tx (800 * k + 3)) (b 143 (20 + m).toNat) (b 143 (24 + m).toNat)).toNat 0 = cntRV tx b k m r from rfl] at q52
    by_cases g0 : c 131 9 < asN (tx (800 * k + 3)) (b 143 (20 + m).toNat) (b 143 (24 + m).toNat)
    · rw [c51_12, if_pos (by omega)]
      simp only [mx]
      repeat (first | rw [bnd_s] | rw [tI_m] | rw [tL_m] | rw [tA_m] | rw [tV_m] | rw [fC131 hs _ (by decide)] | rw [pC131 hs _ _ (by decide)] | rw [p8] | rw [if_pos g0] | rw [p5] | rw [gF_g hch.1.1 _ (by decide)] | rw [hmr] | rw [k164 _ _ _ (show 0 ≤ b 143 (20 + m).toNat by have := hM.2.1.1; omega) hM.2.1.2] | rw [q52])
      by_cases g : c 131 9 < cntRV tx b k m r
      · have hF2 : PlF b (u2 (u2 c 131 9 (cntRV tx b k m r)) 131 11 r) := (hF.u (by omega) _).u (by omega) _
        obtain ⟨c2, y1, y2, y3, y4⟩ := k51_12V d hI m0 m1 ha2 hP n (r + 1) _ hF2 (by omega) (by omega) (some (vI (cntRV tx b k m r)))
        rw [u2_e, u2_n (by omega), u2_e] at y3 y4
        refine ⟨c2, ?_, y2, ?_, ?_⟩
        · rw [if_pos g]
          repeat (first | rw [bnd_s] | rw [tI_m] | rw [tL_m] | rw [tA_m] | rw [tV_m] | rw [fC131 hs _ (by decide)] | rw [pC131 hs _ _ (by decide)] | rw [c51_38] | rw [w32_id (z := r + 1) (by omega) (by omega)])
          exact y1
        · rw [if_pos g]; exact y3
        · rw [if_pos g]; exact y4
      · obtain ⟨c2, y1, y2, y3, y4⟩ := k51_12V d hI m0 m1 ha2 hP n (r + 1) c hF (by omega) (by omega) (some (vI (cntRV tx b k m r)))
        refine ⟨c2, ?_, y2, ?_, ?_⟩
        · rw [if_neg g, c51_38, w32_id (z := r + 1) (by omega) (by omega)]; exact y1
        · rw [if_neg g]; exact y3
        · rw [if_neg g]; exact y4
    · refine ⟨c, ?_, hF, ?_, ?_⟩
      · rw [c51_12, if_pos (by omega)]
        repeat (first | rw [bnd_s] | rw [tI_m] | rw [tL_m] | rw [tA_m] | rw [tV_m] | rw [fC131 hs _ (by decide)] | rw [pC131 hs _ _ (by decide)] | rw [p8] | rw [if_neg g0] | rw [c51_40])
      · rw [mx_top (fun j => (cntR_bV hM j).2) (by omega)]
      · rw [mx_top (fun j => (cntR_bV hM j).2) (by omega)]
theorem k51V (d : Nat) {n0 : Nat} (hI : Inv s b n0) {k : Nat} {m : Int} (m0 : 0 ≤ m) (m1 : m < b 143 0) (ha2 : 0 ≤ tx (800 * k + 3) ∧ tx (800 * k + 3) ≤ 2) (hP : PlayRV tx b k m) : ∃ c', Cd (d + 4) 51 [vA 131] (s, b) = some ([], (s, c')) ∧ PlF b c' ∧ c' 131 9 = (mx (cntRV tx b k m) (r3 (b 143 (20 + m).toNat)).toNat 0 (-1) (-1)).1 ∧ c' 131 11 = (mx (cntRV tx b k m) (r3 (b 143 (20 + m).toNat)).toNat 0 (-1) (-1)).2 := by
  have hs := hI.1.l
  have hM := hI.mok m m0 m1
  have rb := r3_b hM.2.1.2
  have n4 := hI.nM.2
  obtain ⟨c1, r1, f1, g1⟩ := k47 (d + 2) (c := b) hs
  have f2 : PlF b (u2 c1 131 9 (-1)) := f1.u (by omega) _
  have hI2 := f2.inv hI
  have e3 : u2 c1 131 9 (-1) 143 = b 143 := funext fun i => f2 _ _ (by omega) (by omega) (by omega)
  have hch := chN hs hI2.2.2.2.1 (m := m.toNat) (by omega)
  have hmr := (hI2.map (m := m.toNat) (by rw [e3]; omega)).1.1
  rw [Int.toNat_of_nonneg m0, e3] at hmr
  have p5 := (PlayR_ofV hP f2).1
  obtain ⟨c2, y1, y2, y3, y4⟩ := k51_12V d hI m0 m1 ha2 hP (r3 (b 143 (20 + m).toNat)).toNat 0 _ f2 (by omega) (by omega) none
  rw [u2_e, u2_n (by omega), g1 11 (by omega) (by omega)] at y3 y4
  refine ⟨c2, ?_, y2, y3, y4⟩
  rw [c51 (hg := gC131 hs b)]
  repeat (first | rw [bnd_s] | rw [tI_m] | rw [tL_m] | rw [tA_m] | rw [tV_m] | rw [fC131 hs _ (by decide)] | rw [pC131 hs _ _ (by decide)] | rw [r1] | rw [p5] | rw [gF_g hch.1.1 _ (by decide)] | rw [hmr] | rw [k163 _ _ (show 0 ≤ b 143 (20 + m).toNat by have := hM.2.1.1; omega) hM.2.1.2])
  exact y1
theorem k50_2V (d : Nat) {n0 : Nat} (hI : Inv s b n0) {k : Nat} {m : Int} (hP : PlayRV tx b k m) (hA : asN (tx (800 * k + 3)) (b 143 (20 + m).toNat) (b 143 (24 + m).toNat) ≤ 21) : ∀ (n : Nat) (i : Int) (c : Nat → Nat → Int), PlG b c → 0 ≤ i → i + n = asN (tx (800 * k + 3)) (b 143 (20 + m).toNat) (b 143 (24 + m).toNat) → rfD b c (9 * i) → ∀ o2 o3 o4, ∃ c', Rr (Cd (d + 2)) 50 2 [some (vA 131), some (vI i), o2, o3, o4] [] (s, c) = some ([], (s, c')) ∧ PlG b c' ∧ rfD b c' (9 * (asN (tx (800 * k + 3)) (b 143 (20 + m).toNat) (b 143 (24 + m).toNat)))
  | 0, i, c, hF, h0, h, hD, o2, o3, o4 => by
    have hs := hI.1.l
    have p8 : c 131 8 = asN (tx (800 * k + 3)) (b 143 (20 + m).toNat) (b 143 (24 + m).toNat) := (hF _ _ (by omega)).trans hP.2.2.2.1
    refine ⟨c, ?_, hF, by rw [show asN (tx (800 * k + 3)) (b 143 (20 + m).toNat) (b 143 (24 + m).toNat) = i by omega]; exact hD⟩
    rw [c50_2]
    repeat (first | rw [bnd_s] | rw [tI_m] | rw [tL_m] | rw [tA_m] | rw [tV_m] | rw [fC131 hs _ (by decide)] | rw [pC131 hs _ _ (by decide)] | rw [p8] | rw [if_neg (show ¬ i < asN (tx (800 * k + 3)) (b 143 (20 + m).toNat) (b 143 (24 + m).toNat) by omega)])
  | n + 1, i, c, hF, h0, h, hD, o2, o3, o4 => by
    have hs := hI.1.l
    have p8 : c 131 8 = asN (tx (800 * k + 3)) (b 143 (20 + m).toNat) (b 143 (24 + m).toNat) := (hF _ _ (by omega)).trans hP.2.2.2.1
    have g := hP.2.2.2.2 i h0 (by omega)
    obtain ⟨c', r, f, x⟩ := k50_8 d hI h0 (by omega) g.2.2.1 (fun c1 f1 d1 => k50_2V d hI hP hA n (i + 1) c1 f1 (by omega) (by omega) d1) 9 0 c hF (by decide) (by decide) (by rw [Int.add_zero]; exact hD) o3 o4
    refine ⟨c', ?_, f, x⟩
    rw [c50_2]
    repeat (first | rw [bnd_s] | rw [tI_m] | rw [tL_m] | rw [tA_m] | rw [tV_m] | rw [fC131 hs _ (by decide)] | rw [pC131 hs _ _ (by decide)] | rw [p8] | rw [if_pos (show i < asN (tx (800 * k + 3)) (b 143 (20 + m).toNat) (b 143 (24 + m).toNat) by omega)])
    exact r
def cnRV (tx : Nat → Int) (b : Nat → Nat → Int) (k : Nat) (m r i : Int) : Int := cnB (fun v => belRV tx b k m v i r) (tx (800 * k + 1))
def fsRV (tx : Nat → Int) (b : Nat → Nat → Int) (k : Nat) (m r i : Int) : Int := fsB (fun v => belRV tx b k m v i r) (tx (800 * k + 1))
def stRV (tx : Nat → Int) (b : Nat → Nat → Int) (k : Nat) (m r a i : Int) (q : Int × Int × Int × Int) : Int × Int × Int × Int := (q.1 + cnRV tx b k m r i, if q.1 = 0 ∧ 0 < cnRV tx b k m r i then (a, i, fsRV tx b k m r i) else q.2)
theorem cnR_ofV {b c : Nat → Nat → Int} (e3 : c 143 = b 143) (e5 : tx = tx) (k : Nat) (m r i : Int) : cnRV tx c k m r i = cnRV tx b k m r i := by
  unfold cnRV; rw [e5, show (fun v => belRV tx c k m v i r) = fun v => belRV tx b k m v i r from funext fun v => belR_ofV e3 e5 k m v i r]
theorem fsR_ofV {b c : Nat → Nat → Int} (e3 : c 143 = b 143) (e5 : tx = tx) (k : Nat) (m r i : Int) : fsRV tx c k m r i = fsRV tx b k m r i := by
  unfold fsRV; rw [e5, show (fun v => belRV tx c k m v i r) = fun v => belRV tx b k m v i r from funext fun v => belR_ofV e3 e5 k m v i r]
theorem stR_ofV {b c : Nat → Nat → Int} (e3 : c 143 = b 143) (e5 : tx = tx) (k : Nat) (m r a i : Int) : stRV tx c k m r a i = stRV tx b k m r a i := by
  funext q; unfold stRV; rw [cnR_ofV e3 e5, fsR_ofV e3 e5]
theorem rfMV {c : Nat → Nat → Int} {k : Nat} {m i r : Int} (hP : PlayRV tx c k m) (hw : tx (800 * k + 1) = 1 ∨ tx (800 * k + 1) = 2 ∨ tx (800 * k + 1) = 3 ∨ tx (800 * k + 1) = 6) (h0 : 0 ≤ i) (h1 : i < asN (tx (800 * k + 3)) (c 143 (20 + m).toNat) (c 143 (24 + m).toNat)) : (fun v => bt (c 134 i.toNat) (swO (pnt (c 143 (20 + m).toNat) r (asX c m (tx (800 * k + 3)) i) * 3 + pnt (c 143 (20 + m).toNat) r (asY c m (tx (800 * k + 3)) i)) v)) = (fun v => bt (c 134 i.toNat) (3 * swp v (pnt (c 143 (20 + m).toNat) r (asX c m (tx (800 * k + 3)) i)) + swp v (pnt (c 143 (20 + m).toNat) r (asY c m (tx (800 * k + 3)) i)))) := by
  funext v
  have p1 := pnt_b (c 143 (20 + m).toNat) r (asX c m (tx (800 * k + 3)) i)
  have p2 := pnt_b (c 143 (20 + m).toNat) r (asY c m (tx (800 * k + 3)) i)
  generalize pnt (c 143 (20 + m).toNat) r (asX c m (tx (800 * k + 3)) i) = P at *
  generalize pnt (c 143 (20 + m).toNat) r (asY c m (tx (800 * k + 3)) i) = Q at *
  unfold swO
  rw [show (P * 3 + Q) / 3 = P by omega, show (P * 3 + Q) % 3 = Q by omega, Int.mul_comm]
theorem rfNV {c : Nat → Nat → Int} {k : Nat} {m i r : Int} (hP : PlayRV tx c k m) (hw : tx (800 * k + 1) = 1 ∨ tx (800 * k + 1) = 2 ∨ tx (800 * k + 1) = 3 ∨ tx (800 * k + 1) = 6) (h0 : 0 ≤ i) (h1 : i < asN (tx (800 * k + 3)) (c 143 (20 + m).toNat) (c 143 (24 + m).toNat)) {x : Int} (hx : x = iand (rfA (c 134 i.toNat) (pnt (c 143 (20 + m).toNat) r (asX c m (tx (800 * k + 3)) i) * 3 + pnt (c 143 (20 + m).toNat) r (asY c m (tx (800 * k + 3)) i)) 6 0 0) (drw (tx (800 * k + 1)))) : (0 ≤ x ∧ x < 64) ∧ pop x = cnRV tx c k m r i ∧ (x = 0 → cnRV tx c k m r i = 0) ∧ (x ≠ 0 → ntz x = fsRV tx c k m r i ∧ 0 < cnRV tx c k m r i) := by
  rw [rfA_B, rfMV hP hw h0 h1, rfB_cg (g' := fun v => belRV tx c k m v i r) 6 0 0 (fun v v0 v1 => by
    have s1 := swp_bd v0 (show v < 6 by omega) (pnt_b (c 143 (20 + m).toNat) r (asX c m (tx (800 * k + 3)) i)).1 (pnt_b (c 143 (20 + m).toNat) r (asX c m (tx (800 * k + 3)) i)).2
    have s2 := swp_bd v0 (show v < 6 by omega) (pnt_b (c 143 (20 + m).toNat) r (asY c m (tx (800 * k + 3)) i)).1 (pnt_b (c 143 (20 + m).toNat) r (asY c m (tx (800 * k + 3)) i)).2
    exact (hP.2.2.2.2 i h0 h1).2.2.2 _ _ s1.1 s1.2 s2.1 s2.2)] at hx
  subst hx
  exact rf_ok _ hw
theorem k49_20V (d : Nat) {n0 : Nat} (hI : Inv s b n0) {k : Nat} {m : Int} (m0 : 0 ≤ m) (m1 : m < b 143 0) (ha2 : 0 ≤ tx (800 * k + 3) ∧ tx (800 * k + 3) ≤ 2) (hP : PlayRV tx b k m) (hw : tx (800 * k + 1) = 1 ∨ tx (800 * k + 1) = 2 ∨ tx (800 * k + 1) = 3 ∨ tx (800 * k + 1) = 6) (a : Int) {r : Int} (r0 : 0 ≤ r) (r1 : r < r3 (b 143 (20 + m).toNat)) : ∀ (n : Nat) (i : Int) (q : Int × Int × Int × Int) (c : Nat → Nat → Int), PlF b c → rfD b c (9 * (asN (tx (800 * k + 3)) (b 143 (20 + m).toNat) (b 143 (24 + m).toNat))) → QC c q → 0 ≤ i → i + n = asN (tx (800 * k + 3)) (b 143 (20 + m).toNat) (b 143 (24 + m).toNat) → 0 ≤ q.1 → q.1 + 6 * n < 2147483648 → ∀ o5, ∃ c' o5', Rr (Cd (d + 2)) 49 20 [some (vA 131), some (vI q.1), some (vI a), some (vI (pkR r (b 143 (20 + m).toNat))), some (vI i), o5] [] (s, c) = Rr (Cd (d + 2)) 49 20 [some (vA 131), some (vI (itU (stRV tx b k m r a) n i q).1), some (vI a), some (vI (pkR r (b 143 (20 + m).toNat))), some (vI (asN (tx (800 * k + 3)) (b 143 (20 + m).toNat) (b 143 (24 + m).toNat))), o5'] [] (s, c') ∧ PlF b c' ∧ rfD b c' (9 * (asN (tx (800 * k + 3)) (b 143 (20 + m).toNat) (b 143 (24 + m).toNat))) ∧ QC c' (itU (stRV tx b k m r a) n i q) ∧ 0 ≤ (itU (stRV tx b k m r a) n i q).1 ∧ (itU (stRV tx b k m r a) n i q).1 ≤ q.1 + 6 * n
  | 0, i, q, c, hF, hD, hQ, h0, h, g0, g1, o5 => ⟨c, o5, by simp only [itU]; rw [show i = asN (tx (800 * k + 3)) (b 143 (20 + m).toNat) (b 143 (24 + m).toNat) by omega], hF, hD, hQ, g0, by simp only [itU]; omega⟩
  | n + 1, i, q, c, hF, hD, hQ, h0, h, g0, g1, o5 => by
    have hI1 := hF.inv hI
    have hs := hI1.1.l
    have hc := hI1.2.2.2.1
    have hM := hI.mok m m0 m1
    have aN := asN_b (a := tx (800 * k + 3)) hM.2.1.1 hM.2.1.2 hM.2.2.1.1 hM.2.2.1.2
    have hi : i < asN (tx (800 * k + 3)) (b 143 (20 + m).toNat) (b 143 (24 + m).toNat) := by omega
    have p8 : c 131 8 = asN (tx (800 * k + 3)) (b 143 (20 + m).toNat) (b 143 (24 + m).toNat) := (hF _ _ (by omega) (by omega) (by omega)).trans hP.2.2.2.1
    have gi := hP.2.2.2.2 i h0 hi
    have e2 : c 132 i.toNat = asX b m (tx (800 * k + 3)) i := (hF _ _ (by omega) (by omega) (by omega)).trans gi.1
    have e3 : c 133 i.toNat = asY b m (tx (800 * k + 3)) i := (hF _ _ (by omega) (by omega) (by omega)).trans gi.2.1
    have bx := asX_b hM ha2 h0 hi
    have n7 := hM.2.1.2
    have pk := pk_ok hM.2.1.1 hM.2.1.2 r0 r1
    have e0 : opn (pkR r (b 143 (20 + m).toNat)) (asX b m (tx (800 * k + 3)) i) (asY b m (tx (800 * k + 3)) i) = pnt (b 143 (20 + m).toNat) r (asX b m (tx (800 * k + 3)) i) * 3 + pnt (b 143 (20 + m).toNat) r (asY b m (tx (800 * k + 3)) i) := by
      unfold opn; rw [pk.2 _ bx.1.1 bx.1.2, pk.2 _ bx.2.1 bx.2.2]
    have q1 := k166 d (s, c) pk.1.1 (by omega) bx.1.1 (by omega) bx.2.1 (by omega)
    rw [e0] at q1
    have p1 := pnt_b (b 143 (20 + m).toNat) r (asX b m (tx (800 * k + 3)) i)
    have p2 := pnt_b (b 143 (20 + m).toNat) r (asY b m (tx (800 * k + 3)) i)
    have zx : ∃ x, x = iand (rfA (b 134 i.toNat) (pnt (b 143 (20 + m).toNat) r (asX b m (tx (800 * k + 3)) i) * 3 + pnt (b 143 (20 + m).toNat) r (asY b m (tx (800 * k + 3)) i)) 6 0 0) (drw (tx (800 * k + 1))) := ⟨_, rfl⟩
    obtain ⟨x, zx⟩ := zx
    obtain ⟨xb, xp, x0, xn⟩ := rfNV hP hw h0 hi zx
    have cb := cnB_b (fun v => belRV tx b k m v i r) hw
    have cb : 0 ≤ cnRV tx b k m r i ∧ cnRV tx b k m r i ≤ 6 := cb
    generalize pnt (b 143 (20 + m).toNat) r (asX b m (tx (800 * k + 3)) i) = P at *
    generalize pnt (b 143 (20 + m).toNat) r (asY b m (tx (800 * k + 3)) i) = Q at *
    have ex : c 136 (i * 9 + (P * 3 + Q)).toNat = x := by
      rw [hD _ (by omega) (by omega), show (i * 9 + (P * 3 + Q)) / 9 = i by omega, show (i * 9 + (P * 3 + Q)) % 9 = P * 3 + Q by omega, hP.2.1, zx]
    have j4 := j284 (d + 1) (x := x) (s, c) xb.1 (by omega)
    simp only [itU]
    have st1 : (stRV tx b k m r a i q).1 = q.1 + cnRV tx b k m r i := rfl
    rw [c49_20]
    repeat (first | rw [bnd_s] | rw [tI_m] | rw [tL_m] | rw [tA_m] | rw [tV_m] | rw [fC131 hs _ (by decide)] | rw [pC131 hs _ _ (by decide)] | rw [p8] | rw [if_pos hi] | rw [CS_131_0 hc] | rw [CS_131_1 hc] | rw [CS_131_4 hc] | rw [aC132 hs _ h0 (by omega)] | rw [aC133 hs _ h0 (by omega)] | rw [e2] | rw [e3] | rw [q1] | rw [w32_id (z := i * 9) (by omega) (by omega)] | rw [w32_id (z := i * 9 + (P * 3 + Q)) (by omega) (by omega)] | rw [aC136 hs _ (show 0 ≤ i * 9 + (P * 3 + Q) by omega) (by omega)] | rw [ex])
    by_cases z : x = 0
    · have z2 := x0 z
      rw [if_pos z, c49_56]
      repeat (first | rw [bnd_s] | rw [tI_m] | rw [tL_m] | rw [tA_m] | rw [tV_m] | rw [j4] | rw [xp] | rw [w32_id (z := q.1 + cnRV tx b k m r i) (by omega) (by omega)] | rw [w32_id (z := i + 1) (by omega) (by omega)])
      have hq2 : QC c (stRV tx b k m r a i q) := by unfold stRV; rw [if_neg (fun w => by omega)]; exact hQ
      obtain ⟨c', o5', y1, y2, y3, y4, y5, y6⟩ := k49_20V d hI m0 m1 ha2 hP hw a r0 r1 n (i + 1) (stRV tx b k m r a i q) c hF hD hq2 (by omega) (by omega) (by omega) (by omega) (some (vI x))
      exact ⟨c', o5', by rw [← y1, st1], y2, y3, y4, y5, by omega⟩
    · obtain ⟨z2, z3⟩ := xn z
      rw [if_neg z]
      by_cases g : q.1 = 0
      · rw [if_pos g]
        have j3 := fun (hp : HP) => j283 (d + 1) (x := x) hp (by omega) xb.2
        have j4' := fun (hp : HP) => j284 (d + 1) (x := x) hp xb.1 (by omega)
        repeat (first | rw [bnd_s] | rw [tI_m] | rw [tL_m] | rw [tA_m] | rw [tV_m] | rw [fC131 hs _ (by decide)] | rw [pC131 hs _ _ (by decide)] | rw [j3] | rw [c49_56] | rw [j4'] | rw [xp] | rw [w32_id (z := q.1 + cnRV tx b k m r i) (by omega) (by omega)] | rw [w32_id (z := i + 1) (by omega) (by omega)])
        have hF2 : PlF b (u2 (u2 (u2 c 131 12 a) 131 13 i) 131 15 (ntz x)) := ((hF.u (by omega) _).u (by omega) _).u (by omega) _
        have hD2 : rfD b (u2 (u2 (u2 c 131 12 a) 131 13 i) 131 15 (ntz x)) (9 * (asN (tx (800 * k + 3)) (b 143 (20 + m).toNat) (b 143 (24 + m).toNat))) := fun j j0 j1 => by rw [u2_n (by omega), u2_n (by omega), u2_n (by omega)]; exact hD j j0 j1
        have hq2 : QC (u2 (u2 (u2 c 131 12 a) 131 13 i) 131 15 (ntz x)) (stRV tx b k m r a i q) := by
          unfold stRV; rw [if_pos ⟨g, z3⟩]
          exact ⟨by rw [u2_n (by omega), u2_n (by omega), u2_e], by rw [u2_n (by omega), u2_e], by rw [u2_e, z2]⟩
        obtain ⟨c', o5', y1, y2, y3, y4, y5, y6⟩ := k49_20V d hI m0 m1 ha2 hP hw a r0 r1 n (i + 1) (stRV tx b k m r a i q) _ hF2 hD2 hq2 (by omega) (by omega) (by omega) (by omega) (some (vI x))
        exact ⟨c', o5', by rw [← y1, st1], y2, y3, y4, y5, by omega⟩
      · rw [if_neg g, c49_56]
        repeat (first | rw [bnd_s] | rw [tI_m] | rw [tL_m] | rw [tA_m] | rw [tV_m] | rw [j4] | rw [xp] | rw [w32_id (z := q.1 + cnRV tx b k m r i) (by omega) (by omega)] | rw [w32_id (z := i + 1) (by omega) (by omega)])
        have hq2 : QC c (stRV tx b k m r a i q) := by unfold stRV; rw [if_neg (fun w => g w.1)]; exact hQ
        obtain ⟨c', o5', y1, y2, y3, y4, y5, y6⟩ := k49_20V d hI m0 m1 ha2 hP hw a r0 r1 n (i + 1) (stRV tx b k m r a i q) c hF hD hq2 (by omega) (by omega) (by omega) (by omega) (some (vI x))
        exact ⟨c', o5', by rw [← y1, st1], y2, y3, y4, y5, by omega⟩
def rgIV (tx : Nat → Int) (b : Nat → Nat → Int) (k : Nat) (m : Int) (a : Int) (q : Int × Int × Int × Int) : Int × Int × Int × Int := itU (stRV tx b k m ((ansL b m).getD a.toNat 0) a) (asN (tx (800 * k + 3)) (b 143 (20 + m).toNat) (b 143 (24 + m).toNat)).toNat 0 q
theorem k49_8V (d : Nat) {n0 : Nat} (hI : Inv s b n0) {k : Nat} {m : Int} (m0 : 0 ≤ m) (m1 : m < b 143 0) (ha2 : 0 ≤ tx (800 * k + 3) ∧ tx (800 * k + 3) ≤ 2) (hP : PlayRV tx b k m) (hA : AnsC s b (40 + 5 * m.toNat) (b 143 (20 + m).toNat) (ansL b m)) (hw : tx (800 * k + 1) = 1 ∨ tx (800 * k + 1) = 2 ∨ tx (800 * k + 1) = 3 ∨ tx (800 * k + 1) = 6) : ∀ (n : Nat) (a : Int) (q : Int × Int × Int × Int) (c : Nat → Nat → Int), PlF b c → rfD b c (9 * (asN (tx (800 * k + 3)) (b 143 (20 + m).toNat) (b 143 (24 + m).toNat))) → QC c q → 0 ≤ a → a + n = (ansL b m).length → 0 ≤ q.1 → q.1 + 126 * n < 2147483648 → ∀ o3 o4 o5, ∃ c', Rr (Cd (d + 2)) 49 8 [some (vA 131), some (vI q.1), some (vI a), o3, o4, o5] [] (s, c) = some ([vI (itU (rgIV tx b k m) n a q).1], (s, c')) ∧ PlF b c' ∧ QC c' (itU (rgIV tx b k m) n a q)
  | 0, a, q, c, hF, hD, hQ, h0, h, g0, g1, o3, o4, o5 => by
    have hI1 := hF.inv hI
    have hs := hI1.1.l
    have hc := hI1.2.2.2.1
    have n4 := hI.nM.2
    have hch := chN hs hc (m := m.toNat) (by omega)
    have p5 := (PlayR_ofV hP hF).1
    have p8 : c (40 + 5 * m.toNat) 8 = (ansL b m).length := (hF _ _ (by omega) (by omega) (by omega)).trans hA.2.1
    refine ⟨c, ?_, hF, hQ⟩
    rw [c49_8]
    repeat (first | rw [bnd_s] | rw [tI_m] | rw [tL_m] | rw [tA_m] | rw [tV_m] | rw [fC131 hs _ (by decide)] | rw [pC131 hs _ _ (by decide)] | rw [p5] | rw [gF_g hch.1.1 _ (by decide)] | rw [p8] | rw [if_neg (show ¬ a < ((ansL b m).length : Int) by omega)])
    rfl
  | n + 1, a, q, c, hF, hD, hQ, h0, h, g0, g1, o3, o4, o5 => by
    have hI1 := hF.inv hI
    have hs := hI1.1.l
    have hc := hI1.2.2.2.1
    have n4 := hI.nM.2
    have hM := hI.mok m m0 m1
    have aN := asN_b (a := tx (800 * k + 3)) hM.2.1.1 hM.2.1.2 hM.2.2.1.1 hM.2.2.1.2
    have hch := chN hs hc (m := m.toNat) (by omega)
    have p5 := (PlayR_ofV hP hF).1
    have p8 : c (40 + 5 * m.toNat) 8 = (ansL b m).length := (hF _ _ (by omega) (by omega) (by omega)).trans hA.2.1
    have ll := ansL_len hM
    have al := ansL_at hM (i := a.toNat) (by omega)
    have hA1 : AnsC s c (40 + 5 * m.toNat) (b 143 (20 + m).toNat) (ansL b m) := AnsC_of hA ⟨[], by simp⟩ (fun k => hF _ _ (by omega) (by omega) (by omega)) (fun r hr _ => ⟨funext fun k => hF _ _ (by omega) (by omega) (by omega), funext fun k => hF _ _ (by omega) (by omega) (by omega)⟩)
    have q15 := k15 (d + 1) hch hA1 (by omega) a
    rw [if_pos ⟨h0, by omega⟩] at q15
    obtain ⟨c1, o5', y1, y2, y3, y4, y5, y6⟩ := k49_20V d hI m0 m1 ha2 hP hw a al.1 al.2.1 (asN (tx (800 * k + 3)) (b 143 (20 + m).toNat) (b 143 (24 + m).toNat)).toNat 0 q c hF hD hQ (by omega) (by omega) g0 (by omega) o5
    obtain ⟨c2, z1, z2, z3⟩ := k49_8V d hI m0 m1 ha2 hP hA hw n (a + 1) (rgIV tx b k m a q) c1 y2 y3 y4 (by omega) (by omega) y5 (by unfold rgIV; omega) (some (vI (pkR ((ansL b m).getD a.toNat 0) (b 143 (20 + m).toNat)))) (some (vI (asN (tx (800 * k + 3)) (b 143 (20 + m).toNat) (b 143 (24 + m).toNat)))) o5'
    have p8' : c1 131 8 = asN (tx (800 * k + 3)) (b 143 (20 + m).toNat) (b 143 (24 + m).toNat) := (y2 _ _ (by omega) (by omega) (by omega)).trans hP.2.2.2.1
    refine ⟨c2, ?_, z2, z3⟩
    rw [c49_8]
    repeat (first | rw [bnd_s] | rw [tI_m] | rw [tL_m] | rw [tA_m] | rw [tV_m] | rw [fC131 hs _ (by decide)] | rw [pC131 hs _ _ (by decide)] | rw [p5] | rw [gF_g hch.1.1 _ (by decide)] | rw [p8] | rw [if_pos (show a < ((ansL b m).length : Int) by omega)] | rw [q15] | rw [y1])
    rw [c49_20]
    repeat (first | rw [bnd_s] | rw [tI_m] | rw [tL_m] | rw [tA_m] | rw [tV_m] | rw [fC131 hs _ (by decide)] | rw [pC131 hs _ _ (by decide)] | rw [p8'] | rw [if_neg (show ¬ asN (tx (800 * k + 3)) (b 143 (20 + m).toNat) (b 143 (24 + m).toNat) < asN (tx (800 * k + 3)) (b 143 (20 + m).toNat) (b 143 (24 + m).toNat) by omega)] | rw [w32_id (z := a + 1) (by omega) (by omega)])
    exact z1
def rgTV (tx : Nat → Int) (b : Nat → Nat → Int) (k : Nat) (m : Int) : Int × Int × Int × Int := itU (rgIV tx b k m) (ansL b m).length 0 (0, -1, -1, -1)
theorem k49V (d : Nat) {n0 : Nat} (hI : Inv s b n0) {k : Nat} {m : Int} (m0 : 0 ≤ m) (m1 : m < b 143 0) (ha2 : 0 ≤ tx (800 * k + 3) ∧ tx (800 * k + 3) ≤ 2) (hP : PlayRV tx b k m) (hA : AnsC s b (40 + 5 * m.toNat) (b 143 (20 + m).toNat) (ansL b m)) (hw : tx (800 * k + 1) = 1 ∨ tx (800 * k + 1) = 2 ∨ tx (800 * k + 1) = 3 ∨ tx (800 * k + 1) = 6) : ∃ c', Cd (d + 4) 49 [vA 131] (s, b) = some ([vI (rgTV tx b k m).1], (s, c')) ∧ PlF b c' ∧ QC c' (rgTV tx b k m) := by
  have hs := hI.1.l
  have hM := hI.mok m m0 m1
  have aN := asN_b (a := tx (800 * k + 3)) hM.2.1.1 hM.2.1.2 hM.2.2.1.1 hM.2.2.1.2
  have ll := ansL_len hM
  obtain ⟨c1, r1, f1, g1⟩ := k47 (d + 2) (c := b) hs
  have z3 : c1 143 = b 143 := funext fun i => f1 _ _ (by omega) (by omega) (by omega)
  have z5 : tx = tx := rfl
  have aN2 := aN
  rw [← z3, ← z5] at aN2
  obtain ⟨c2, r2, f2, g2⟩ := k50_2V d (f1.inv hI) (PlayR_ofV hP f1) aN2.2 (asN (tx (800 * k + 3)) (c1 143 (20 + m).toNat) (c1 143 (24 + m).toNat)).toNat 0 c1 (fun _ _ _ => rfl) (by omega) (by omega) (fun j j0 j1 => by omega) none none none
  rw [z3, z5] at g2
  have g2' : rfD b c2 (9 * (asN (tx (800 * k + 3)) (b 143 (20 + m).toNat) (b 143 (24 + m).toNat))) := fun j j0 j1 => by
    rw [g2 j j0 j1, f1 134 _ (by omega) (by omega) (by omega), f1 131 6 (by omega) (by omega) (by omega)]
  have r2' : Cd (d + 3) 50 [vA 131] (s, c1) = some ([], (s, c2)) := by
    rw [c50 (hg := gC131 hs _)]; exact r2
  have e : ∀ i, 9 ≤ i → i ≤ 16 → c2 131 i = c1 131 i := fun i _ _ => f2 131 i (by omega)
  have f2' : PlF b c2 := fun o i h1 h2 h3 => (f2 o i h3).trans (f1 o i h1 h2 h3)
  obtain ⟨c3, r3, f3, g3⟩ := k49_8V (d + 1) hI m0 m1 ha2 hP hA hw (ansL b m).length 0 (0, -1, -1, -1) c2 f2' g2' ⟨by rw [e _ (by omega) (by omega)]; exact g1 12 (by omega) (by omega), by rw [e _ (by omega) (by omega)]; exact g1 13 (by omega) (by omega), by rw [e _ (by omega) (by omega)]; exact g1 15 (by omega) (by omega)⟩ (by omega) (by omega) (by decide) (by show (0 : Int) + 126 * _ < 2147483648; omega) none none none
  refine ⟨c3, ?_, f3, g3⟩
  rw [c49 (hg := gC131 hs _)]
  repeat (first | rw [bnd_s] | rw [tI_m] | rw [tL_m] | rw [tA_m] | rw [tV_m] | rw [r1] | rw [r2'])
  exact r3
theorem MPV.n224 (d : Nat) (hs : SpL s) {k : Nat} {m : Int} (h : MPV tx b k m) : Cd (d + 1) 224 [vA 142, vI m] (s, b) = some ([vI (asN (tx (800 * k + 3)) (b 143 (20 + m).toNat) (b 143 (24 + m).toNat))], (s, b)) := m224 d hs h.1.1 h.1.2.2.2.2.1 h.1.2.2.2.2.2 h.2.1
def stMV (tx : Nat → Int) (b : Nat → Nat → Int) (k : Nat) (m r a i : Int) (n : Nat) (v : Int) (q : Int × Int × Int × Int) : Int × Int × Int × Int := (q.1 + sumU (fun v => b2i (!belRV tx b k m (drS (tx (800 * k + 1)) v) i r)) n v, if q.1 = 0 ∧ 0 < sumU (fun v => b2i (!belRV tx b k m (drS (tx (800 * k + 1)) v) i r)) n v then (a, i, (fnd (fun v => if belRV tx b k m (drS (tx (800 * k + 1)) v) i r then none else some (drS (tx (800 * k + 1)) v)) n v).getD (-1)) else q.2)
theorem stM_RV (b : Nat → Nat → Int) (k : Nat) (m r a i : Int) (q : Int × Int × Int × Int) : stMV tx b k m r a i (tx (800 * k + 1)).toNat 0 q = stRV tx b k m r a i q := rfl
theorem stM_0V (b : Nat → Nat → Int) (k : Nat) (m r a i v : Int) (q : Int × Int × Int × Int) : stMV tx b k m r a i 0 v q = q := by
  unfold stMV; simp [sumU]
theorem stM_tV {b : Nat → Nat → Int} {k : Nat} {m r a i v : Int} (h : belRV tx b k m (drS (tx (800 * k + 1)) v) i r = true) (n : Nat) (q : Int × Int × Int × Int) : stMV tx b k m r a i (n + 1) v q = stMV tx b k m r a i n (v + 1) q := by
  unfold stMV
  simp only [sumU, fnd, h, Bool.not_true, b2i_f, Int.zero_add, if_true]
theorem stM_fV {b : Nat → Nat → Int} {k : Nat} {m r a i v : Int} (h : belRV tx b k m (drS (tx (800 * k + 1)) v) i r = false) (n : Nat) (q : Int × Int × Int × Int) (h0 : 0 ≤ q.1) : stMV tx b k m r a i (n + 1) v q = stMV tx b k m r a i n (v + 1) (q.1 + 1, if q.1 = 0 then (a, i, drS (tx (800 * k + 1)) v) else q.2) := by
  have nn := (sumU_b (B := 1) (fun v => b2i (!belRV tx b k m (drS (tx (800 * k + 1)) v) i r)) n (v + 1) (fun i _ _ => b2i_b _)).1
  unfold stMV
  simp only [sumU, fnd, h, Bool.not_false, b2i_t, Bool.false_eq_true, if_false]
  rw [if_neg (show ¬ (q.1 + 1 = 0 ∧ _) from fun w => by have := w.1; omega), Int.add_assoc]
  by_cases g : q.1 = 0
  · rw [if_pos ⟨g, by omega⟩, if_pos g]; rfl
  · rw [if_neg (fun w => g w.1), if_neg g]
theorem m234_29V (d : Nat) (hs : SpL s) {k : Nat} {m : Int} (hP : MPV tx b k m) {a r i : Int} (a0 : 0 ≤ a) (a1 : a < 2187) (er : b 148 a.toNat = r) (r0 : 0 ≤ r) (r1 : r < 2187) (i0 : 0 ≤ i) (i1 : i < asN (tx (800 * k + 3)) (b 143 (20 + m).toNat) (b 143 (24 + m).toNat)) : ∀ (n : Nat) (v : Int) (q : Int × Int × Int × Int) (c : Nat → Nat → Int), Fm [152, 153, 154] [32, 33, 34] b c → QM c q → 0 ≤ v → v + n = tx (800 * k + 1) → 0 ≤ q.1 → q.1 + n < 2147483648 → ∃ c', Rr (Cd (d + 5)) 234 29 [some (vA 142), some (vI m), some (vI q.1), some (vI a), some (vI i), some (vI v)] [] (s, c) = Rr (Cd (d + 5)) 234 29 [some (vA 142), some (vI m), some (vI (stMV tx b k m r a i n v q).1), some (vI a), some (vI i), some (vI (tx (800 * k + 1)))] [] (s, c') ∧ Fm [152, 153, 154] [32, 33, 34] b c' ∧ QM c' (stMV tx b k m r a i n v q)
  | 0, v, q, c, hF, hQ, h0, h, g0, g1 => ⟨c, by rw [stM_0V, show v = tx (800 * k + 1) by omega], hF, by rw [stM_0V]; exact hQ⟩
  | n + 1, v, Q, c, hF, hQ, h0, h, g0, g1 => by
    obtain ⟨hP1, e3, e5⟩ := hP.mv hF (by decide)
    have hm1 := hP1.1.1
    have wd := drS_b hP.2.2.2.1 h0 (by omega)
    have w6 : tx (800 * k + 1) ≤ 6 := by have := hP.2.2.2.1; omega
    have e25 : c 142 25 = tx (800 * k + 1) := (hF.2 25 (by decide)).trans hP.2.2.1
    have e8 : c 148 a.toNat = r := by rw [hF.1 148 (by decide) (by decide)]; exact er
    have q3 := m223 (d + 4) hs e25 h0 (by omega)
    obtain ⟨c1, q, f⟩ := hP1.n232 d hs i0 (by rw [e3, e5]; exact i1) r0 r1 wd.1 wd.2
    rw [belR_ofV e3 e5] at q
    have hF1 : Fm [152, 153, 154] [32, 33, 34] b c1 := hF.tr (f.mono (by decide) (by decide))
    have hQ1 : QM c1 Q := ⟨(f.2 32 (by decide)).trans hQ.1, (f.2 33 (by decide)).trans hQ.2.1, (f.2 34 (by decide)).trans hQ.2.2⟩
    rw [c234_29]
    repeat (first | rw [bnd_s] | rw [tI_m] | rw [tL_m] | rw [tA_m] | rw [tV_m] | rw [fC142 hs _ (by decide)] | rw [pC142 hs _ _ (by decide)] | rw [MS_0 hm1] | rw [MS_1 hm1] | rw [MS_2 hm1] | rw [MS_3 hm1] | rw [MS_4 hm1] | rw [MS_5 hm1] | rw [MS_7 hm1] | rw [MS_8 hm1] | rw [MS_21 hm1] | rw [MS_29 hm1] | rw [MS_30 hm1] | rw [MS_31 hm1] | rw [MS_37 hm1] | rw [MS_38 hm1] | rw [MS_39 hm1] | rw [MS_40 hm1] | rw [e25] | rw [if_pos (show v < tx (800 * k + 1) by omega)] | rw [aC148 hs _ a0 a1] | rw [e8] | rw [q3] | rw [q] | rw [if_b0])
    by_cases B : belRV tx b k m (drS (tx (800 * k + 1)) v) i r = true
    · rw [B, cond_t, stM_tV B, c234_62, w32_id (z := v + 1) (by omega) (by omega)]
      exact m234_29V d hs hP a0 a1 er r0 r1 i0 i1 n (v + 1) Q c1 hF1 hQ1 (by omega) (by omega) g0 (by omega)
    · have B := Bool.eq_false_iff.mpr B
      rw [B, cond_f, stM_fV B _ _ g0, w32_id (z := Q.1 + 1) (by omega) (by omega)]
      by_cases z : Q.1 = 0
      · rw [if_neg (by omega), if_pos z]
        have hF2 : Fm [152, 153, 154] [32, 33, 34] b (u2 (u2 (u2 c1 142 32 a) 142 33 i) 142 34 (drS (tx (800 * k + 1)) v)) := ((hF1.f _ (by decide)).f _ (by decide)).f _ (by decide)
        have q3' := m223 (d + 4) (c := u2 (u2 c1 142 32 a) 142 33 i) hs (w := tx (800 * k + 1)) (by rw [u2_n (by omega), u2_n (by omega)]; exact (f.2 25 (by decide)).trans e25) h0 (by omega)
        have hQ2 : QM (u2 (u2 (u2 c1 142 32 a) 142 33 i) 142 34 (drS (tx (800 * k + 1)) v)) (Q.1 + 1, a, i, drS (tx (800 * k + 1)) v) := ⟨by rw [u2_n (by omega), u2_n (by omega), u2_e], by rw [u2_n (by omega), u2_e], by rw [u2_e]⟩
        repeat (first | rw [bnd_s] | rw [tI_m] | rw [tL_m] | rw [tA_m] | rw [tV_m] | rw [fC142 hs _ (by decide)] | rw [pC142 hs _ _ (by decide)] | rw [q3'] | rw [c234_62] | rw [w32_id (z := v + 1) (by omega) (by omega)])
        exact m234_29V d hs hP a0 a1 er r0 r1 i0 i1 n (v + 1) (Q.1 + 1, a, i, drS (tx (800 * k + 1)) v) _ hF2 hQ2 (by omega) (by omega) (by show 0 ≤ Q.1 + 1; omega) (by show Q.1 + 1 + (n : Int) < 2147483648; omega)
      · rw [if_pos (by omega), if_neg z, c234_62, w32_id (z := v + 1) (by omega) (by omega)]
        exact m234_29V d hs hP a0 a1 er r0 r1 i0 i1 n (v + 1) (Q.1 + 1, Q.2) c1 hF1 hQ1 (by omega) (by omega) (by show 0 ≤ Q.1 + 1; omega) (by show Q.1 + 1 + (n : Int) < 2147483648; omega)
theorem stR_bV {k : Nat} {m r a i : Int} (hw : tx (800 * k + 1) = 1 ∨ tx (800 * k + 1) = 2 ∨ tx (800 * k + 1) = 3 ∨ tx (800 * k + 1) = 6) (q : Int × Int × Int × Int) (h : 0 ≤ q.1) : 0 ≤ (stRV tx b k m r a i q).1 ∧ (stRV tx b k m r a i q).1 ≤ q.1 + 6 := by
  have cb : 0 ≤ cnRV tx b k m r i ∧ cnRV tx b k m r i ≤ 6 := cnB_b (fun v => belRV tx b k m v i r) hw
  have : (stRV tx b k m r a i q).1 = q.1 + cnRV tx b k m r i := rfl
  omega
theorem m234_22V (d : Nat) (hs : SpL s) {k : Nat} {m : Int} (hP : MPV tx b k m) {a r : Int} (a0 : 0 ≤ a) (a1 : a < 2187) (er : b 148 a.toNat = r) (r0 : 0 ≤ r) (r1 : r < 2187) : ∀ (n : Nat) (i : Int) (q : Int × Int × Int × Int) (c : Nat → Nat → Int), Fm [152, 153, 154] [32, 33, 34] b c → QM c q → 0 ≤ i → i + n = asN (tx (800 * k + 3)) (b 143 (20 + m).toNat) (b 143 (24 + m).toNat) → 0 ≤ q.1 → q.1 + 6 * n < 2147483648 → ∀ o5, ∃ c' o5', Rr (Cd (d + 5)) 234 22 [some (vA 142), some (vI m), some (vI q.1), some (vI a), some (vI i), o5] [] (s, c) = Rr (Cd (d + 5)) 234 16 [some (vA 142), some (vI m), some (vI (itU (stRV tx b k m r a) n i q).1), some (vI (a + 1)), some (vI (asN (tx (800 * k + 3)) (b 143 (20 + m).toNat) (b 143 (24 + m).toNat))), o5'] [] (s, c') ∧ Fm [152, 153, 154] [32, 33, 34] b c' ∧ QM c' (itU (stRV tx b k m r a) n i q) ∧ 0 ≤ (itU (stRV tx b k m r a) n i q).1 ∧ (itU (stRV tx b k m r a) n i q).1 ≤ q.1 + 6 * n
  | 0, i, q, c, hF, hQ, h0, h, g0, g1, o5 => by
    obtain ⟨hP1, e3, e5⟩ := hP.mv hF (by decide)
    have q4 := hP1.n224 (d + 4) hs
    rw [e3, e5] at q4
    refine ⟨c, o5, ?_, hF, hQ, g0, by simp only [itU]; omega⟩
    rw [c234_22]
    repeat (first | rw [bnd_s] | rw [tI_m] | rw [tL_m] | rw [tA_m] | rw [tV_m] | rw [q4] | rw [if_neg (show ¬ i < asN (tx (800 * k + 3)) (b 143 (20 + m).toNat) (b 143 (24 + m).toNat) by omega)] | rw [w32_id (z := a + 1) (by omega) (by omega)])
    simp only [itU]
    rw [show i = asN (tx (800 * k + 3)) (b 143 (20 + m).toNat) (b 143 (24 + m).toNat) by omega]
  | n + 1, i, q, c, hF, hQ, h0, h, g0, g1, o5 => by
    obtain ⟨hP1, e3, e5⟩ := hP.mv hF (by decide)
    have hM := hP.1.2.2.2.2.1
    have aN := asN_b (a := tx (800 * k + 3)) hM.2.1.1 hM.2.1.2 hM.2.2.1.1 hM.2.2.1.2
    have q4 := hP1.n224 (d + 4) hs
    rw [e3, e5] at q4
    have w6 : 1 ≤ tx (800 * k + 1) ∧ tx (800 * k + 1) ≤ 6 := by have := hP.2.2.2.1; omega
    obtain ⟨c1, y1, y2, y3⟩ := m234_29V d hs hP a0 a1 er r0 r1 h0 (by omega) (tx (800 * k + 1)).toNat 0 q c hF hQ (by omega) (by omega) g0 (by omega)
    rw [stM_RV] at y1 y3
    have sb := stR_bV (tx := tx) (b := b) (m := m) (r := r) (a := a) (i := i) hP.2.2.2.1 q g0
    obtain ⟨c2, o5', z1, z2, z3, z4, z5⟩ := m234_22V d hs hP a0 a1 er r0 r1 n (i + 1) (stRV tx b k m r a i q) c1 y2 y3 (by omega) (by omega) sb.1 (by omega) (some (vI (tx (800 * k + 1))))
    have e25 : c1 142 25 = tx (800 * k + 1) := (y2.2 25 (by decide)).trans hP.2.2.1
    refine ⟨c2, o5', ?_, z2, z3, z4, by simp only [itU]; omega⟩
    simp only [itU]
    rw [← z1, c234_22]
    repeat (first | rw [bnd_s] | rw [tI_m] | rw [tL_m] | rw [tA_m] | rw [tV_m] | rw [q4] | rw [if_pos (show i < asN (tx (800 * k + 3)) (b 143 (20 + m).toNat) (b 143 (24 + m).toNat) by omega)])
    rw [y1, c234_29]
    repeat (first | rw [bnd_s] | rw [tI_m] | rw [tL_m] | rw [tA_m] | rw [tV_m] | rw [fC142 hs _ (by decide)] | rw [pC142 hs _ _ (by decide)] | rw [e25] | rw [if_neg (show ¬ tx (800 * k + 1) < tx (800 * k + 1) by omega)] | rw [w32_id (z := i + 1) (by omega) (by omega)])
theorem m234_16V (d : Nat) (hs : SpL s) {k : Nat} {m : Int} (hP : MPV tx b k m) (hA : AnsAt b (ansL b m)) : ∀ (n : Nat) (a : Int) (q : Int × Int × Int × Int) (c : Nat → Nat → Int), Fm [152, 153, 154] [32, 33, 34] b c → QM c q → 0 ≤ a → a + n = (ansL b m).length → 0 ≤ q.1 → q.1 + 126 * n < 2147483648 → ∀ o4 o5, ∃ c', Rr (Cd (d + 5)) 234 16 [some (vA 142), some (vI m), some (vI q.1), some (vI a), o4, o5] [] (s, c) = some ([vI (itU (rgIV tx b k m) n a q).1], (s, c')) ∧ Fm [152, 153, 154] [32, 33, 34] b c' ∧ QM c' (itU (rgIV tx b k m) n a q)
  | 0, a, q, c, hF, hQ, h0, h, g0, g1, o4, o5 => by
    have e6 : c 142 6 = (ansL b m).length := (hF.2 6 (by decide)).trans hA.1
    refine ⟨c, ?_, hF, hQ⟩
    rw [c234_16]
    repeat (first | rw [bnd_s] | rw [tI_m] | rw [tL_m] | rw [tA_m] | rw [tV_m] | rw [fC142 hs _ (by decide)] | rw [pC142 hs _ _ (by decide)] | rw [e6] | rw [if_neg (show ¬ a < ((ansL b m).length : Int) by omega)])
    rfl
  | n + 1, a, q, c, hF, hQ, h0, h, g0, g1, o4, o5 => by
    have hM := hP.1.2.2.2.2.1
    have aN := asN_b (a := tx (800 * k + 3)) hM.2.1.1 hM.2.1.2 hM.2.2.1.1 hM.2.2.1.2
    have ll := ansL_len hM
    have al := ansL_at hM (i := a.toNat) (by omega)
    have e6 : c 142 6 = (ansL b m).length := (hF.2 6 (by decide)).trans hA.1
    obtain ⟨c1, o5', y1, y2, y3, y4, y5⟩ := m234_22V d hs hP h0 (by omega) (hA.2 a.toNat (by omega)) al.1 al.2.2.1 (asN (tx (800 * k + 3)) (b 143 (20 + m).toNat) (b 143 (24 + m).toNat)).toNat 0 q c hF hQ (by omega) (by omega) g0 (by omega) o5
    obtain ⟨c2, z1, z2, z3⟩ := m234_16V d hs hP hA n (a + 1) (rgIV tx b k m a q) c1 y2 y3 (by omega) (by omega) y4 (by unfold rgIV; omega) (some (vI (asN (tx (800 * k + 3)) (b 143 (20 + m).toNat) (b 143 (24 + m).toNat)))) o5'
    refine ⟨c2, ?_, z2, z3⟩
    rw [c234_16]
    repeat (first | rw [bnd_s] | rw [tI_m] | rw [tL_m] | rw [tA_m] | rw [tV_m] | rw [fC142 hs _ (by decide)] | rw [pC142 hs _ _ (by decide)] | rw [e6] | rw [if_pos (show a < ((ansL b m).length : Int) by omega)])
    rw [y1]
    exact z1
theorem rgI_ofV {b c : Nat → Nat → Int} (e3 : c 143 = b 143) (e5 : tx = tx) (k : Nat) (m : Int) : rgIV tx c k m = rgIV tx b k m := by
  funext a q; unfold rgIV; rw [ansL_of e3, e3, e5]; exact itU_cg _ _ _ (fun i _ _ => stR_ofV e3 e5 _ _ _ _ _)
theorem m236V (d : Nat) (hs : SpL s) {k : Nat} {m : Int} (hP : MPV tx b k m) : ∃ c', Cd (d + 6) 236 [vA 142, vI m] (s, b) = some ([], (s, c')) ∧ Fm [152, 153, 154] [35, 36] b c' ∧ c' 142 36 = (mx (cntRV tx b k m) (r3 (b 143 (20 + m).toNat)).toNat 0 (-1) (-1)).1 := by
  have hM := hP.1.2.2.2.2.1
  have rb := r3_b hM.2.1.2
  have z : ∃ b', b' = u2 b 142 36 (-1) := ⟨_, rfl⟩
  obtain ⟨b', zb⟩ := z
  have bf : Fm [] [36] b b' := by rw [zb]; exact (Fm.rf _ _ _).f _ (by decide)
  obtain ⟨P, b3, b5⟩ := hP.mv bf (by decide)
  obtain ⟨c3, y1, yf, y36, y35⟩ := m236_5V d hs P (r3 (b 143 (20 + m).toNat)).toNat 0 b' (Fm.rf _ _ _) (by omega) (by rw [b3]; omega) none none
  have cn : cntRV tx b' k m = cntRV tx b k m := funext fun r => by
    unfold cntRV; rw [b3, b5]
    exact sumU_cg _ _ (fun i _ _ => by rw [belR_ofV b3 b5])
  have b36 : b' 142 36 = -1 := by rw [zb, u2_e]
  rw [b36, cn, mx_0 (fun j => (cntR_bV hM j).1) (by omega) _ (-1)] at y36
  refine ⟨c3, ?_, (bf.mono (by decide) (by decide)).tr yf, y36⟩
  rw [c236 (hg := gC142 hs _)]
  repeat (first | rw [bnd_s] | rw [tI_m] | rw [tL_m] | rw [tA_m] | rw [tV_m] | rw [fC142 hs _ (by decide)] | rw [pC142 hs _ _ (by decide)])
  rw [← zb]; exact y1
def opRV (tx : Nat → Int) (b : Nat → Nat → Int) (k : Nat) (m i r v : Int) : Int := oE (pnt (b 143 (20 + m).toNat) r (asX b m (tx (800 * k + 3)) i)) (pnt (b 143 (20 + m).toNat) r (asY b m (tx (800 * k + 3)) i)) v
theorem MPV.fo {o : Nat} {b c : Nat → Nat → Int} {k : Nat} {m : Int} (h : MPV tx b k m) (f : FO o b c) (ho : o = 157 ∨ o = 158) : MPV tx c k m ∧ c 143 = b 143 ∧ tx = tx := h.mv (f.fm ho) (by decide)
theorem opR_ofV {b c : Nat → Nat → Int} (e3 : c 143 = b 143) (e5 : tx = tx) (k : Nat) (m i r : Int) : opRV tx c k m i r = opRV tx b k m i r := by
  funext v; unfold opRV; rw [e3, e5, asX_of e3, asY_of e3]
theorem m241V (d : Nat) (hs : SpL s) {k : Nat} {m : Int} (hP : MPV tx b k m) {i r v : Int} (i0 : 0 ≤ i) (i1 : i < asN (tx (800 * k + 3)) (b 143 (20 + m).toNat) (b 143 (24 + m).toNat)) (r0 : 0 ≤ r) (r1 : r < 2187) (v0 : 0 ≤ v) (v1 : v < 6) : Cd (d + 4) 241 [vA 142, vI m, vI i, vI r, vI v] (s, b) = some ([vI (opRV tx b k m i r v)], (s, b)) := by
  have hm := hP.1.1
  have hM := hP.1.2.2.2.2.1
  have ha := hP.1.2.2.2.2.2
  have bx := asX_b hM hP.2.1 i0 i1
  have p1 := pnt_b (b 143 (20 + m).toNat) r (asX b m (tx (800 * k + 3)) i)
  have p2 := pnt_b (b 143 (20 + m).toNat) r (asY b m (tx (800 * k + 3)) i)
  have s1 := swp_bd v0 v1 p1.1 p1.2
  have s2 := swp_bd v0 v1 p2.1 p2.2
  rw [c241 (hg := gC142 hs b)]
  repeat (first | rw [bnd_s] | rw [tI_m] | rw [tL_m] | rw [tA_m] | rw [tV_m] | rw [m225 (d + 1) hs hm hM ha hP.2.1 i0 i1] | rw [m226 d hs hm hM ha hP.2.1 i0 i1] | rw [m181 (d + 2) hs hm hM r0 r1 bx.1.1 bx.1.2] | rw [m181 (d + 2) hs hm hM r0 r1 bx.2.1 bx.2.2] | rw [m174 (d + 2) hs hm v0 v1 p1.1 p1.2] | rw [m174 (d + 2) hs hm v0 v1 p2.1 p2.2] | rw [w32_id (z := 3 * swp v (pnt (b 143 (20 + m).toNat) r (asX b m (tx (800 * k + 3)) i))) (by omega) (by omega)] | rw [w32_id (z := 3 * swp v (pnt (b 143 (20 + m).toNat) r (asX b m (tx (800 * k + 3)) i)) + swp v (pnt (b 143 (20 + m).toNat) r (asY b m (tx (800 * k + 3)) i))) (by omega) (by omega)])
  rfl
theorem opR_bV {k : Nat} {m i r v : Int} (v0 : 0 ≤ v) (v1 : v < 6) : 0 ≤ opRV tx b k m i r v ∧ opRV tx b k m i r v < 9 := oE_b (pnt_b _ _ _) (pnt_b _ _ _) v0 v1
def hCV (tx : Nat → Int) (b : Nat → Nat → Int) (k : Nat) (m i j r v x : Int) : Int := if j = -1 then b2i (decide (opRV tx b k m i r (drS (tx (800 * k + 1)) v) = x)) else sumU (fun v' => if tx (800 * k + 2) = 0 ∨ v' = v then b2i (decide (9 * opRV tx b k m i r (drS (tx (800 * k + 1)) v) + opRV tx b k m j r (drS (tx (800 * k + 1)) v') = x)) else 0) (tx (800 * k + 1)).toNat 0
def hTV (tx : Nat → Int) (b : Nat → Nat → Int) (k : Nat) (m i j r x : Int) : Int := sumU (fun v => hCV tx b k m i j r v x) (tx (800 * k + 1)).toNat 0
theorem m242_38V (d : Nat) (hs : SpL s) {o : Nat} (ho : s[o]? = some (100, 81)) (ho2 : o = 157 ∨ o = 158) {k : Nat} {m : Int} (hP : MPV tx b k m) {i j r v : Int} (j0 : 0 ≤ j) (j1 : j < asN (tx (800 * k + 3)) (b 143 (20 + m).toNat) (b 143 (24 + m).toNat)) (r0 : 0 ≤ r) (r1 : r < 2187) {q : Int} (q0 : 0 ≤ q) (q1 : q < 9) : ∀ (n : Nat) (v' : Int) (c : Nat → Nat → Int) (B : Int), 0 ≤ v' → v' + n = tx (800 * k + 1) → FO o b c → (∀ x : Int, 0 ≤ x → x < 81 → 0 ≤ c o x.toNat ∧ c o x.toNat ≤ B) → B + n ≤ 1000 → ∃ c' o8, Rr (Cd (d + 4)) 242 38 [some (vA 142), some (vI m), some (vI i), some (vI j), some (vI r), some (vA (o : Int)), some (vI v), some (vI q), some (vI v')] [] (s, c) = Rr (Cd (d + 4)) 242 71 [some (vA 142), some (vI m), some (vI i), some (vI j), some (vI r), some (vA (o : Int)), some (vI v), some (vI q), o8] [] (s, c') ∧ FO o b c' ∧ ∀ x : Int, 0 ≤ x → x < 81 → c' o x.toNat = c o x.toNat + sumU (fun v' => if tx (800 * k + 2) = 0 ∨ v' = v then b2i (decide (9 * q + opRV tx b k m j r (drS (tx (800 * k + 1)) v') = x)) else 0) n v'
  | 0, v', c, B, h0, h, hF, hB, hb => by
    have e25 : c 142 25 = tx (800 * k + 1) := (hF 142 25 (by omega)).trans hP.2.2.1
    refine ⟨c, some (vI v'), ?_, hF, fun x _ _ => by simp [sumU]⟩
    rw [c242_38]
    repeat (first | rw [bnd_s] | rw [tI_m] | rw [tL_m] | rw [tA_m] | rw [tV_m] | rw [fC142 hs _ (by decide)] | rw [pC142 hs _ _ (by decide)] | rw [e25] | rw [if_neg (show ¬ v' < tx (800 * k + 1) by omega)])
  | n + 1, v', c, B, h0, h, hF, hB, hb => by
    obtain ⟨hP1, e3, e5⟩ := hP.fo hF ho2
    have w6 : tx (800 * k + 1) ≤ 6 := by have := hP.2.2.2.1; omega
    have e25 : c 142 25 = tx (800 * k + 1) := (hF 142 25 (by omega)).trans hP.2.2.1
    have e28 : c 142 28 = tx (800 * k + 2) := (hF 142 28 (by omega)).trans hP.2.2.2.2.1
    have wd := drS_b hP.2.2.2.1 h0 (by omega)
    have q3 := m223 (d + 3) hs e25 h0 (by omega)
    have q4 := m241V d hs hP1 j0 (by rw [e3, e5]; exact j1) r0 r1 wd.1 wd.2
    rw [opR_ofV e3 e5] at q4
    have ob := opR_bV (tx := tx) (b := b) (k := k) (m := m) (i := j) (r := r) wd.1 wd.2
    have nj : ¬ j = -1 := by omega
    by_cases g : tx (800 * k + 2) = 0 ∨ v' = v
    · have z : ∃ p, p = 9 * q + opRV tx b k m j r (drS (tx (800 * k + 1)) v') := ⟨_, rfl⟩
      obtain ⟨p, zp⟩ := z
      have pb := hB p (by omega) (by omega)
      obtain ⟨c', o8, y1, y2, y3⟩ := m242_38V d hs ho ho2 hP j0 j1 r0 r1 q0 q1 n (v' + 1) (u2 c o p.toNat (c o p.toNat + 1)) (B + 1) (by omega) (by omega) (hF.u _ _) (fun x x0 x1 => by
        have xb := hB x x0 x1
        by_cases e : x = p
        · subst e; rw [u2_e]; omega
        · rw [u2_n (by omega)]; omega) (by omega)
      refine ⟨c', o8, ?_, y2, fun x x0 x1 => ?_⟩
      · rw [← y1, c242_38]
        have e51 : Rr (Cd (d + 4)) 242 51 [some (vA 142), some (vI m), some (vI i), some (vI j), some (vI r), some (vA (o : Int)), some (vI v), some (vI q), some (vI v')] [] (s, c) = Rr (Cd (d + 4)) 242 38 [some (vA 142), some (vI m), some (vI i), some (vI j), some (vI r), some (vA (o : Int)), some (vI v), some (vI q), some (vI (v' + 1))] [] (s, u2 c o p.toNat (c o p.toNat + 1)) := by
          rw [c242_51]
          repeat (first | rw [bnd_s] | rw [tI_m] | rw [tL_m] | rw [tA_m] | rw [tV_m] | rw [q3] | rw [q4] | rw [w32_id (z := 9 * q) (by omega) (by omega)] | rw [← zp] | rw [w32_id (z := p) (by omega) (by omega)] | rw [gA_g (a := 0) ho _ (show 0 ≤ p by omega) (by omega)] | rw [pA_g (a := 0) ho _ _ (show 0 ≤ p by omega) (by omega)] | rw [w32_id (z := c o p.toNat + 1) (by omega) (by omega)] | rw [c242_69] | rw [w32_id (z := v' + 1) (by omega) (by omega)])
        repeat (first | rw [bnd_s] | rw [tI_m] | rw [tL_m] | rw [tA_m] | rw [tV_m] | rw [fC142 hs _ (by decide)] | rw [pC142 hs _ _ (by decide)] | rw [e25] | rw [if_pos (show v' < tx (800 * k + 1) by omega)] | rw [if_neg nj] | rw [e28])
        by_cases g1 : tx (800 * k + 2) = 0
        · rw [if_pos g1]; exact e51
        · rw [if_neg g1, if_pos (g.resolve_left g1)]; exact e51
      · rw [y3 x x0 x1]
        simp only [sumU]
        rw [if_pos g, ← zp]
        by_cases e : x = p
        · subst e; rw [u2_e, decide_eq_true rfl, b2i_t]; omega
        · rw [u2_n (by omega), decide_eq_false (fun w => e w.symm), b2i_f]; omega
    · obtain ⟨c', o8, y1, y2, y3⟩ := m242_38V d hs ho ho2 hP j0 j1 r0 r1 q0 q1 n (v' + 1) c B (by omega) (by omega) hF hB (by omega)
      refine ⟨c', o8, ?_, y2, fun x x0 x1 => ?_⟩
      · rw [← y1, c242_38]
        repeat (first | rw [bnd_s] | rw [tI_m] | rw [tL_m] | rw [tA_m] | rw [tV_m] | rw [fC142 hs _ (by decide)] | rw [pC142 hs _ _ (by decide)] | rw [e25] | rw [if_pos (show v' < tx (800 * k + 1) by omega)] | rw [if_neg nj] | rw [e28] | rw [if_neg (show ¬ tx (800 * k + 2) = 0 from fun w => g (Or.inl w))] | rw [if_neg (show ¬ v' = v from fun w => g (Or.inr w))] | rw [c242_69] | rw [w32_id (z := v' + 1) (by omega) (by omega)])
      · rw [y3 x x0 x1]
        simp only [sumU]
        rw [if_neg g]; omega
theorem m242_13V (d : Nat) (hs : SpL s) {o : Nat} (ho : s[o]? = some (100, 81)) (ho2 : o = 157 ∨ o = 158) {k : Nat} {m : Int} (hP : MPV tx b k m) {i j r : Int} (i0 : 0 ≤ i) (i1 : i < asN (tx (800 * k + 3)) (b 143 (20 + m).toNat) (b 143 (24 + m).toNat)) (j0 : -1 ≤ j) (j1 : j < asN (tx (800 * k + 3)) (b 143 (20 + m).toNat) (b 143 (24 + m).toNat)) (r0 : 0 ≤ r) (r1 : r < 2187) : ∀ (n : Nat) (v : Int) (c : Nat → Nat → Int) (B : Int), 0 ≤ v → v + n = tx (800 * k + 1) → FO o b c → (∀ x : Int, 0 ≤ x → x < 81 → 0 ≤ c o x.toNat ∧ c o x.toNat ≤ B) → B + 6 * n ≤ 900 → ∀ o7 o8, ∃ c', Rr (Cd (d + 4)) 242 13 [some (vA 142), some (vI m), some (vI i), some (vI j), some (vI r), some (vA (o : Int)), some (vI v), o7, o8] [] (s, c) = some ([], (s, c')) ∧ FO o b c' ∧ ∀ x : Int, 0 ≤ x → x < 81 → c' o x.toNat = c o x.toNat + sumU (fun v => hCV tx b k m i j r v x) n v
  | 0, v, c, B, h0, h, hF, hB, hb, o7, o8 => by
    have e25 : c 142 25 = tx (800 * k + 1) := (hF 142 25 (by omega)).trans hP.2.2.1
    refine ⟨c, ?_, hF, fun x _ _ => by simp [sumU]⟩
    rw [c242_13]
    repeat (first | rw [bnd_s] | rw [tI_m] | rw [tL_m] | rw [tA_m] | rw [tV_m] | rw [fC142 hs _ (by decide)] | rw [pC142 hs _ _ (by decide)] | rw [e25] | rw [if_neg (show ¬ v < tx (800 * k + 1) by omega)])
  | n + 1, v, c, B, h0, h, hF, hB, hb, o7, o8 => by
    obtain ⟨hP1, e3, e5⟩ := hP.fo hF ho2
    have w6 : 1 ≤ tx (800 * k + 1) ∧ tx (800 * k + 1) ≤ 6 := by have := hP.2.2.2.1; omega
    have e25 : c 142 25 = tx (800 * k + 1) := (hF 142 25 (by omega)).trans hP.2.2.1
    have wd := drS_b hP.2.2.2.1 h0 (by omega)
    have q3 := m223 (d + 3) hs e25 h0 (by omega)
    have q4 := m241V d hs hP1 i0 (by rw [e3, e5]; exact i1) r0 r1 wd.1 wd.2
    rw [opR_ofV e3 e5] at q4
    have ob := opR_bV (tx := tx) (b := b) (k := k) (m := m) (i := i) (r := r) wd.1 wd.2
    have z : ∃ p, p = opRV tx b k m i r (drS (tx (800 * k + 1)) v) := ⟨_, rfl⟩
    obtain ⟨p, zp⟩ := z
    rw [← zp] at q4 ob
    by_cases g : j = -1
    · have pb := hB p (by omega) (by omega)
      obtain ⟨c', y1, y2, y3⟩ := m242_13V d hs ho ho2 hP i0 i1 j0 j1 r0 r1 n (v + 1) (u2 c o p.toNat (c o p.toNat + 1)) (B + 1) (by omega) (by omega) (hF.u _ _) (fun x x0 x1 => by
        have xb := hB x x0 x1
        by_cases e : x = p
        · subst e; rw [u2_e]; omega
        · rw [u2_n (by omega)]; omega) (by omega) (some (vI p)) (some (vI 0))
      refine ⟨c', ?_, y2, fun x x0 x1 => ?_⟩
      · have e25' : u2 c o p.toNat (c o p.toNat + 1) 142 25 = tx (800 * k + 1) := by rw [u2_n (by omega)]; exact e25
        rw [← y1, c242_13]
        repeat (first | rw [bnd_s] | rw [tI_m] | rw [tL_m] | rw [tA_m] | rw [tV_m] | rw [fC142 hs _ (by decide)] | rw [pC142 hs _ _ (by decide)] | rw [e25] | rw [if_pos (show v < tx (800 * k + 1) by omega)] | rw [q3] | rw [q4] | rw [if_pos g] | rw [gA_g (a := 0) ho _ (show 0 ≤ p by omega) (by omega)] | rw [pA_g (a := 0) ho _ _ (show 0 ≤ p by omega) (by omega)] | rw [w32_id (z := c o p.toNat + 1) (by omega) (by omega)] | rw [c242_36] | rw [c242_38] | rw [e25'] | rw [if_pos (show (0 : Int) < tx (800 * k + 1) by omega)] | rw [c242_71] | rw [w32_id (z := v + 1) (by omega) (by omega)])
      · rw [y3 x x0 x1]
        simp only [sumU]
        rw [hCV, if_pos g, ← zp]
        by_cases e : x = p
        · subst e; rw [u2_e, decide_eq_true rfl, b2i_t]; omega
        · rw [u2_n (by omega), decide_eq_false (fun w => e w.symm), b2i_f]; omega
    · obtain ⟨c1, o8', x1, x2, x3⟩ := m242_38V d hs ho ho2 hP (i := i) (v := v) (show 0 ≤ j by omega) j1 r0 r1 ob.1 ob.2 (tx (800 * k + 1)).toNat 0 c B (by omega) (by omega) hF hB (by omega)
      have hc : ∀ x : Int, sumU (fun v' => if tx (800 * k + 2) = 0 ∨ v' = v then b2i (decide (9 * p + opRV tx b k m j r (drS (tx (800 * k + 1)) v') = x)) else 0) (tx (800 * k + 1)).toNat 0 = hCV tx b k m i j r v x := fun x => by
        rw [hCV, if_neg g, ← zp]
      have hcb : ∀ x : Int, 0 ≤ hCV tx b k m i j r v x ∧ hCV tx b k m i j r v x ≤ 6 := fun x => by
        have := sumU_b (B := 1) (fun v' => if tx (800 * k + 2) = 0 ∨ v' = v then b2i (decide (9 * p + opRV tx b k m j r (drS (tx (800 * k + 1)) v') = x)) else 0) (tx (800 * k + 1)).toNat 0 (fun i _ _ => by
          split
          · exact b2i_b _
          · decide)
        rw [hc] at this
        omega
      obtain ⟨c', y1, y2, y3⟩ := m242_13V d hs ho ho2 hP i0 i1 j0 j1 r0 r1 n (v + 1) c1 (B + 6) (by omega) (by omega) x2 (fun x y0 y1 => by
        have xb := hB x y0 y1
        have := hcb x
        rw [x3 x y0 y1, hc]; omega) (by omega) (some (vI p)) o8'
      refine ⟨c', ?_, y2, fun x y0 y1 => ?_⟩
      · rw [← y1, c242_13]
        repeat (first | rw [bnd_s] | rw [tI_m] | rw [tL_m] | rw [tA_m] | rw [tV_m] | rw [fC142 hs _ (by decide)] | rw [pC142 hs _ _ (by decide)] | rw [e25] | rw [if_pos (show v < tx (800 * k + 1) by omega)] | rw [q3] | rw [q4] | rw [if_neg g] | rw [c242_36] | rw [x1] | rw [c242_71] | rw [w32_id (z := v + 1) (by omega) (by omega)])
      · rw [y3 x y0 y1, x3 x y0 y1, hc]
        simp only [sumU]
        omega
theorem m242V (d : Nat) (hs : SpL s) {o : Nat} (ho : s[o]? = some (100, 81)) (ho2 : o = 157 ∨ o = 158) {k : Nat} {m : Int} (hP : MPV tx b k m) {i j r : Int} (i0 : 0 ≤ i) (i1 : i < asN (tx (800 * k + 3)) (b 143 (20 + m).toNat) (b 143 (24 + m).toNat)) (j0 : -1 ≤ j) (j1 : j < asN (tx (800 * k + 3)) (b 143 (20 + m).toNat) (b 143 (24 + m).toNat)) (r0 : 0 ≤ r) (r1 : r < 2187) : ∃ c', Cd (d + 5) 242 [vA 142, vI m, vI i, vI j, vI r, vA (o : Int)] (s, b) = some ([], (s, c')) ∧ FO o b c' ∧ ∀ x : Int, 0 ≤ x → x < 81 → c' o x.toNat = hTV tx b k m i j r x := by
  obtain ⟨c1, x1, x2, x3⟩ := m242_2 (d + 4) ho m i j r none none 81 0 b (by omega) (FO.rf o b) (fun x hx => by omega)
  have w6 : 1 ≤ tx (800 * k + 1) ∧ tx (800 * k + 1) ≤ 6 := by have := hP.2.2.2.1; omega
  obtain ⟨c', y1, y2, y3⟩ := m242_13V d hs ho ho2 hP i0 i1 j0 j1 r0 r1 (tx (800 * k + 1)).toNat 0 c1 0 (by omega) (by omega) x2 (fun x y0 y1 => by rw [x3 x.toNat (by omega)]; omega) (by omega) none none
  refine ⟨c', ?_, y2, fun x z0 z1 => by rw [y3 x z0 z1, x3 x.toNat (by omega), Int.zero_add]; rfl⟩
  rw [c242 (hg := gC142 hs b)]
  have x1' : Rr (Cd (d + 4)) 242 2 [some (vA 142), some (vI m), some (vI i), some (vI j), some (vI r), some (vA (o : Int)), some (vI 0), none, none] [] (s, b) = Rr (Cd (d + 4)) 242 13 [some (vA 142), some (vI m), some (vI i), some (vI j), some (vI r), some (vA (o : Int)), some (vI 0), none, none] [] (s, c1) := x1
  rw [x1']
  exact y1
def dMV (tx : Nat → Int) (b : Nat → Nat → Int) (k : Nat) (m i j a : Int) : Bool := anyU (fun x => decide (hTV tx b k m i j ((ansL b m).getD 0 0) x ≠ hTV tx b k m i j ((ansL b m).getD a.toNat 0) x)) 81 0
theorem hT_ofV {b c : Nat → Nat → Int} (e3 : c 143 = b 143) (e5 : tx = tx) (k : Nat) (m i j r x : Int) : hTV tx c k m i j r x = hTV tx b k m i j r x := by
  unfold hTV
  rw [e5]
  refine sumU_cg _ _ (fun v _ _ => ?_)
  unfold hCV; rw [e5, opR_ofV e3 e5, opR_ofV e3 e5]
theorem dM_ofV {b c : Nat → Nat → Int} (e3 : c 143 = b 143) (e5 : tx = tx) (k : Nat) (m i j a : Int) : dMV tx c k m i j a = dMV tx b k m i j a := by
  unfold dMV; rw [ansL_of e3]
  exact anyU_cg _ _ (fun x _ _ => by rw [hT_ofV e3 e5, hT_ofV e3 e5])
theorem dM_0V (b : Nat → Nat → Int) (k : Nat) (m i j : Int) : dMV tx b k m i j 0 = false := by
  refine Bool.eq_false_iff.mpr (fun w => ?_)
  obtain ⟨x, -, -, hx⟩ := (anyU_t _ _).mp w
  exact of_decide_eq_true hx rfl
theorem m243V (d : Nat) (hs : SpL s) {k : Nat} {m : Int} (hP : MPV tx b k m) (hA : AnsAt b (ansL b m)) {i j a : Int} (i0 : 0 ≤ i) (i1 : i < asN (tx (800 * k + 3)) (b 143 (20 + m).toNat) (b 143 (24 + m).toNat)) (j0 : -1 ≤ j) (j1 : j < asN (tx (800 * k + 3)) (b 143 (20 + m).toNat) (b 143 (24 + m).toNat)) (a0 : 0 ≤ a) (a1 : a < (ansL b m).length) (h7 : ∀ x : Int, 0 ≤ x → x < 81 → b 157 x.toNat = hTV tx b k m i j ((ansL b m).getD 0 0) x) : ∃ c', Cd (d + 6) 243 [vA 142, vI m, vI i, vI j, vI a] (s, b) = some ([vI (b2i (dMV tx b k m i j a))], (s, c')) ∧ FO 158 b c' := by
  have hm := hP.1.1
  have hM := hP.1.2.2.2.2.1
  have ll := ansL_len hM
  have al := ansL_at hM (i := a.toNat) (by omega)
  have e8 : b 148 a.toNat = (ansL b m).getD a.toNat 0 := hA.2 a.toNat (by omega)
  obtain ⟨c1, x1, x2, x3⟩ := m242V d hs (sC158 hs) (Or.inr rfl) hP i0 i1 j0 j1 al.1 al.2.2.1
  have hP1 := (hP.fo x2 (Or.inr rfl)).1
  refine ⟨c1, ?_, x2⟩
  have x1' : Cd (d + 5) 242 [vA 142, vI m, vI i, vI j, vI ((ansL b m).getD a.toNat 0), vA 158] (s, b) = some ([], (s, c1)) := x1
  rw [c243 (hg := gC142 hs b)]
  repeat (first | rw [bnd_s] | rw [tI_m] | rw [tL_m] | rw [tA_m] | rw [tV_m] | rw [fC142 hs _ (by decide)] | rw [pC142 hs _ _ (by decide)] | rw [MS_5 hm] | rw [aC148 hs _ a0 (by omega)] | rw [e8] | rw [MS_40 hm] | rw [x1'])
  rw [m243_13 _ hs hP1.1.1 _ _ _ _ 81 0 (by omega) (by omega)]
  have : anyU (fun x => decide (c1 157 x.toNat ≠ c1 158 x.toNat)) 81 0 = dMV tx b k m i j a := anyU_cg _ _ (fun x y0 y1 => by rw [x2 157 _ (by omega), h7 x y0 (by omega), x3 x y0 (by omega)])
  rw [this]
def fAV (tx : Nat → Int) (b : Nat → Nat → Int) (k : Nat) (m i j : Int) (a : Int) : Option (Int × Int × Int) := if dMV tx b k m i j a then some (i, j, a) else none
theorem fA_ofV {b c : Nat → Nat → Int} (e3 : c 143 = b 143) (e5 : tx = tx) (k : Nat) (m i j : Int) : fAV tx c k m i j = fAV tx b k m i j := by
  funext a; unfold fAV; rw [dM_ofV e3 e5]
theorem m244_16V (d : Nat) (hs : SpL s) {k : Nat} {m : Int} (hP : MPV tx b k m) (hA : AnsAt b (ansL b m)) {i j : Int} (i0 : 0 ≤ i) (i1 : i < asN (tx (800 * k + 3)) (b 143 (20 + m).toNat) (b 143 (24 + m).toNat)) (j0 : -1 ≤ j) (j1 : j < asN (tx (800 * k + 3)) (b 143 (20 + m).toNat) (b 143 (24 + m).toNat)) (h7 : ∀ x : Int, 0 ≤ x → x < 81 → b 157 x.toNat = hTV tx b k m i j ((ansL b m).getD 0 0) x) : ∀ (n : Nat) (a : Int) (c : Nat → Nat → Int), 0 ≤ a → a + n = (ansL b m).length → FO 158 b c → (∃ t c', fdU (fAV tx b k m i j) n a = some t ∧ Rr (Cd (d + 6)) 244 16 [some (vA 142), some (vI m), some (vI i), some (vI j), some (vI a)] [] (s, c) = some ([vI 1], (s, c')) ∧ Fm [157, 158] [41, 42, 43] b c' ∧ TM c' = t) ∨ (∃ c', fdU (fAV tx b k m i j) n a = none ∧ Rr (Cd (d + 6)) 244 16 [some (vA 142), some (vI m), some (vI i), some (vI j), some (vI a)] [] (s, c) = some ([vI 0], (s, c')) ∧ FO 158 b c')
  | 0, a, c, h0, h, hF => by
    have e6 : c 142 6 = (ansL b m).length := (hF 142 6 (by omega)).trans hA.1
    refine Or.inr ⟨c, rfl, ?_, hF⟩
    rw [c244_16]
    repeat (first | rw [bnd_s] | rw [tI_m] | rw [tL_m] | rw [tA_m] | rw [tV_m] | rw [fC142 hs _ (by decide)] | rw [pC142 hs _ _ (by decide)] | rw [e6] | rw [if_neg (show ¬ a < ((ansL b m).length : Int) by omega)])
  | n + 1, a, c, h0, h, hF => by
    have e6 : c 142 6 = (ansL b m).length := (hF 142 6 (by omega)).trans hA.1
    obtain ⟨hP1, e3, e5⟩ := hP.fo hF (Or.inr rfl)
    have hM := hP.1.2.2.2.2.1
    have ll := ansL_len hM
    have eL := ansL_of e3 m
    obtain ⟨c1, x1, x2⟩ := m243V d hs hP1 (by rw [eL]; unfold AnsAt; rw [hF 142 6 (by omega)]; exact ⟨hA.1, fun z hz => (hF 148 z (by omega)).trans (hA.2 z hz)⟩) i0 (by rw [e3, e5]; exact i1) j0 (by rw [e3, e5]; exact j1) h0 (by rw [eL]; omega) (fun x y0 y1 => by rw [hF 157 _ (by omega), h7 x y0 y1, hT_ofV e3 e5, eL])
    rw [dM_ofV e3 e5] at x1
    have hF1 := hF.tr x2
    simp only [fdU, fAV]
    by_cases g : dMV tx b k m i j a = true
    · refine Or.inl ⟨(i, j, a), u2 (u2 (u2 c1 142 41 i) 142 42 j) 142 43 a, ?_, ?_, (((hF1.fm (Or.inr rfl)).mono (by decide) (by decide)).f _ (by decide)).f _ (by decide) |>.f _ (by decide), ?_⟩
      · rw [if_pos g]
      · rw [g] at x1
        rw [c244_16]
        repeat (first | rw [bnd_s] | rw [tI_m] | rw [tL_m] | rw [tA_m] | rw [tV_m] | rw [fC142 hs _ (by decide)] | rw [pC142 hs _ _ (by decide)] | rw [e6] | rw [if_pos (show a < ((ansL b m).length : Int) by omega)] | rw [x1] | rw [b2i_t] | rw [if_neg (show ¬ (1 : Int) = 0 by decide)])
      · unfold TM; rw [u2_n (by omega), u2_n (by omega), u2_e, u2_n (by omega), u2_e, u2_e]
    · have g' := Bool.eq_false_iff.mpr g
      rw [g'] at x1
      rw [if_neg g]
      have run : Rr (Cd (d + 6)) 244 16 [some (vA 142), some (vI m), some (vI i), some (vI j), some (vI a)] [] (s, c) = Rr (Cd (d + 6)) 244 16 [some (vA 142), some (vI m), some (vI i), some (vI j), some (vI (a + 1))] [] (s, c1) := by
        rw [c244_16]
        repeat (first | rw [bnd_s] | rw [tI_m] | rw [tL_m] | rw [tA_m] | rw [tV_m] | rw [fC142 hs _ (by decide)] | rw [pC142 hs _ _ (by decide)] | rw [e6] | rw [if_pos (show a < ((ansL b m).length : Int) by omega)] | rw [x1] | rw [b2i_f] | rw [if_pos (show (0 : Int) = 0 from rfl)] | rw [w32_id (z := a + 1) (by omega) (by omega)])
      rw [run]
      exact m244_16V d hs hP hA i0 i1 j0 j1 h7 n (a + 1) c1 (by omega) (by omega) hF1
theorem m244V (d : Nat) (hs : SpL s) {k : Nat} {m : Int} (hP : MPV tx b k m) (hA : AnsAt b (ansL b m)) {i j : Int} (i0 : 0 ≤ i) (i1 : i < asN (tx (800 * k + 3)) (b 143 (20 + m).toNat) (b 143 (24 + m).toNat)) (j0 : -1 ≤ j) (j1 : j < asN (tx (800 * k + 3)) (b 143 (20 + m).toNat) (b 143 (24 + m).toNat)) : (∃ t c', fdU (fAV tx b k m i j) (ansL b m).length 0 = some t ∧ Cd (d + 7) 244 [vA 142, vI m, vI i, vI j] (s, b) = some ([vI 1], (s, c')) ∧ Fm [157, 158] [41, 42, 43] b c' ∧ TM c' = t) ∨ (∃ c', fdU (fAV tx b k m i j) (ansL b m).length 0 = none ∧ Cd (d + 7) 244 [vA 142, vI m, vI i, vI j] (s, b) = some ([vI 0], (s, c')) ∧ Fm [157, 158] [41, 42, 43] b c' ∧ TM c' = TM b) := by
  have hm := hP.1.1
  have hM := hP.1.2.2.2.2.1
  have ll := ansL_len hM
  have e6 := hA.1
  by_cases z : (ansL b m).length = 0
  · refine Or.inr ⟨b, by rw [z]; rfl, ?_, Fm.rf _ _ _, rfl⟩
    rw [c244 (hg := gC142 hs b)]
    repeat (first | rw [bnd_s] | rw [tI_m] | rw [tL_m] | rw [tA_m] | rw [tV_m] | rw [fC142 hs _ (by decide)] | rw [pC142 hs _ _ (by decide)] | rw [e6] | rw [if_neg (show ¬ (0 : Int) < ((ansL b m).length : Int) by omega)] | rw [c244_14] | rw [c244_16] | rw [if_neg (show ¬ (1 : Int) < ((ansL b m).length : Int) by omega)])
  · have al := ansL_at hM (i := 0) (by omega)
    have e8 : b 148 0 = (ansL b m).getD 0 0 := hA.2 0 (by omega)
    obtain ⟨c1, x1, x2, x3⟩ := m242V (d + 1) hs (sC157 hs) (Or.inl rfl) hP i0 i1 j0 j1 al.1 al.2.2.1
    obtain ⟨hP1, e3, e5⟩ := hP.fo x2 (Or.inl rfl)
    have eL := ansL_of e3 m
    have x1' : Cd (d + 6) 242 [vA 142, vI m, vI i, vI j, vI ((ansL b m).getD 0 0), vA 157] (s, b) = some ([], (s, c1)) := x1
    have run : ∀ X, Rr (Cd (d + 6)) 244 16 [some (vA 142), some (vI m), some (vI i), some (vI j), some (vI 1)] [] (s, c1) = X → Cd (d + 7) 244 [vA 142, vI m, vI i, vI j] (s, b) = X := fun X hX => by
      rw [c244 (hg := gC142 hs b)]
      repeat (first | rw [bnd_s] | rw [tI_m] | rw [tL_m] | rw [tA_m] | rw [tV_m] | rw [fC142 hs _ (by decide)] | rw [pC142 hs _ _ (by decide)] | rw [e6] | rw [if_pos (show (0 : Int) < ((ansL b m).length : Int) by omega)] | rw [MS_5 hm] | rw [aC148 hs _ (show (0 : Int) ≤ 0 by decide) (by decide)] | rw [show (0 : Int).toNat = 0 from rfl] | rw [e8] | rw [MS_39 hm] | rw [x1'] | rw [c244_14])
      exact hX
    have H := m244_16V d hs hP1 (by rw [eL]; unfold AnsAt; rw [x2 142 6 (by omega)]; exact ⟨hA.1, fun z hz => (x2 148 z (by omega)).trans (hA.2 z hz)⟩) i0 (by rw [e3, e5]; exact i1) j0 (by rw [e3, e5]; exact j1) (fun x y0 y1 => by rw [x3 x y0 y1, hT_ofV e3 e5, eL]) ((ansL b m).length - 1) 1 c1 (by omega) (by rw [eL]; omega) (FO.rf _ _)
    have ef : fdU (fAV tx b k m i j) (ansL b m).length 0 = fdU (fAV tx b k m i j) ((ansL b m).length - 1) 1 := by
      rw [show (ansL b m).length = ((ansL b m).length - 1) + 1 by omega]
      simp only [fdU, fAV]
      rw [dM_0V, if_neg (by decide), show (ansL b m).length - 1 + 1 - 1 = (ansL b m).length - 1 by omega]; rfl
    rw [fA_ofV e3 e5] at H
    rw [ef]
    have F1 : Fm [157, 158] [41, 42, 43] b c1 := (x2.fm (Or.inl rfl)).mono (by decide) (by decide)
    rcases H with ⟨t, c', h1, h2, h3, h4⟩ | ⟨c', h1, h2, h3⟩
    · exact Or.inl ⟨t, c', h1, run _ h2, F1.tr h3, h4⟩
    · refine Or.inr ⟨c', h1, run _ h2, F1.tr ((h3.fm (Or.inr rfl)).mono (by decide) (by decide)), ?_⟩
      unfold TM
      rw [h3 142 41 (by omega), h3 142 42 (by omega), h3 142 43 (by omega), x2 142 41 (by omega), x2 142 42 (by omega), x2 142 43 (by omega)]
def f1MV (tx : Nat → Int) (b : Nat → Nat → Int) (k : Nat) (m i : Int) : Option (Int × Int × Int) := fdU (fAV tx b k m i (-1)) (ansL b m).length 0
def f2MV (tx : Nat → Int) (b : Nat → Nat → Int) (k : Nat) (m i j : Int) : Option (Int × Int × Int) := fdU (fAV tx b k m i j) (ansL b m).length 0
theorem m245_31V (d : Nat) (hs : SpL s) {k : Nat} {m : Int} (hP : MPV tx b k m) (hA : AnsAt b (ansL b m)) {i : Int} (i0 : 0 ≤ i) (i1 : i < asN (tx (800 * k + 3)) (b 143 (20 + m).toNat) (b 143 (24 + m).toNat)) (a1 : asN (tx (800 * k + 3)) (b 143 (20 + m).toNat) (b 143 (24 + m).toNat) ≤ 21) : ∀ (n : Nat) (j : Int) (c : Nat → Nat → Int), 0 ≤ j → j + n = asN (tx (800 * k + 3)) (b 143 (20 + m).toNat) (b 143 (24 + m).toNat) → Fm [157, 158] [41, 42, 43] b c → (∃ t c', fdU (f2MV tx b k m i) n j = some t ∧ Rr (Cd (d + 7)) 245 31 [some (vA 142), some (vI m), some (vI 2), some (vI (asN (tx (800 * k + 3)) (b 143 (20 + m).toNat) (b 143 (24 + m).toNat))), some (vI i), some (vI j)] [] (s, c) = some ([vI 1], (s, c')) ∧ Fm [157, 158] [41, 42, 43] b c' ∧ TM c' = t) ∨ (∃ c' o5, fdU (f2MV tx b k m i) n j = none ∧ Rr (Cd (d + 7)) 245 31 [some (vA 142), some (vI m), some (vI 2), some (vI (asN (tx (800 * k + 3)) (b 143 (20 + m).toNat) (b 143 (24 + m).toNat))), some (vI i), some (vI j)] [] (s, c) = Rr (Cd (d + 7)) 245 15 [some (vA 142), some (vI m), some (vI 2), some (vI (asN (tx (800 * k + 3)) (b 143 (20 + m).toNat) (b 143 (24 + m).toNat))), some (vI (i + 1)), o5] [] (s, c') ∧ Fm [157, 158] [41, 42, 43] b c' ∧ TM c' = TM c)
  | 0, j, c, h0, h, hF => Or.inr ⟨c, some (vI j), rfl, by rw [c245_31, if_neg (by omega), c245_47, w32_id (by omega) (by omega)], hF, rfl⟩
  | n + 1, j, c, h0, h, hF => by
    obtain ⟨hP1, e3, e5⟩ := hP.mv hF (by decide)
    have H := m244V d hs hP1 (by rw [ansL_of e3]; exact AnsAt_m hA hF (by decide) (by decide)) i0 (by rw [e3, e5]; exact i1) (show -1 ≤ j by omega) (by rw [e3, e5]; omega)
    rw [fA_ofV e3 e5, ansL_of e3] at H
    simp only [fdU]
    rcases H with ⟨t, c', h1, h2, h3, h4⟩ | ⟨c', h1, h2, h3, h4⟩
    · have e : f2MV tx b k m i j = some t := h1
      rw [e]
      refine Or.inl ⟨t, c', rfl, ?_, hF.tr h3, h4⟩
      rw [c245_31, if_pos (by omega), if_pos rfl]
      repeat (first | rw [bnd_s] | rw [tI_m] | rw [tL_m] | rw [tA_m] | rw [tV_m] | rw [h2] | rw [if_neg (show ¬ (1 : Int) = 0 by decide)])
    · have e : f2MV tx b k m i j = none := h1
      rw [e]
      have run : Rr (Cd (d + 7)) 245 31 [some (vA 142), some (vI m), some (vI 2), some (vI (asN (tx (800 * k + 3)) (b 143 (20 + m).toNat) (b 143 (24 + m).toNat))), some (vI i), some (vI j)] [] (s, c) = Rr (Cd (d + 7)) 245 31 [some (vA 142), some (vI m), some (vI 2), some (vI (asN (tx (800 * k + 3)) (b 143 (20 + m).toNat) (b 143 (24 + m).toNat))), some (vI i), some (vI (j + 1))] [] (s, c') := by
        rw [c245_31, if_pos (by omega), if_pos rfl]
        repeat (first | rw [bnd_s] | rw [tI_m] | rw [tL_m] | rw [tA_m] | rw [tV_m] | rw [h2] | rw [if_pos (show (0 : Int) = 0 from rfl)] | rw [w32_id (z := j + 1) (by omega) (by omega)])
      rw [run]
      rcases m245_31V d hs hP hA i0 i1 a1 n (j + 1) c' (by omega) (by omega) (hF.tr h3) with ⟨t, c2, y1, y2, y3, y4⟩ | ⟨c2, o5, y1, y2, y3, y4⟩
      · exact Or.inl ⟨t, c2, y1, y2, y3, y4⟩
      · exact Or.inr ⟨c2, o5, y1, y2, y3, y4.trans h4⟩
def fMV (tx : Nat → Int) (b : Nat → Nat → Int) (k : Nat) (m n i : Int) : Option (Int × Int × Int) := if n = 1 then f1MV tx b k m i else fdU (f2MV tx b k m i) (asN (tx (800 * k + 3)) (b 143 (20 + m).toNat) (b 143 (24 + m).toNat)).toNat 0
theorem m245_15V (d : Nat) (hs : SpL s) {k : Nat} {m : Int} (hP : MPV tx b k m) (hA : AnsAt b (ansL b m)) (a1 : asN (tx (800 * k + 3)) (b 143 (20 + m).toNat) (b 143 (24 + m).toNat) ≤ 21) {q : Int} (hq : q = 1 ∨ q = 2) : ∀ (n : Nat) (i : Int) (c : Nat → Nat → Int) (o5 : Option AV), 0 ≤ i → i + n = asN (tx (800 * k + 3)) (b 143 (20 + m).toNat) (b 143 (24 + m).toNat) → Fm [157, 158] [41, 42, 43] b c → ∃ c', Rr (Cd (d + 7)) 245 15 [some (vA 142), some (vI m), some (vI q), some (vI (asN (tx (800 * k + 3)) (b 143 (20 + m).toNat) (b 143 (24 + m).toNat))), some (vI i), o5] [] (s, c) = some ([vI (b2i (fdU (fMV tx b k m q) n i).isSome)], (s, c')) ∧ Fm [157, 158] [41, 42, 43] b c' ∧ TM c' = (fdU (fMV tx b k m q) n i).getD (TM c)
  | 0, i, c, o5, h0, h, hF => ⟨c, by rw [c245_15, if_neg (by omega)]; rfl, hF, rfl⟩
  | n + 1, i, c, o5, h0, h, hF => by
    obtain ⟨hP1, e3, e5⟩ := hP.mv hF (by decide)
    simp only [fdU]
    rcases hq with e | e <;> subst e
    · have H := m244V d hs hP1 (by rw [ansL_of e3]; exact AnsAt_m hA hF (by decide) (by decide)) h0 (by rw [e3, e5]; omega) (show -1 ≤ (-1 : Int) by decide) (by rw [e3, e5]; omega)
      rw [fA_ofV e3 e5, ansL_of e3] at H
      rcases H with ⟨t, c', h1, h2, h3, h4⟩ | ⟨c', h1, h2, h3, h4⟩
      · have e : fMV tx b k m 1 i = some t := h1
        rw [e]
        refine ⟨c', ?_, hF.tr h3, h4⟩
        rw [c245_15, if_pos (by omega), if_pos rfl]
        repeat (first | rw [bnd_s] | rw [tI_m] | rw [tL_m] | rw [tA_m] | rw [tV_m] | rw [h2] | rw [if_neg (show ¬ (1 : Int) = 0 by decide)])
        rfl
      · have e : fMV tx b k m 1 i = none := h1
        rw [e]
        obtain ⟨c2, y1, y2, y3⟩ := m245_15V d hs hP hA a1 (Or.inl rfl) n (i + 1) c' (some (vI 0)) (by omega) (by omega) (hF.tr h3)
        refine ⟨c2, ?_, y2, by rw [y3, h4]⟩
        rw [c245_15, if_pos (by omega), if_pos rfl]
        repeat (first | rw [bnd_s] | rw [tI_m] | rw [tL_m] | rw [tA_m] | rw [tV_m] | rw [h2] | rw [if_pos (show (0 : Int) = 0 from rfl)] | rw [c245_29] | rw [c245_31] | rw [if_pos (show (0 : Int) < asN (tx (800 * k + 3)) (b 143 (20 + m).toNat) (b 143 (24 + m).toNat) by omega)] | rw [if_neg (show ¬ (1 : Int) = 2 by decide)] | rw [c245_47] | rw [w32_id (z := i + 1) (by omega) (by omega)])
        exact y1
    · have E : fMV tx b k m 2 i = fdU (f2MV tx b k m i) (asN (tx (800 * k + 3)) (b 143 (20 + m).toNat) (b 143 (24 + m).toNat)).toNat 0 := if_neg (by decide)
      have run : Rr (Cd (d + 7)) 245 15 [some (vA 142), some (vI m), some (vI 2), some (vI (asN (tx (800 * k + 3)) (b 143 (20 + m).toNat) (b 143 (24 + m).toNat))), some (vI i), o5] [] (s, c) = Rr (Cd (d + 7)) 245 31 [some (vA 142), some (vI m), some (vI 2), some (vI (asN (tx (800 * k + 3)) (b 143 (20 + m).toNat) (b 143 (24 + m).toNat))), some (vI i), some (vI 0)] [] (s, c) := by
        rw [c245_15, if_pos (by omega), if_neg (by decide), c245_29]
      rw [run]
      rcases m245_31V d hs hP hA h0 (by omega) a1 (asN (tx (800 * k + 3)) (b 143 (20 + m).toNat) (b 143 (24 + m).toNat)).toNat 0 c (by omega) (by omega) hF with ⟨t, c2, y1, y2, y3, y4⟩ | ⟨c2, o5, y1, y2, y3, y4⟩
      · rw [E, y1]
        exact ⟨c2, y2, y3, y4⟩
      · rw [E, y1, y2]
        obtain ⟨c3, z1, z2, z3⟩ := m245_15V d hs hP hA a1 (Or.inr rfl) n (i + 1) c2 o5 (by omega) (by omega) y3
        exact ⟨c3, z1, z2, by rw [z3, y4]⟩
theorem m245V (d : Nat) (hs : SpL s) {k : Nat} {m : Int} (hP : MPV tx b k m) (hA : AnsAt b (ansL b m)) {q : Int} (hq : q = 1 ∨ q = 2) : ∃ c', Cd (d + 8) 245 [vA 142, vI m, vI q] (s, b) = some ([vI (b2i (fdU (fMV tx b k m q) (asN (tx (800 * k + 3)) (b 143 (20 + m).toNat) (b 143 (24 + m).toNat)).toNat 0).isSome)], (s, c')) ∧ Fm [157, 158] [41, 42, 43] b c' ∧ TM c' = (fdU (fMV tx b k m q) (asN (tx (800 * k + 3)) (b 143 (20 + m).toNat) (b 143 (24 + m).toNat)).toNat 0).getD (-1, -1, -1) := by
  have hM := hP.1.2.2.2.2.1
  have aN := asN_b (a := tx (800 * k + 3)) hM.2.1.1 hM.2.1.2 hM.2.2.1.1 hM.2.2.1.2
  have z : ∃ b', b' = u2 (u2 (u2 b 142 41 (-1)) 142 42 (-1)) 142 43 (-1) := ⟨_, rfl⟩
  obtain ⟨b', zb⟩ := z
  have bf : Fm [157, 158] [41, 42, 43] b b' := by rw [zb]; exact (((Fm.rf _ _ _).f _ (by decide)).f _ (by decide)).f _ (by decide)
  obtain ⟨P, e3, e5⟩ := hP.mv bf (by decide)
  have q4 := P.n224 (d + 6) hs
  rw [e3, e5] at q4
  obtain ⟨c', y1, y2, y3⟩ := m245_15V d hs hP hA aN.2 hq (asN (tx (800 * k + 3)) (b 143 (20 + m).toNat) (b 143 (24 + m).toNat)).toNat 0 b' none (by omega) (by omega) bf
  refine ⟨c', ?_, y2, ?_⟩
  · rw [c245 (hg := gC142 hs b)]
    repeat (first | rw [bnd_s] | rw [tI_m] | rw [tL_m] | rw [tA_m] | rw [tV_m] | rw [fC142 hs _ (by decide)] | rw [pC142 hs _ _ (by decide)] | rw [← zb] | rw [q4])
    exact y1
  · rw [y3]
    have : TM b' = (-1, -1, -1) := by unfold TM; rw [zb, u2_n (by omega), u2_n (by omega), u2_e, u2_n (by omega), u2_e, u2_e]
    rw [this]
def oRV (tx : Nat → Int) (b : Nat → Nat → Int) (k : Nat) (m i r : Int) : Int := 3 * pnt (b 143 (20 + m).toNat) r (asX b m (tx (800 * k + 3)) i) + pnt (b 143 (20 + m).toNat) r (asY b m (tx (800 * k + 3)) i)
theorem oR_bV {k : Nat} {m i r : Int} : 0 ≤ oRV tx b k m i r ∧ oRV tx b k m i r < 9 := by
  have p1 := pnt_b (b 143 (20 + m).toNat) r (asX b m (tx (800 * k + 3)) i)
  have p2 := pnt_b (b 143 (20 + m).toNat) r (asY b m (tx (800 * k + 3)) i)
  unfold oRV; omega
def lwAV (tx : Nat → Int) (b : Nat → Nat → Int) (k : Nat) (m i j a : Int) : Int := lw (tx (800 * k + 1)) (9 * oRV tx b k m i ((ansL b m).getD a.toNat 0) + oRV tx b k m j ((ansL b m).getD a.toNat 0))
def dPV (tx : Nat → Int) (b : Nat → Nat → Int) (k : Nat) (m i j a : Int) : Bool := decide (lwAV tx b k m i j 0 ≠ lwAV tx b k m i j a)
def fPV (tx : Nat → Int) (b : Nat → Nat → Int) (k : Nat) (m i j : Int) (a : Int) : Option Int := if dPV tx b k m i j a then some a else none
theorem fP_nV {b : Nat → Nat → Int} {k : Nat} {m i j a : Int} (h : lwAV tx b k m i j 0 = lwAV tx b k m i j a) : fPV tx b k m i j a = none := by
  unfold fPV dPV; exact if_neg (by rw [decide_eq_false (fun z => z h)]; decide)
theorem fP_sV {b : Nat → Nat → Int} {k : Nat} {m i j a : Int} (h : lwAV tx b k m i j 0 ≠ lwAV tx b k m i j a) : fPV tx b k m i j a = some a := by
  unfold fPV dPV; exact if_pos (decide_eq_true h)
def lwDV (tx : Nat → Int) (b c : Nat → Nat → Int) (k : Nat) : Prop := ∀ x : Int, 0 ≤ x → x < 81 → c 135 x.toNat = lw (tx (800 * k + 1)) x
theorem k56_4V (d : Nat) {n0 : Nat} (hI : Inv s b n0) {k : Nat} {m : Int} (m0 : 0 ≤ m) (m1 : m < b 143 0) (ha2 : 0 ≤ tx (800 * k + 3) ∧ tx (800 * k + 3) ≤ 2) (hP : PlayRV tx b k m) (hA : AnsC s b (40 + 5 * m.toNat) (b 143 (20 + m).toNat) (ansL b m)) (hw : tx (800 * k + 1) = 1 ∨ tx (800 * k + 1) = 2 ∨ tx (800 * k + 1) = 3 ∨ tx (800 * k + 1) = 6) {i j : Int} (i0 : 0 ≤ i) (i1 : i < asN (tx (800 * k + 3)) (b 143 (20 + m).toNat) (b 143 (24 + m).toNat)) (j0 : 0 ≤ j) (j1 : j < asN (tx (800 * k + 3)) (b 143 (20 + m).toNat) (b 143 (24 + m).toNat)) {c : Nat → Nat → Int} (hF : PlF b c) (hD : lwDV tx b c k) : ∀ (n : Nat) (a v : Int) (o5 o6 o7 : Option AV), 0 ≤ a → a + n = (ansL b m).length → (0 < a → v = lwAV tx b k m i j 0) → Rr (Cd (d + 2)) 56 4 [some (vA 131), some (vI i), some (vI j), some (vI v), some (vI a), o5, o6, o7] [] (s, c) = some ([vI ((fdU (fPV tx b k m i j) n a).getD (-1))], (s, c))
  | 0, a, v, o5, o6, o7, h0, h, hv => by
    have hI1 := hF.inv hI
    have hs := hI1.1.l
    have hc := hI1.2.2.2.1
    have n4 := hI.nM.2
    have hch := chN hs hc (m := m.toNat) (by omega)
    have p5 := (PlayR_ofV hP hF).1
    have p8 : c (40 + 5 * m.toNat) 8 = (ansL b m).length := (hF _ _ (by omega) (by omega) (by omega)).trans hA.2.1
    rw [c56_4]
    repeat (first | rw [bnd_s] | rw [tI_m] | rw [tL_m] | rw [tA_m] | rw [tV_m] | rw [fC131 hs _ (by decide)] | rw [pC131 hs _ _ (by decide)] | rw [p5] | rw [gF_g hch.1.1 _ (by decide)] | rw [p8] | rw [if_neg (show ¬ a < ((ansL b m).length : Int) by omega)])
    rfl
  | n + 1, a, v, o5, o6, o7, h0, h, hv => by
    have hI1 := hF.inv hI
    have hs := hI1.1.l
    have hc := hI1.2.2.2.1
    have n4 := hI.nM.2
    have hM := hI.mok m m0 m1
    have n7 := hM.2.1.2
    have aN := asN_b (a := tx (800 * k + 3)) hM.2.1.1 hM.2.1.2 hM.2.2.1.1 hM.2.2.1.2
    have hch := chN hs hc (m := m.toNat) (by omega)
    have p5 := (PlayR_ofV hP hF).1
    have p8 : c (40 + 5 * m.toNat) 8 = (ansL b m).length := (hF _ _ (by omega) (by omega) (by omega)).trans hA.2.1
    have ll := ansL_len hM
    have al := ansL_at hM (i := a.toNat) (by omega)
    have hA1 : AnsC s c (40 + 5 * m.toNat) (b 143 (20 + m).toNat) (ansL b m) := AnsC_of hA ⟨[], by simp⟩ (fun k => hF _ _ (by omega) (by omega) (by omega)) (fun r hr _ => ⟨funext fun k => hF _ _ (by omega) (by omega) (by omega), funext fun k => hF _ _ (by omega) (by omega) (by omega)⟩)
    have q15 := k15 (d + 1) hch hA1 (by omega) a
    rw [if_pos ⟨h0, by omega⟩] at q15
    have z : ∃ r, r = (ansL b m).getD a.toNat 0 := ⟨_, rfl⟩
    obtain ⟨r, zr⟩ := z
    rw [← zr] at al q15
    have pk := pk_ok hM.2.1.1 hM.2.1.2 al.1 al.2.1
    have gi := hP.2.2.2.2 i i0 i1
    have gj := hP.2.2.2.2 j j0 j1
    have e2 : c 132 i.toNat = asX b m (tx (800 * k + 3)) i := (hF _ _ (by omega) (by omega) (by omega)).trans gi.1
    have e3 : c 133 i.toNat = asY b m (tx (800 * k + 3)) i := (hF _ _ (by omega) (by omega) (by omega)).trans gi.2.1
    have e2' : c 132 j.toNat = asX b m (tx (800 * k + 3)) j := (hF _ _ (by omega) (by omega) (by omega)).trans gj.1
    have e3' : c 133 j.toNat = asY b m (tx (800 * k + 3)) j := (hF _ _ (by omega) (by omega) (by omega)).trans gj.2.1
    have bx := asX_b hM ha2 i0 i1
    have by' := asX_b hM ha2 j0 j1
    have ei : opn (pkR r (b 143 (20 + m).toNat)) (asX b m (tx (800 * k + 3)) i) (asY b m (tx (800 * k + 3)) i) = oRV tx b k m i r := by
      unfold opn oRV; rw [pk.2 _ bx.1.1 bx.1.2, pk.2 _ bx.2.1 bx.2.2, Int.mul_comm]
    have ej : opn (pkR r (b 143 (20 + m).toNat)) (asX b m (tx (800 * k + 3)) j) (asY b m (tx (800 * k + 3)) j) = oRV tx b k m j r := by
      unfold opn oRV; rw [pk.2 _ by'.1.1 by'.1.2, pk.2 _ by'.2.1 by'.2.2, Int.mul_comm]
    have q1 := k166 d (s, c) pk.1.1 (by omega) bx.1.1 (by omega) bx.2.1 (by omega)
    have q2 := k166 d (s, c) pk.1.1 (by omega) by'.1.1 (by omega) by'.2.1 (by omega)
    rw [ei] at q1
    rw [ej] at q2
    have oi := oR_bV (tx := tx) (b := b) (k := k) (m := m) (i := i) (r := r)
    have oj := oR_bV (tx := tx) (b := b) (k := k) (m := m) (i := j) (r := r)
    have el : c 135 (9 * oRV tx b k m i r + oRV tx b k m j r).toNat = lwAV tx b k m i j a := by
      rw [hD _ (by omega) (by omega)]; unfold lwAV; rw [← zr]
    have ih := fun v hv => k56_4V d hI m0 m1 ha2 hP hA hw i0 i1 j0 j1 hF hD n (a + 1) v (some (vI (pkR r (b 143 (20 + m).toNat)))) (some (vI (oRV tx b k m i r))) (some (vI (lwAV tx b k m i j a))) (by omega) (by omega) hv
    simp only [fdU]
    rw [c56_4]
    repeat (first | rw [bnd_s] | rw [tI_m] | rw [tL_m] | rw [tA_m] | rw [tV_m] | rw [fC131 hs _ (by decide)] | rw [pC131 hs _ _ (by decide)] | rw [p5] | rw [gF_g hch.1.1 _ (by decide)] | rw [p8] | rw [if_pos (show a < ((ansL b m).length : Int) by omega)] | rw [q15] | rw [CS_131_0 hc] | rw [CS_131_1 hc] | rw [CS_131_3 hc] | rw [aC132 hs _ i0 (by omega)] | rw [aC133 hs _ i0 (by omega)] | rw [aC132 hs _ j0 (by omega)] | rw [aC133 hs _ j0 (by omega)] | rw [e2] | rw [e3] | rw [e2'] | rw [e3'] | rw [q1] | rw [q2] | rw [w32_id (z := oRV tx b k m i r * 9) (by omega) (by omega)] | rw [Int.mul_comm (oRV tx b k m i r) 9] | rw [w32_id (z := 9 * oRV tx b k m i r + oRV tx b k m j r) (by omega) (by omega)] | rw [aC135 hs _ (show 0 ≤ 9 * oRV tx b k m i r + oRV tx b k m j r by omega) (by omega)] | rw [el])
    by_cases za : a = 0
    · have e0 : lwAV tx b k m i j 0 = lwAV tx b k m i j a := by rw [za]
      rw [if_pos za, c56_53, w32_id (z := a + 1) (by omega) (by omega), ih _ (fun _ => e0.symm), fP_nV e0]
    · have hv' := hv (by omega)
      rw [if_neg za, hv']
      by_cases g : lwAV tx b k m i j a = lwAV tx b k m i j 0
      · rw [if_pos g, c56_53, w32_id (z := a + 1) (by omega) (by omega), ih _ (fun _ => rfl), fP_nV g.symm]
      · rw [if_neg g, fP_sV (fun w => g w.symm)]
        rfl
theorem k56V (d : Nat) {n0 : Nat} (hI : Inv s b n0) {k : Nat} {m : Int} (m0 : 0 ≤ m) (m1 : m < b 143 0) (ha2 : 0 ≤ tx (800 * k + 3) ∧ tx (800 * k + 3) ≤ 2) (hP : PlayRV tx b k m) (hA : AnsC s b (40 + 5 * m.toNat) (b 143 (20 + m).toNat) (ansL b m)) (hw : tx (800 * k + 1) = 1 ∨ tx (800 * k + 1) = 2 ∨ tx (800 * k + 1) = 3 ∨ tx (800 * k + 1) = 6) {i j : Int} (i0 : 0 ≤ i) (i1 : i < asN (tx (800 * k + 3)) (b 143 (20 + m).toNat) (b 143 (24 + m).toNat)) (j0 : 0 ≤ j) (j1 : j < asN (tx (800 * k + 3)) (b 143 (20 + m).toNat) (b 143 (24 + m).toNat)) {c : Nat → Nat → Int} (hF : PlF b c) (hD : lwDV tx b c k) : Cd (d + 3) 56 [vA 131, vI i, vI j] (s, c) = some ([vI ((fdU (fPV tx b k m i j) (ansL b m).length 0).getD (-1))], (s, c)) := by
  rw [c56 (hg := gC131 hI.1.l c)]
  exact k56_4V d hI m0 m1 ha2 hP hA hw i0 i1 j0 j1 hF hD (ansL b m).length 0 (-1) none none none (by omega) (by omega) (fun w => by omega)
def FFV (tx : Nat → Int) (b : Nat → Nat → Int) (k : Nat) (m i j : Int) : Option Int := fdU (fPV tx b k m i j) (ansL b m).length 0
theorem FF_nnV {b : Nat → Nat → Int} {k : Nat} {m i j a : Int} (h : FFV tx b k m i j = some a) : 0 ≤ a := fdU_pr (P := fun a => 0 ≤ a) _ _ _ (fun x h1 _ y hy => by
  unfold fPV at hy
  split at hy
  · simp only [Option.some.injEq] at hy; omega
  · cases hy) h
theorem lwD_uV {c : Nat → Nat → Int} {k i : Nat} {v : Int} (h : lwDV tx b c k) : lwDV tx b (u2 c 131 i v) k := fun x x0 x1 => by rw [u2_n (by omega)]; exact h x x0 x1
def T1V (tx : Nat → Int) (b : Nat → Nat → Int) (k : Nat) (m q i : Int) : Option (Int × Int × Int) := (FFV tx b k m i i).map (fun a => (if q = 2 then 0 else i, if q = 2 then i else -1, a))
def T2V (tx : Nat → Int) (b : Nat → Nat → Int) (k : Nat) (m i j : Int) : Option (Int × Int × Int) := (FFV tx b k m i j).map (fun a => (i, j, a))
theorem k53_15V (d : Nat) {n0 : Nat} (hI : Inv s b n0) {k : Nat} {m : Int} (m0 : 0 ≤ m) (m1 : m < b 143 0) (ha2 : 0 ≤ tx (800 * k + 3) ∧ tx (800 * k + 3) ≤ 2) (hP : PlayRV tx b k m) (hA : AnsC s b (40 + 5 * m.toNat) (b 143 (20 + m).toNat) (ansL b m)) (hw : tx (800 * k + 1) = 1 ∨ tx (800 * k + 1) = 2 ∨ tx (800 * k + 1) = 3 ∨ tx (800 * k + 1) = 6) (q : Int) : ∀ (n : Nat) (i : Int) (c : Nat → Nat → Int), 0 ≤ i → i + n = asN (tx (800 * k + 3)) (b 143 (20 + m).toNat) (b 143 (24 + m).toNat) → PlF b c → lwDV tx b c k → TC c = (-1, -1, -1) → ∃ c', Rr (Cd (d + 3)) 53 15 [some (vA 131), some (vI q), some (vI i)] [] (s, c) = some ([vI (b2i (fdU (T1V tx b k m q) n i).isSome)], (s, c')) ∧ PlF b c' ∧ TC c' = (fdU (T1V tx b k m q) n i).getD (-1, -1, -1)
  | 0, i, c, h0, h, hF, hD, hTC => by
    have hs := hI.1.l
    have p8 : c 131 8 = asN (tx (800 * k + 3)) (b 143 (20 + m).toNat) (b 143 (24 + m).toNat) := (hF _ _ (by omega) (by omega) (by omega)).trans hP.2.2.2.1
    refine ⟨c, ?_, hF, hTC⟩
    rw [c53_15]
    repeat (first | rw [bnd_s] | rw [tI_m] | rw [tL_m] | rw [tA_m] | rw [tV_m] | rw [fC131 hs _ (by decide)] | rw [pC131 hs _ _ (by decide)] | rw [p8] | rw [if_neg (show ¬ i < asN (tx (800 * k + 3)) (b 143 (20 + m).toNat) (b 143 (24 + m).toNat) by omega)])
    rfl
  | n + 1, i, c, h0, h, hF, hD, hTC => by
    have hs := hI.1.l
    have hM := hI.mok m m0 m1
    have aN := asN_b (a := tx (800 * k + 3)) hM.2.1.1 hM.2.1.2 hM.2.2.1.1 hM.2.2.1.2
    have p8 : c 131 8 = asN (tx (800 * k + 3)) (b 143 (20 + m).toNat) (b 143 (24 + m).toNat) := (hF _ _ (by omega) (by omega) (by omega)).trans hP.2.2.2.1
    have q6 := k56V d hI m0 m1 ha2 hP hA hw h0 (show i < asN (tx (800 * k + 3)) (b 143 (20 + m).toNat) (b 143 (24 + m).toNat) by omega) h0 (by omega) hF hD
    have T13 : c 131 13 = -1 := congrArg (fun t => t.1) hTC
    have T14 : c 131 14 = -1 := congrArg (fun t => t.2.1) hTC
    simp only [fdU]
    cases e : FFV tx b k m i i with
    | none =>
      have q6' : Cd (d + 3) 56 [vA 131, vI i, vI i] (s, c) = some ([vI (-1)], (s, c)) := by
        rw [q6]; show some ([vI ((FFV tx b k m i i).getD (-1))], (s, c)) = _; rw [e]; rfl
      have eT : T1V tx b k m q i = none := by unfold T1V; rw [e]; rfl
      rw [eT]
      obtain ⟨c', y1, y2, y3⟩ := k53_15V d hI m0 m1 ha2 hP hA hw q n (i + 1) (u2 c 131 12 (-1)) (by omega) (by omega) (hF.u (by omega) _) (lwD_uV hD) (by unfold TC; rw [u2_n (by omega), u2_n (by omega), u2_e, T13, T14])
      refine ⟨c', ?_, y2, y3⟩
      have e12 : u2 c 131 12 (-1) 131 12 = -1 := u2_e _ _ _ _
      rw [c53_15]
      repeat (first | rw [bnd_s] | rw [tI_m] | rw [tL_m] | rw [tA_m] | rw [tV_m] | rw [fC131 hs _ (by decide)] | rw [pC131 hs _ _ (by decide)] | rw [p8] | rw [if_pos (show i < asN (tx (800 * k + 3)) (b 143 (20 + m).toNat) (b 143 (24 + m).toNat) by omega)] | rw [q6'] | rw [e12] | rw [if_pos (show (-1 : Int) = -1 from rfl)] | rw [w32_id (z := i + 1) (by omega) (by omega)])
      exact y1
    | some a =>
      have a0 := FF_nnV e
      have q6' : Cd (d + 3) 56 [vA 131, vI i, vI i] (s, c) = some ([vI a], (s, c)) := by
        rw [q6]; show some ([vI ((FFV tx b k m i i).getD (-1))], (s, c)) = _; rw [e]; rfl
      have eT : T1V tx b k m q i = some (if q = 2 then 0 else i, if q = 2 then i else -1, a) := by unfold T1V; rw [e]; rfl
      rw [eT]
      have e12 : u2 c 131 12 a 131 12 = a := u2_e _ _ _ _
      refine ⟨u2 (u2 (u2 c 131 12 a) 131 13 (if q = 2 then 0 else i)) 131 14 (if q = 2 then i else -1), ?_, ((hF.u (by omega) _).u (by omega) _).u (by omega) _, by unfold TC; rw [u2_n (by omega), u2_e, u2_e, u2_n (by omega), u2_n (by omega), u2_e]; rfl⟩
      rw [c53_15]
      repeat (first | rw [bnd_s] | rw [tI_m] | rw [tL_m] | rw [tA_m] | rw [tV_m] | rw [fC131 hs _ (by decide)] | rw [pC131 hs _ _ (by decide)] | rw [p8] | rw [if_pos (show i < asN (tx (800 * k + 3)) (b 143 (20 + m).toNat) (b 143 (24 + m).toNat) by omega)] | rw [q6'] | rw [e12] | rw [if_neg (show ¬ a = -1 by omega)])
      by_cases g : q = 2
      · rw [if_pos g, if_pos g, if_pos g, c53_36]
        repeat (first | rw [bnd_s] | rw [tI_m] | rw [tL_m] | rw [tA_m] | rw [tV_m] | rw [fC131 hs _ (by decide)] | rw [pC131 hs _ _ (by decide)] | rw [if_pos g] | rw [c53_44])
        rfl
      · rw [if_neg g, if_neg g, if_neg g, c53_36]
        repeat (first | rw [bnd_s] | rw [tI_m] | rw [tL_m] | rw [tA_m] | rw [tV_m] | rw [fC131 hs _ (by decide)] | rw [pC131 hs _ _ (by decide)] | rw [if_neg g] | rw [c53_44])
        rfl
theorem k54_8V (d : Nat) {n0 : Nat} (hI : Inv s b n0) {k : Nat} {m : Int} (m0 : 0 ≤ m) (m1 : m < b 143 0) (ha2 : 0 ≤ tx (800 * k + 3) ∧ tx (800 * k + 3) ≤ 2) (hP : PlayRV tx b k m) (hA : AnsC s b (40 + 5 * m.toNat) (b 143 (20 + m).toNat) (ansL b m)) (hw : tx (800 * k + 1) = 1 ∨ tx (800 * k + 1) = 2 ∨ tx (800 * k + 1) = 3 ∨ tx (800 * k + 1) = 6) {i : Int} (i0 : 0 ≤ i) (i1 : i < asN (tx (800 * k + 3)) (b 143 (20 + m).toNat) (b 143 (24 + m).toNat)) : ∀ (n : Nat) (j : Int) (c : Nat → Nat → Int), 0 ≤ j → j + n = asN (tx (800 * k + 3)) (b 143 (20 + m).toNat) (b 143 (24 + m).toNat) → PlF b c → lwDV tx b c k → TC c = (-1, -1, -1) → (∃ t c', fdU (T2V tx b k m i) n j = some t ∧ Rr (Cd (d + 3)) 54 8 [some (vA 131), some (vI i), some (vI j)] [] (s, c) = some ([vI 1], (s, c')) ∧ PlF b c' ∧ TC c' = t) ∨ (∃ c', fdU (T2V tx b k m i) n j = none ∧ Rr (Cd (d + 3)) 54 8 [some (vA 131), some (vI i), some (vI j)] [] (s, c) = Rr (Cd (d + 3)) 54 2 [some (vA 131), some (vI (i + 1)), some (vI (asN (tx (800 * k + 3)) (b 143 (20 + m).toNat) (b 143 (24 + m).toNat)))] [] (s, c') ∧ PlF b c' ∧ lwDV tx b c' k ∧ TC c' = (-1, -1, -1))
  | 0, j, c, h0, h, hF, hD, hTC => by
    have hs := hI.1.l
    have hM := hI.mok m m0 m1
    have aN := asN_b (a := tx (800 * k + 3)) hM.2.1.1 hM.2.1.2 hM.2.2.1.1 hM.2.2.1.2
    have p8 : c 131 8 = asN (tx (800 * k + 3)) (b 143 (20 + m).toNat) (b 143 (24 + m).toNat) := (hF _ _ (by omega) (by omega) (by omega)).trans hP.2.2.2.1
    refine Or.inr ⟨c, rfl, ?_, hF, hD, hTC⟩
    rw [c54_8]
    repeat (first | rw [bnd_s] | rw [tI_m] | rw [tL_m] | rw [tA_m] | rw [tV_m] | rw [fC131 hs _ (by decide)] | rw [pC131 hs _ _ (by decide)] | rw [p8] | rw [if_neg (show ¬ j < asN (tx (800 * k + 3)) (b 143 (20 + m).toNat) (b 143 (24 + m).toNat) by omega)] | rw [w32_id (z := i + 1) (by omega) (by omega)])
    rw [show j = asN (tx (800 * k + 3)) (b 143 (20 + m).toNat) (b 143 (24 + m).toNat) by omega]
  | n + 1, j, c, h0, h, hF, hD, hTC => by
    have hs := hI.1.l
    have hM := hI.mok m m0 m1
    have aN := asN_b (a := tx (800 * k + 3)) hM.2.1.1 hM.2.1.2 hM.2.2.1.1 hM.2.2.1.2
    have p8 : c 131 8 = asN (tx (800 * k + 3)) (b 143 (20 + m).toNat) (b 143 (24 + m).toNat) := (hF _ _ (by omega) (by omega) (by omega)).trans hP.2.2.2.1
    have q6 := k56V d hI m0 m1 ha2 hP hA hw i0 i1 h0 (show j < asN (tx (800 * k + 3)) (b 143 (20 + m).toNat) (b 143 (24 + m).toNat) by omega) hF hD
    have T13 : c 131 13 = -1 := congrArg (fun t => t.1) hTC
    have T14 : c 131 14 = -1 := congrArg (fun t => t.2.1) hTC
    simp only [fdU]
    cases e : FFV tx b k m i j with
    | none =>
      have q6' : Cd (d + 3) 56 [vA 131, vI i, vI j] (s, c) = some ([vI (-1)], (s, c)) := by
        rw [q6]; show some ([vI ((FFV tx b k m i j).getD (-1))], (s, c)) = _; rw [e]; rfl
      have eT : T2V tx b k m i j = none := by unfold T2V; rw [e]; rfl
      rw [eT]
      have e12 : u2 c 131 12 (-1) 131 12 = -1 := u2_e _ _ _ _
      have run : Rr (Cd (d + 3)) 54 8 [some (vA 131), some (vI i), some (vI j)] [] (s, c) = Rr (Cd (d + 3)) 54 8 [some (vA 131), some (vI i), some (vI (j + 1))] [] (s, u2 c 131 12 (-1)) := by
        rw [c54_8]
        repeat (first | rw [bnd_s] | rw [tI_m] | rw [tL_m] | rw [tA_m] | rw [tV_m] | rw [fC131 hs _ (by decide)] | rw [pC131 hs _ _ (by decide)] | rw [p8] | rw [if_pos (show j < asN (tx (800 * k + 3)) (b 143 (20 + m).toNat) (b 143 (24 + m).toNat) by omega)] | rw [q6'] | rw [e12] | rw [if_pos (show (-1 : Int) = -1 from rfl)] | rw [w32_id (z := j + 1) (by omega) (by omega)])
      rw [run]
      exact k54_8V d hI m0 m1 ha2 hP hA hw i0 i1 n (j + 1) (u2 c 131 12 (-1)) (by omega) (by omega) (hF.u (by omega) _) (lwD_uV hD) (by unfold TC; rw [u2_n (by omega), u2_n (by omega), u2_e, T13, T14])
    | some a =>
      have a0 := FF_nnV e
      have q6' : Cd (d + 3) 56 [vA 131, vI i, vI j] (s, c) = some ([vI a], (s, c)) := by
        rw [q6]; show some ([vI ((FFV tx b k m i j).getD (-1))], (s, c)) = _; rw [e]; rfl
      have eT : T2V tx b k m i j = some (i, j, a) := by unfold T2V; rw [e]; rfl
      rw [eT]
      have e12 : u2 c 131 12 a 131 12 = a := u2_e _ _ _ _
      refine Or.inl ⟨(i, j, a), u2 (u2 (u2 c 131 12 a) 131 13 i) 131 14 j, rfl, ?_, ((hF.u (by omega) _).u (by omega) _).u (by omega) _, by unfold TC; rw [u2_n (by omega), u2_e, u2_e, u2_n (by omega), u2_n (by omega), u2_e]⟩
      rw [c54_8]
      repeat (first | rw [bnd_s] | rw [tI_m] | rw [tL_m] | rw [tA_m] | rw [tV_m] | rw [fC131 hs _ (by decide)] | rw [pC131 hs _ _ (by decide)] | rw [p8] | rw [if_pos (show j < asN (tx (800 * k + 3)) (b 143 (20 + m).toNat) (b 143 (24 + m).toNat) by omega)] | rw [q6'] | rw [e12] | rw [if_neg (show ¬ a = -1 by omega)])
theorem k54_2V (d : Nat) {n0 : Nat} (hI : Inv s b n0) {k : Nat} {m : Int} (m0 : 0 ≤ m) (m1 : m < b 143 0) (ha2 : 0 ≤ tx (800 * k + 3) ∧ tx (800 * k + 3) ≤ 2) (hP : PlayRV tx b k m) (hA : AnsC s b (40 + 5 * m.toNat) (b 143 (20 + m).toNat) (ansL b m)) (hw : tx (800 * k + 1) = 1 ∨ tx (800 * k + 1) = 2 ∨ tx (800 * k + 1) = 3 ∨ tx (800 * k + 1) = 6) : ∀ (n : Nat) (i : Int) (c : Nat → Nat → Int) (o2 : Option AV), 0 ≤ i → i + n = asN (tx (800 * k + 3)) (b 143 (20 + m).toNat) (b 143 (24 + m).toNat) → PlF b c → lwDV tx b c k → TC c = (-1, -1, -1) → ∃ c', Rr (Cd (d + 3)) 54 2 [some (vA 131), some (vI i), o2] [] (s, c) = some ([vI (b2i (fdU (fun i => fdU (T2V tx b k m i) (asN (tx (800 * k + 3)) (b 143 (20 + m).toNat) (b 143 (24 + m).toNat)).toNat 0) n i).isSome)], (s, c')) ∧ PlF b c' ∧ TC c' = (fdU (fun i => fdU (T2V tx b k m i) (asN (tx (800 * k + 3)) (b 143 (20 + m).toNat) (b 143 (24 + m).toNat)).toNat 0) n i).getD (-1, -1, -1)
  | 0, i, c, o2, h0, h, hF, hD, hTC => by
    have hs := hI.1.l
    have p8 : c 131 8 = asN (tx (800 * k + 3)) (b 143 (20 + m).toNat) (b 143 (24 + m).toNat) := (hF _ _ (by omega) (by omega) (by omega)).trans hP.2.2.2.1
    refine ⟨c, ?_, hF, hTC⟩
    rw [c54_2]
    repeat (first | rw [bnd_s] | rw [tI_m] | rw [tL_m] | rw [tA_m] | rw [tV_m] | rw [fC131 hs _ (by decide)] | rw [pC131 hs _ _ (by decide)] | rw [p8] | rw [if_neg (show ¬ i < asN (tx (800 * k + 3)) (b 143 (20 + m).toNat) (b 143 (24 + m).toNat) by omega)])
    rfl
  | n + 1, i, c, o2, h0, h, hF, hD, hTC => by
    have hs := hI.1.l
    have p8 : c 131 8 = asN (tx (800 * k + 3)) (b 143 (20 + m).toNat) (b 143 (24 + m).toNat) := (hF _ _ (by omega) (by omega) (by omega)).trans hP.2.2.2.1
    have run : Rr (Cd (d + 3)) 54 2 [some (vA 131), some (vI i), o2] [] (s, c) = Rr (Cd (d + 3)) 54 8 [some (vA 131), some (vI i), some (vI 0)] [] (s, c) := by
      rw [c54_2]
      repeat (first | rw [bnd_s] | rw [tI_m] | rw [tL_m] | rw [tA_m] | rw [tV_m] | rw [fC131 hs _ (by decide)] | rw [pC131 hs _ _ (by decide)] | rw [p8] | rw [if_pos (show i < asN (tx (800 * k + 3)) (b 143 (20 + m).toNat) (b 143 (24 + m).toNat) by omega)])
    rw [run]
    simp only [fdU]
    rcases k54_8V d hI m0 m1 ha2 hP hA hw h0 (show i < asN (tx (800 * k + 3)) (b 143 (20 + m).toNat) (b 143 (24 + m).toNat) by omega) (asN (tx (800 * k + 3)) (b 143 (20 + m).toNat) (b 143 (24 + m).toNat)).toNat 0 c (by omega) (by omega) hF hD hTC with ⟨t, c', y1, y2, y3, y4⟩ | ⟨c', y1, y2, y3, y4, y5⟩
    · rw [y1]; exact ⟨c', y2, y3, y4⟩
    · rw [y1, y2]; exact k54_2V d hI m0 m1 ha2 hP hA hw n (i + 1) c' (some (vI (asN (tx (800 * k + 3)) (b 143 (20 + m).toNat) (b 143 (24 + m).toNat)))) (by omega) (by omega) y3 y4 y5
def TTV (tx : Nat → Int) (b : Nat → Nat → Int) (k : Nat) (m q : Int) : Option (Int × Int × Int) := if q = 2 ∧ tx (800 * k + 2) ≠ 0 then fdU (fun i => fdU (T2V tx b k m i) (asN (tx (800 * k + 3)) (b 143 (20 + m).toNat) (b 143 (24 + m).toNat)).toNat 0) (asN (tx (800 * k + 3)) (b 143 (20 + m).toNat) (b 143 (24 + m).toNat)).toNat 0 else fdU (T1V tx b k m q) (asN (tx (800 * k + 3)) (b 143 (20 + m).toNat) (b 143 (24 + m).toNat)).toNat 0
theorem k53V (d : Nat) {n0 : Nat} (hI : Inv s b n0) {k : Nat} {m : Int} (m0 : 0 ≤ m) (m1 : m < b 143 0) (ha2 : 0 ≤ tx (800 * k + 3) ∧ tx (800 * k + 3) ≤ 2) (hP : PlayRV tx b k m) (hA : AnsC s b (40 + 5 * m.toNat) (b 143 (20 + m).toNat) (ansL b m)) (hw : tx (800 * k + 1) = 1 ∨ tx (800 * k + 1) = 2 ∨ tx (800 * k + 1) = 3 ∨ tx (800 * k + 1) = 6) (q : Int) : ∃ c', Cd (d + 5) 53 [vA 131, vI q] (s, b) = some ([vI (b2i (TTV tx b k m q).isSome)], (s, c')) ∧ PlF b c' ∧ TC c' = (TTV tx b k m q).getD (-1, -1, -1) := by
  have hs := hI.1.l
  have hM := hI.mok m m0 m1
  have aN := asN_b (a := tx (800 * k + 3)) hM.2.1.1 hM.2.1.2 hM.2.2.1.1 hM.2.2.1.2
  obtain ⟨c1, r1, f1, g1⟩ := k47 (d + 3) (c := b) hs
  obtain ⟨c2, r2, f2, g2⟩ := k55_2 (d + 2) (f1.inv hI) (w := tx (800 * k + 1)) ((f1 131 6 (by omega) (by omega) (by omega)).trans hP.2.1) 81 0 c1 none none (by omega) (by omega) (fun _ _ _ => rfl) (fun x x0 x1 => by omega)
  have r2' : Cd (d + 4) 55 [vA 131] (s, c1) = some ([], (s, c2)) := by
    rw [c55 (hg := gC131 hs _)]; exact r2
  have f2' : PlF b c2 := fun o i h1 h2 h3 => (f2 o i h2).trans (f1 o i h1 h2 h3)
  have hTC : TC c2 = (-1, -1, -1) := by
    unfold TC; rw [f2 131 13 (by omega), f2 131 14 (by omega), f2 131 12 (by omega), g1 13 (by omega) (by omega), g1 14 (by omega) (by omega), g1 12 (by omega) (by omega)]
  have e7 : c2 131 7 = tx (800 * k + 2) := (f2' 131 7 (by omega) (by omega) (by omega)).trans hP.2.2.1
  by_cases g : q = 2 ∧ tx (800 * k + 2) ≠ 0
  · have eT : TTV tx b k m q = fdU (fun i => fdU (T2V tx b k m i) (asN (tx (800 * k + 3)) (b 143 (20 + m).toNat) (b 143 (24 + m).toNat)).toNat 0) (asN (tx (800 * k + 3)) (b 143 (20 + m).toNat) (b 143 (24 + m).toNat)).toNat 0 := if_pos g
    obtain ⟨c3, y1, y2, y3⟩ := k54_2V d hI m0 m1 ha2 hP hA hw (asN (tx (800 * k + 3)) (b 143 (20 + m).toNat) (b 143 (24 + m).toNat)).toNat 0 c2 none (by omega) (by omega) f2' g2 hTC
    rw [eT]
    refine ⟨c3, ?_, y2, y3⟩
    have y1' : Cd (d + 4) 54 [vA 131] (s, c2) = some ([vI (b2i (fdU (fun i => fdU (T2V tx b k m i) (asN (tx (800 * k + 3)) (b 143 (20 + m).toNat) (b 143 (24 + m).toNat)).toNat 0) (asN (tx (800 * k + 3)) (b 143 (20 + m).toNat) (b 143 (24 + m).toNat)).toNat 0).isSome)], (s, c3)) := by
      rw [c54 (hg := gC131 hs _)]; exact y1
    rw [c53 (hg := gC131 hs _)]
    repeat (first | rw [bnd_s] | rw [tI_m] | rw [tL_m] | rw [tA_m] | rw [tV_m] | rw [fC131 hs _ (by decide)] | rw [pC131 hs _ _ (by decide)] | rw [r1] | rw [r2'] | rw [if_pos g.1] | rw [e7] | rw [if_neg g.2] | rw [y1'] | rw [if_pos (b2i_o _)])
  · have eT : TTV tx b k m q = fdU (T1V tx b k m q) (asN (tx (800 * k + 3)) (b 143 (20 + m).toNat) (b 143 (24 + m).toNat)).toNat 0 := if_neg g
    obtain ⟨c3, y1, y2, y3⟩ := k53_15V (d + 1) hI m0 m1 ha2 hP hA hw q (asN (tx (800 * k + 3)) (b 143 (20 + m).toNat) (b 143 (24 + m).toNat)).toNat 0 c2 (by omega) (by omega) f2' g2 hTC
    rw [eT]
    refine ⟨c3, ?_, y2, y3⟩
    rw [c53 (hg := gC131 hs _)]
    repeat (first | rw [bnd_s] | rw [tI_m] | rw [tL_m] | rw [tA_m] | rw [tV_m] | rw [r1] | rw [r2'])
    by_cases g1 : q = 2
    · rw [if_pos g1]
      repeat (first | rw [bnd_s] | rw [tI_m] | rw [tL_m] | rw [tA_m] | rw [tV_m] | rw [fC131 hs _ (by decide)] | rw [pC131 hs _ _ (by decide)] | rw [e7] | rw [if_pos (show tx (800 * k + 2) = 0 from Decidable.not_not.mp (fun w => g ⟨g1, w⟩))] | rw [c53_13])
      exact y1
    · rw [if_neg g1, c53_13]
      exact y1
section
variable {k : Nat} {m : Int}
theorem dM_1V (hw : tx (800 * k + 1) = 1 ∨ tx (800 * k + 1) = 2 ∨ tx (800 * k + 1) = 3 ∨ tx (800 * k + 1) = 6) (i a : Int) : dMV tx b k m i (-1) a = dPV tx b k m i i a := by
  have e : ∀ r x, hTV tx b k m i (-1) r x = sumU (fun v => b2i (decide (oE (pnt (b 143 (20 + m).toNat) r (asX b m (tx (800 * k + 3)) i)) (pnt (b 143 (20 + m).toNat) r (asY b m (tx (800 * k + 3)) i)) (drS (tx (800 * k + 1)) v) = x))) (tx (800 * k + 1)).toNat 0 := fun r x => sumU_cg _ _ (fun v _ _ => by unfold hCV; exact if_pos rfl)
  unfold dMV
  rw [anyU_cg (g := fun x => decide (sumU (fun v => b2i (decide (oE (pnt (b 143 (20 + m).toNat) ((ansL b m).getD 0 0) (asX b m (tx (800 * k + 3)) i)) (pnt (b 143 (20 + m).toNat) ((ansL b m).getD 0 0) (asY b m (tx (800 * k + 3)) i)) (drS (tx (800 * k + 1)) v) = x))) (tx (800 * k + 1)).toNat 0 ≠ sumU (fun v => b2i (decide (oE (pnt (b 143 (20 + m).toNat) ((ansL b m).getD a.toNat 0) (asX b m (tx (800 * k + 3)) i)) (pnt (b 143 (20 + m).toNat) ((ansL b m).getD a.toNat 0) (asY b m (tx (800 * k + 3)) i)) (drS (tx (800 * k + 1)) v) = x))) (tx (800 * k + 1)).toNat 0)) _ _ (fun x _ _ => by rw [e, e])]
  exact tl_1 (pnt_b _ _ _) (pnt_b _ _ _) (pnt_b _ _ _) (pnt_b _ _ _) hw
theorem dM_2V (hw : tx (800 * k + 1) = 1 ∨ tx (800 * k + 1) = 2 ∨ tx (800 * k + 1) = 3 ∨ tx (800 * k + 1) = 6) (ho : tx (800 * k + 2) ≠ 0) {i j : Int} (hj : j ≠ -1) (a : Int) : dMV tx b k m i j a = dPV tx b k m i j a := by
  have e : ∀ r x, hTV tx b k m i j r x = sumU (fun v => b2i (decide (9 * oE (pnt (b 143 (20 + m).toNat) r (asX b m (tx (800 * k + 3)) i)) (pnt (b 143 (20 + m).toNat) r (asY b m (tx (800 * k + 3)) i)) (drS (tx (800 * k + 1)) v) + oE (pnt (b 143 (20 + m).toNat) r (asX b m (tx (800 * k + 3)) j)) (pnt (b 143 (20 + m).toNat) r (asY b m (tx (800 * k + 3)) j)) (drS (tx (800 * k + 1)) v) = x))) (tx (800 * k + 1)).toNat 0 := fun r x => sumU_cg _ _ (fun v v0 v1 => by
    have : ∀ v', (if tx (800 * k + 2) = 0 ∨ v' = v then b2i (decide (9 * opRV tx b k m i r (drS (tx (800 * k + 1)) v) + opRV tx b k m j r (drS (tx (800 * k + 1)) v') = x)) else 0) = (if v' = v then b2i (decide (9 * opRV tx b k m i r (drS (tx (800 * k + 1)) v) + opRV tx b k m j r (drS (tx (800 * k + 1)) v') = x)) else 0) := fun v' => by
      by_cases g : v' = v
      · rw [if_pos g, if_pos (Or.inr g)]
      · rw [if_neg g, if_neg (fun w => w.elim ho g)]
    unfold hCV
    rw [if_neg hj, sumU_cg _ _ (fun v' _ _ => this v'), sumU_at (f := fun v' => b2i (decide (9 * opRV tx b k m i r (drS (tx (800 * k + 1)) v) + opRV tx b k m j r (drS (tx (800 * k + 1)) v') = x))), if_pos ⟨v0, v1⟩]
    rfl)
  unfold dMV
  rw [anyU_cg (g := fun x => decide (sumU (fun v => b2i (decide (9 * oE (pnt (b 143 (20 + m).toNat) ((ansL b m).getD 0 0) (asX b m (tx (800 * k + 3)) i)) (pnt (b 143 (20 + m).toNat) ((ansL b m).getD 0 0) (asY b m (tx (800 * k + 3)) i)) (drS (tx (800 * k + 1)) v) + oE (pnt (b 143 (20 + m).toNat) ((ansL b m).getD 0 0) (asX b m (tx (800 * k + 3)) j)) (pnt (b 143 (20 + m).toNat) ((ansL b m).getD 0 0) (asY b m (tx (800 * k + 3)) j)) (drS (tx (800 * k + 1)) v) = x))) (tx (800 * k + 1)).toNat 0 ≠ sumU (fun v => b2i (decide (9 * oE (pnt (b 143 (20 + m).toNat) ((ansL b m).getD a.toNat 0) (asX b m (tx (800 * k + 3)) i)) (pnt (b 143 (20 + m).toNat) ((ansL b m).getD a.toNat 0) (asY b m (tx (800 * k + 3)) i)) (drS (tx (800 * k + 1)) v) + oE (pnt (b 143 (20 + m).toNat) ((ansL b m).getD a.toNat 0) (asX b m (tx (800 * k + 3)) j)) (pnt (b 143 (20 + m).toNat) ((ansL b m).getD a.toNat 0) (asY b m (tx (800 * k + 3)) j)) (drS (tx (800 * k + 1)) v) = x))) (tx (800 * k + 1)).toNat 0)) _ _ (fun x _ _ => by rw [e, e])]
  exact tl_2 (pnt_b _ _ _) (pnt_b _ _ _) (pnt_b _ _ _) (pnt_b _ _ _) (pnt_b _ _ _) (pnt_b _ _ _) (pnt_b _ _ _) (pnt_b _ _ _) hw
theorem dM_3V (hw : tx (800 * k + 1) = 1 ∨ tx (800 * k + 1) = 2 ∨ tx (800 * k + 1) = 3 ∨ tx (800 * k + 1) = 6) (ho : tx (800 * k + 2) = 0) {i j : Int} (hj : j ≠ -1) (a : Int) : dMV tx b k m i j a = (dPV tx b k m i i a || dPV tx b k m j j a) := by
  have e : ∀ r x, hTV tx b k m i j r x = sumU (fun v => sumU (fun v' => b2i (decide (9 * oE (pnt (b 143 (20 + m).toNat) r (asX b m (tx (800 * k + 3)) i)) (pnt (b 143 (20 + m).toNat) r (asY b m (tx (800 * k + 3)) i)) (drS (tx (800 * k + 1)) v) + oE (pnt (b 143 (20 + m).toNat) r (asX b m (tx (800 * k + 3)) j)) (pnt (b 143 (20 + m).toNat) r (asY b m (tx (800 * k + 3)) j)) (drS (tx (800 * k + 1)) v') = x))) (tx (800 * k + 1)).toNat 0) (tx (800 * k + 1)).toNat 0 := fun r x => sumU_cg _ _ (fun v v0 v1 => by
    unfold hCV
    rw [if_neg hj]
    exact sumU_cg _ _ (fun v' _ _ => if_pos (Or.inl ho)))
  unfold dMV
  rw [anyU_cg (g := fun x => decide (sumU (fun v => sumU (fun v' => b2i (decide (9 * oE (pnt (b 143 (20 + m).toNat) ((ansL b m).getD 0 0) (asX b m (tx (800 * k + 3)) i)) (pnt (b 143 (20 + m).toNat) ((ansL b m).getD 0 0) (asY b m (tx (800 * k + 3)) i)) (drS (tx (800 * k + 1)) v) + oE (pnt (b 143 (20 + m).toNat) ((ansL b m).getD 0 0) (asX b m (tx (800 * k + 3)) j)) (pnt (b 143 (20 + m).toNat) ((ansL b m).getD 0 0) (asY b m (tx (800 * k + 3)) j)) (drS (tx (800 * k + 1)) v') = x))) (tx (800 * k + 1)).toNat 0) (tx (800 * k + 1)).toNat 0 ≠ sumU (fun v => sumU (fun v' => b2i (decide (9 * oE (pnt (b 143 (20 + m).toNat) ((ansL b m).getD a.toNat 0) (asX b m (tx (800 * k + 3)) i)) (pnt (b 143 (20 + m).toNat) ((ansL b m).getD a.toNat 0) (asY b m (tx (800 * k + 3)) i)) (drS (tx (800 * k + 1)) v) + oE (pnt (b 143 (20 + m).toNat) ((ansL b m).getD a.toNat 0) (asX b m (tx (800 * k + 3)) j)) (pnt (b 143 (20 + m).toNat) ((ansL b m).getD a.toNat 0) (asY b m (tx (800 * k + 3)) j)) (drS (tx (800 * k + 1)) v') = x))) (tx (800 * k + 1)).toNat 0) (tx (800 * k + 1)).toNat 0)) _ _ (fun x _ _ => by rw [e, e])]
  exact tl_3 (pnt_b _ _ _) (pnt_b _ _ _) (pnt_b _ _ _) (pnt_b _ _ _) (pnt_b _ _ _) (pnt_b _ _ _) (pnt_b _ _ _) (pnt_b _ _ _) hw
theorem f1M_eV (hw : tx (800 * k + 1) = 1 ∨ tx (800 * k + 1) = 2 ∨ tx (800 * k + 1) = 3 ∨ tx (800 * k + 1) = 6) (i : Int) : f1MV tx b k m i = T1V tx b k m 1 i := by
  unfold f1MV T1V FFV
  rw [fdU_map]
  refine fdU_cg _ _ (fun a _ _ => ?_)
  unfold fAV fPV
  rw [dM_1V hw]
  by_cases g : dPV tx b k m i i a = true
  · rw [if_pos g, if_pos g]; rfl
  · rw [if_neg g, if_neg g]; rfl
theorem f2M_eV (hw : tx (800 * k + 1) = 1 ∨ tx (800 * k + 1) = 2 ∨ tx (800 * k + 1) = 3 ∨ tx (800 * k + 1) = 6) (ho : tx (800 * k + 2) ≠ 0) {i j : Int} (hj : j ≠ -1) : f2MV tx b k m i j = T2V tx b k m i j := by
  unfold f2MV T2V FFV
  rw [fdU_map]
  refine fdU_cg _ _ (fun a _ _ => ?_)
  unfold fAV fPV
  rw [dM_2V hw ho hj]
  by_cases g : dPV tx b k m i j a = true
  · rw [if_pos g, if_pos g]; rfl
  · rw [if_neg g, if_neg g]; rfl
theorem FF_0V {i j : Int} (h : FFV tx b k m i j = none) : ∀ a : Int, 0 ≤ a → a < (ansL b m).length → dPV tx b k m i j a = false := fun a a0 a1 => by
  have := (fdU_none _ _).mp h a a0 (by omega)
  unfold fPV at this
  by_cases g : dPV tx b k m i j a = true
  · rw [if_pos g] at this; cases this
  · exact Bool.eq_false_iff.mpr g
theorem f2M_nV (hw : tx (800 * k + 1) = 1 ∨ tx (800 * k + 1) = 2 ∨ tx (800 * k + 1) = 3 ∨ tx (800 * k + 1) = 6) (ho : tx (800 * k + 2) = 0) {i j : Int} (hj : j ≠ -1) (h : FFV tx b k m i i = none) : f2MV tx b k m i j = (FFV tx b k m j j).map (fun a => (i, j, a)) := by
  unfold f2MV
  rw [FFV, fdU_map]
  refine fdU_cg _ _ (fun a a0 a1 => ?_)
  unfold fAV fPV
  rw [dM_3V hw ho hj, FF_0V h a a0 (by omega), Bool.false_or]
  by_cases g : dPV tx b k m j j a = true
  · rw [if_pos g, if_pos g]; rfl
  · rw [if_neg g, if_neg g]; rfl
theorem f2M_sV (hw : tx (800 * k + 1) = 1 ∨ tx (800 * k + 1) = 2 ∨ tx (800 * k + 1) = 3 ∨ tx (800 * k + 1) = 6) (ho : tx (800 * k + 2) = 0) {i : Int} (hj : i ≠ -1) : f2MV tx b k m i i = (FFV tx b k m i i).map (fun a => (i, i, a)) := by
  unfold f2MV
  rw [FFV, fdU_map]
  refine fdU_cg _ _ (fun a a0 a1 => ?_)
  unfold fAV fPV
  rw [dM_3V hw ho hj, Bool.or_self]
  by_cases g : dPV tx b k m i i a = true
  · rw [if_pos g, if_pos g]; rfl
  · rw [if_neg g, if_neg g]; rfl
theorem fM_TTV (hw : tx (800 * k + 1) = 1 ∨ tx (800 * k + 1) = 2 ∨ tx (800 * k + 1) = 3 ∨ tx (800 * k + 1) = 6) {q : Int} (hq : q = 1 ∨ q = 2) : fdU (fMV tx b k m q) (asN (tx (800 * k + 3)) (b 143 (20 + m).toNat) (b 143 (24 + m).toNat)).toNat 0 = TTV tx b k m q := by
  rcases hq with e | e <;> subst e
  · unfold TTV
    rw [if_neg (fun w => absurd w.1 (by decide))]
    exact fdU_cg _ _ (fun i _ _ => by unfold fMV; rw [if_pos rfl, f1M_eV hw])
  · unfold TTV
    by_cases g : tx (800 * k + 2) = 0
    · rw [if_neg (fun w => w.2 g)]
      have eM : ∀ i, fMV tx b k m 2 i = fdU (f2MV tx b k m i) (asN (tx (800 * k + 3)) (b 143 (20 + m).toNat) (b 143 (24 + m).toNat)).toNat 0 := fun i => by unfold fMV; rw [if_neg (by decide)]
      rw [fdU_cg _ _ (fun i _ _ => eM i)]
      have e1 : ∀ i, T1V tx b k m 2 i = (FFV tx b k m i i).map (fun a => (0, i, a)) := fun i => by unfold T1V; rw [if_pos rfl, if_pos rfl]
      rw [fdU_cg (f := T1V tx b k m 2) _ _ (fun i _ _ => e1 i)]
      generalize (asN (tx (800 * k + 3)) (b 143 (20 + m).toNat) (b 143 (24 + m).toNat)).toNat = N
      match N with
      | 0 => rfl
      | N + 1 =>
        cases e : FFV tx b k m 0 0 with
        | some a =>
          have l : fdU (f2MV tx b k m 0) (N + 1) 0 = some (0, 0, a) := by
            simp only [fdU]; rw [f2M_sV hw g (by decide), e]; rfl
          have r : fdU (fun i => (FFV tx b k m i i).map (fun a => ((0 : Int), i, a))) (N + 1) 0 = some (0, 0, a) := by
            simp only [fdU]; rw [e]; rfl
          rw [r, fdU, l]
        | none =>
          have l : fdU (f2MV tx b k m 0) (N + 1) 0 = fdU (fun i => (FFV tx b k m i i).map (fun a => ((0 : Int), i, a))) (N + 1) 0 := fdU_cg _ _ (fun j j0 _ => f2M_nV hw g (by omega) e)
          cases h : fdU (fun i => (FFV tx b k m i i).map (fun a => ((0 : Int), i, a))) (N + 1) 0 with
          | some t => rw [fdU, l, h]
          | none =>
            have hn : ∀ j, 0 ≤ j → j < 0 + ((N + 1 : Nat) : Int) → FFV tx b k m j j = none := fun j j0 j1 => by
              have := (fdU_none _ _).mp h j j0 j1
              cases q : FFV tx b k m j j with
              | none => rfl
              | some a => rw [q] at this; cases this
            refine (fdU_none _ _).mpr (fun i i0 i1 => (fdU_none _ _).mpr (fun j j0 j1 => ?_))
            rw [f2M_nV hw g (by omega) (hn i i0 i1), hn j j0 j1]; rfl
    · rw [if_pos ⟨rfl, g⟩]
      refine fdU_cg _ _ (fun i _ _ => ?_)
      unfold fMV
      rw [if_neg (by decide)]
      exact fdU_cg _ _ (fun j j0 _ => f2M_eV hw g (by omega))
theorem TT_ofV {c : Nat → Nat → Int} (e3 : c 143 = b 143) (e5 : tx = tx) (q : Int) : TTV tx c k m q = TTV tx b k m q := by
  have h1 : ∀ i r, oRV tx c k m i r = oRV tx b k m i r := fun i r => by unfold oRV; rw [e3, e5, asX_of e3, asY_of e3]
  have h2 : ∀ i j a, lwAV tx c k m i j a = lwAV tx b k m i j a := fun i j a => by unfold lwAV; rw [e5, ansL_of e3, h1, h1]
  have h3 : ∀ i j, fPV tx c k m i j = fPV tx b k m i j := fun i j => funext fun a => by unfold fPV dPV; rw [h2, h2]
  have h4 : ∀ i j, FFV tx c k m i j = FFV tx b k m i j := fun i j => by unfold FFV; rw [h3, ansL_of e3]
  have h5 : T1V tx c k m q = T1V tx b k m q := funext fun i => by unfold T1V; rw [h4]
  have h6 : ∀ i, T2V tx c k m i = T2V tx b k m i := fun i => funext fun j => by unfold T2V; rw [h4]
  have h7 : (fun i => fdU (T2V tx c k m i) (asN (tx (800 * k + 3)) (b 143 (20 + m).toNat) (b 143 (24 + m).toNat)).toNat 0) = fun i => fdU (T2V tx b k m i) (asN (tx (800 * k + 3)) (b 143 (20 + m).toNat) (b 143 (24 + m).toNat)).toNat 0 := funext fun i => by rw [h6]
  unfold TTV
  rw [e3, e5, h5, h7]
end
end
