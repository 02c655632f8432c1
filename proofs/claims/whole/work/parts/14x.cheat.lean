/-! the best cheat, as the class finds it -/
/-- what finding may change in a play -/
def PlF (b c : Nat → Nat → Int) : Prop := ∀ o i, ¬ (o = 131 ∧ 9 ≤ i) → o ≠ 135 → o ≠ 136 → c o i = b o i
theorem PlF.rf (b : Nat → Nat → Int) : PlF b b := fun _ _ _ _ _ => rfl
theorem PlF.u {b c : Nat → Nat → Int} (h : PlF b c) {i : Nat} (hi : 9 ≤ i) (v : Int) : PlF b (u2 c 131 i v) := fun o j h1 h2 h3 => by rw [u2_n (by omega)]; exact h o j h1 h2 h3
theorem PlayR_of {b c : Nat → Nat → Int} {k : Nat} {m : Int} (h : PlayR b k m) (f : PlF b c) : PlayR c k m := by
  have e3 : c 143 = b 143 := funext fun i => f _ _ (by omega) (by omega) (by omega)
  have e5 : c 145 = b 145 := funext fun i => f _ _ (by omega) (by omega) (by omega)
  unfold PlayR
  rw [e3, e5, f 131 5 (by omega) (by omega) (by omega), f 131 6 (by omega) (by omega) (by omega), f 131 7 (by omega) (by omega) (by omega), f 131 8 (by omega) (by omega) (by omega)]
  refine ⟨h.1, h.2.1, h.2.2.1, h.2.2.2.1, fun i h0 h1 => ?_⟩
  rw [asX_of e3, asY_of e3, f 132 _ (by omega) (by omega) (by omega), f 133 _ (by omega) (by omega) (by omega), f 134 _ (by omega) (by omega) (by omega)]
  exact h.2.2.2.2 i h0 h1
theorem PlF.frC {b c : Nat → Nat → Int} (h : PlF b c) : FrC b c := fun o i hi => h o i (fun w => by rw [w.1] at hi; simp [cScr] at hi; omega) (fun w => by rw [w] at hi; simp [cScr] at hi) (fun w => by rw [w] at hi; simp [cScr] at hi)
theorem PlF.inv {s : List (Nat × Nat)} {b c : Nat → Nat → Int} {n : Nat} (h : PlF b c) (hI : Inv s b n) : Inv s c n :=
  Inv_C hI h.frC hI.1 (RefI_of hI.2.2.2.2.2.2.2.1 (fun m' _ => ⟨h _ _ (by omega) (by omega) (by omega), h _ _ (by omega) (by omega) (by omega)⟩)) (AnsI_of hI.2.2.2.2.2.2.2.2.1 (funext fun i => h _ _ (by omega) (by omega) (by omega)) (fun o i _ _ => h _ _ (by omega) (by omega) (by omega)) (fun o _ => funext fun i => h _ _ (by omega) (by omega) (by omega)))
theorem k47 (d : Nat) {s : List (Nat × Nat)} {c : Nat → Nat → Int} (hs : SpL s) : ∃ c1, Cd (d + 1) 47 [vA 131] (s, c) = some ([], (s, c1)) ∧ PlF c c1 ∧ ∀ i, 11 ≤ i → i ≤ 16 → c1 131 i = -1 := by
  refine ⟨u2 (u2 (u2 (u2 (u2 (u2 c 131 11 (-1)) 131 12 (-1)) 131 13 (-1)) 131 14 (-1)) 131 15 (-1)) 131 16 (-1), ?_, (((((PlF.rf c).u (by omega) _).u (by omega) _).u (by omega) _).u (by omega) _).u (by omega) _ |>.u (by omega) _, fun i h1 h2 => ?_⟩
  · rw [c47 (hg := gC131 hs c)]
    repeat (first | rw [bnd_s] | rw [tI_m] | rw [tL_m] | rw [tA_m] | rw [tV_m] | rw [fC131 hs _ (by decide)] | rw [pC131 hs _ _ (by decide)])
  · have : i = 11 ∨ i = 12 ∨ i = 13 ∨ i = 14 ∨ i = 15 ∨ i = 16 := by omega
    rcases this with rfl | rfl | rfl | rfl | rfl | rfl <;> (repeat (first | rw [u2_e] | rw [u2_n (by omega)]))
section
variable {s : List (Nat × Nat)} {b : Nat → Nat → Int}
theorem cntR_b {k : Nat} {m : Int} (hM : MapOK b m) (r : Int) : 0 ≤ cntR b k m r ∧ cntR b k m r ≤ asN (b 145 (800 * k + 3)) (b 143 (20 + m).toNat) (b 143 (24 + m).toNat) := by
  have aN := asN_b (a := b 145 (800 * k + 3)) hM.2.1.1 hM.2.1.2 hM.2.2.1.1 hM.2.2.1.2
  have := sumU_b (fun i => b2i (belR b k m 0 i r)) (B := 1) (asN (b 145 (800 * k + 3)) (b 143 (20 + m).toNat) (b 143 (24 + m).toNat)).toNat 0 (fun _ _ _ => b2i_b _)
  unfold cntR
  omega
theorem k51_12 (d : Nat) {n0 : Nat} (hI : Inv s b n0) {k : Nat} {m : Int} (m0 : 0 ≤ m) (m1 : m < b 143 0) (ha2 : 0 ≤ b 145 (800 * k + 3) ∧ b 145 (800 * k + 3) ≤ 2) (hP : PlayR b k m) : ∀ (n : Nat) (r : Int) (c : Nat → Nat → Int), PlF b c → 0 ≤ r → r + n = r3 (b 143 (20 + m).toNat) → ∀ o3, ∃ c', Rr (Cd (d + 3)) 51 12 [some (vA 131), some (vI (r3 (b 143 (20 + m).toNat))), some (vI r), o3] [] (s, c) = some ([], (s, c')) ∧ PlF b c' ∧ c' 131 9 = (mx (cntR b k m) n r (c 131 9) (c 131 11)).1 ∧ c' 131 11 = (mx (cntR b k m) n r (c 131 9) (c 131 11)).2
  | 0, r, c, hF, h0, h, o3 => by
    refine ⟨c, ?_, hF, rfl, rfl⟩
    rw [c51_12, if_neg (by omega), c51_40]
  | n + 1, r, c, hF, h0, h, o3 => by
    have hI1 := hF.inv hI
    have hs := hI1.1.l
    have hc := hI1.2.2.2.1
    have e3 : c 143 = b 143 := funext fun i => hF _ _ (by omega) (by omega) (by omega)
    have e5 : c 145 = b 145 := funext fun i => hF _ _ (by omega) (by omega) (by omega)
    have hM := hI.mok m m0 m1
    have hM1 := MapOK_of hM e3
    have hP1 := PlayR_of hP hF
    have rb := r3_b hM.2.1.2
    have p5 := hP1.1
    have p8 := hP1.2.2.2.1
    rw [e3, e5] at p8
    have n4 := hI.nM.2
    have hch := chN hs hc (m := m.toNat) (by omega)
    have hmr := (hI1.map (m := m.toNat) (by rw [e3]; omega)).1.1
    rw [Int.toNat_of_nonneg m0, e3] at hmr
    have q52 := k52 d hs hc hM1 (by rw [e5]; exact ha2) hP1 h0 (by rw [e3]; omega)
    rw [e3, e5] at q52
    rw [show (fun i => b2i (belR c k m 0 i r)) = fun i => b2i (belR b k m 0 i r) from funext fun i => by rw [belR_of e3 e5]] at q52
    rw [show sumU (fun i => b2i (belR b k m 0 i r)) (asN (b 145 (800 * k + 3)) (b 143 (20 + m).toNat) (b 143 (24 + m).toNat)).toNat 0 = cntR b k m r from rfl] at q52
    by_cases g0 : c 131 9 < asN (b 145 (800 * k + 3)) (b 143 (20 + m).toNat) (b 143 (24 + m).toNat)
    · rw [c51_12, if_pos (by omega)]
      simp only [mx]
      repeat (first | rw [bnd_s] | rw [tI_m] | rw [tL_m] | rw [tA_m] | rw [tV_m] | rw [fC131 hs _ (by decide)] | rw [pC131 hs _ _ (by decide)] | rw [p8] | rw [if_pos g0] | rw [p5] | rw [gF_g hch.1.1 _ (by decide)] | rw [hmr] | rw [k164 _ _ _ (show 0 ≤ b 143 (20 + m).toNat by have := hM.2.1.1; omega) hM.2.1.2] | rw [q52])
      by_cases g : c 131 9 < cntR b k m r
      · have hF2 : PlF b (u2 (u2 c 131 9 (cntR b k m r)) 131 11 r) := (hF.u (by omega) _).u (by omega) _
        obtain ⟨c2, y1, y2, y3, y4⟩ := k51_12 d hI m0 m1 ha2 hP n (r + 1) _ hF2 (by omega) (by omega) (some (vI (cntR b k m r)))
        rw [u2_e, u2_n (by omega), u2_e] at y3 y4
        refine ⟨c2, ?_, y2, ?_, ?_⟩
        · rw [if_pos g]
          repeat (first | rw [bnd_s] | rw [tI_m] | rw [tL_m] | rw [tA_m] | rw [tV_m] | rw [fC131 hs _ (by decide)] | rw [pC131 hs _ _ (by decide)] | rw [c51_38] | rw [w32_id (z := r + 1) (by omega) (by omega)])
          exact y1
        · rw [if_pos g]; exact y3
        · rw [if_pos g]; exact y4
      · obtain ⟨c2, y1, y2, y3, y4⟩ := k51_12 d hI m0 m1 ha2 hP n (r + 1) c hF (by omega) (by omega) (some (vI (cntR b k m r)))
        refine ⟨c2, ?_, y2, ?_, ?_⟩
        · rw [if_neg g, c51_38, w32_id (z := r + 1) (by omega) (by omega)]; exact y1
        · rw [if_neg g]; exact y3
        · rw [if_neg g]; exact y4
    · refine ⟨c, ?_, hF, ?_, ?_⟩
      · rw [c51_12, if_pos (by omega)]
        repeat (first | rw [bnd_s] | rw [tI_m] | rw [tL_m] | rw [tA_m] | rw [tV_m] | rw [fC131 hs _ (by decide)] | rw [pC131 hs _ _ (by decide)] | rw [p8] | rw [if_neg g0] | rw [c51_40])
      · rw [mx_top (fun j => (cntR_b hM j).2) (by omega)]
      · rw [mx_top (fun j => (cntR_b hM j).2) (by omega)]
theorem k51 (d : Nat) {n0 : Nat} (hI : Inv s b n0) {k : Nat} {m : Int} (m0 : 0 ≤ m) (m1 : m < b 143 0) (ha2 : 0 ≤ b 145 (800 * k + 3) ∧ b 145 (800 * k + 3) ≤ 2) (hP : PlayR b k m) : ∃ c', Cd (d + 4) 51 [vA 131] (s, b) = some ([], (s, c')) ∧ PlF b c' ∧ c' 131 9 = (mx (cntR b k m) (r3 (b 143 (20 + m).toNat)).toNat 0 (-1) (-1)).1 ∧ c' 131 11 = (mx (cntR b k m) (r3 (b 143 (20 + m).toNat)).toNat 0 (-1) (-1)).2 := by
  have hs := hI.1.l
  have hM := hI.mok m m0 m1
  have rb := r3_b hM.2.1.2
  have n4 := hI.nM.2
  obtain ⟨c1, r1, f1, g1⟩ := k47 (d + 2) (c := b) hs
  have f2 : PlF b (u2 c1 131 9 (-1)) := f1.u (by omega) _
  have hI2 := f2.inv hI
  have e3 : u2 c1 131 9 (-1) 143 = b 143 := funext fun i => f2 _ _ (by omega) (by omega) (by omega)
  have hch := chN hs hI2.2.2.2.1 (m := m.toNat) (by omega)
  have hmr := (hI2.map (m := m.toNat) (by rw [e3]; omega)).1.1
  rw [Int.toNat_of_nonneg m0, e3] at hmr
  have p5 := (PlayR_of hP f2).1
  obtain ⟨c2, y1, y2, y3, y4⟩ := k51_12 d hI m0 m1 ha2 hP (r3 (b 143 (20 + m).toNat)).toNat 0 _ f2 (by omega) (by omega) none
  rw [u2_e, u2_n (by omega), g1 11 (by omega) (by omega)] at y3 y4
  refine ⟨c2, ?_, y2, y3, y4⟩
  rw [c51 (hg := gC131 hs b)]
  repeat (first | rw [bnd_s] | rw [tI_m] | rw [tL_m] | rw [tA_m] | rw [tV_m] | rw [fC131 hs _ (by decide)] | rw [pC131 hs _ _ (by decide)] | rw [r1] | rw [p5] | rw [gF_g hch.1.1 _ (by decide)] | rw [hmr] | rw [k163 _ _ (show 0 ≤ b 143 (20 + m).toNat by have := hM.2.1.1; omega) hM.2.1.2])
  exact y1
end
