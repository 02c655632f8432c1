/-! a play begins -/
def PLf (b c : Nat → Nat → Int) : Prop := ∀ o i, ¬ (o = 131 ∧ i = 8) → o ≠ 132 → o ≠ 133 → o ≠ 134 → c o i = b o i
def PLn (b c : Nat → Nat → Int) (n : Int) (j : Nat) (m a : Int) : Prop := c 131 8 = n ∧ PLf b c ∧ ∀ k, 0 ≤ k → k < n → c 132 k.toNat = asX b m a k ∧ c 133 k.toNat = asY b m a k ∧ c 134 k.toNat = b j (7 * asX b m a k + asY b m a k).toNat
section
variable {s : List (Nat × Nat)} {b c : Nat → Nat → Int}
theorem k46 (d : Nat) (hs : SpL s) (hr : b 131 0 = 132 ∧ b 131 1 = 133 ∧ b 131 2 = 134) {j : Nat} (hj : s[j]? = some (100, 49)) (hj2 : j < 122) {n m a x y : Int} (hP : PLn b c n j m a) (h0 : 0 ≤ n) (h1 : n < 21) (hx : asX b m a n = x) (hy : asY b m a n = y) (bx : 0 ≤ x ∧ x < 7) (by' : 0 ≤ y ∧ y < 7) : ∃ c1, Cd (d + 1) 46 [vA 131, vI x, vI y, vA (j : Int)] (s, c) = some ([], (s, c1)) ∧ PLn b c1 (n + 1) j m a := by
  obtain ⟨p8, pf, pk⟩ := hP
  have r0 : c 131 0 = 132 := (pf 131 0 (by omega) (by omega) (by omega) (by omega)).trans hr.1
  have r1 : c 131 1 = 133 := (pf 131 1 (by omega) (by omega) (by omega) (by omega)).trans hr.2.1
  have r2 : c 131 2 = 134 := (pf 131 2 (by omega) (by omega) (by omega) (by omega)).trans hr.2.2
  have W0 : w32 (x * 7) = x * 7 := w32_id (by omega) (by omega)
  have W1 : w32 (x * 7 + y) = x * 7 + y := w32_id (by omega) (by omega)
  have W2 : w32 (n + 1) = n + 1 := w32_id (by omega) (by omega)
  have ej : c j (x * 7 + y).toNat = b j (7 * x + y).toNat := by rw [Int.mul_comm x 7]; exact pf j _ (by omega) (by omega) (by omega) (by omega)
  refine ⟨u2 (u2 (u2 (u2 c 132 n.toNat x) 133 n.toNat y) 134 n.toNat (b j (7 * x + y).toNat)) 131 8 (n + 1), ?_, u2_e _ _ _ _, fun o i g1 g2 g3 g4 => ?_, fun k k0 k1 => ?_⟩
  · rw [c46 (hg := gC131 hs c)]
    repeat (first | rw [bnd_s] | rw [tI_m] | rw [tL_m] | rw [tA_m] | rw [tV_m] | rw [fC131 hs _ (by decide)] | rw [pC131 hs _ _ (by decide)] | rw [p8] | rw [if_pos h1] | rw [gL_g hj (by decide)] | rw [W0] | rw [W1] | rw [if_pos (show x * 7 + y < ((49 : Nat) : Int) by omega)] | rw [u2_n (by omega)] | rw [r0] | rw [r1] | rw [r2] | rw [qC132 hs _ _ h0 (by omega)] | rw [qC133 hs _ _ h0 (by omega)] | rw [qC134 hs _ _ h0 (by omega)] | rw [gA_g (a := 0) hj _ (show 0 ≤ x * 7 + y by omega) (by omega)] | rw [ej] | rw [W2] | rw [c46_40])
  · rw [u2_n (by omega), u2_n (by omega), u2_n (by omega), u2_n (by omega)]; exact pf o i g1 g2 g3 g4
  · by_cases q : k = n
    · subst q
      refine ⟨?_, ?_, ?_⟩
      · rw [u2_n (by omega), u2_n (by omega), u2_n (by omega), u2_e, hx]
      · rw [u2_n (by omega), u2_n (by omega), u2_e, hy]
      · rw [u2_n (by omega), u2_e, hx, hy]
    · have z := pk k k0 (by omega)
      refine ⟨?_, ?_, ?_⟩
      · rw [u2_n (by omega), u2_n (by omega), u2_n (by omega), u2_n (by omega)]; exact z.1
      · rw [u2_n (by omega), u2_n (by omega), u2_n (by omega), u2_n (by omega)]; exact z.2.1
      · rw [u2_n (by omega), u2_n (by omega), u2_n (by omega), u2_n (by omega)]; exact z.2.2
end
section
variable {s : List (Nat × Nat)} {b : Nat → Nat → Int}
theorem k45_15 (d : Nat) (hs : SpL s) (hr : b 131 0 = 132 ∧ b 131 1 = 133 ∧ b 131 2 = 134) {j q : Nat} (hj : s[j]? = some (100, 49)) (hj2 : j < 122) {m : Int} (hq2 : q + 4 < 122) (hC : CH s b q) (hM : MapRel (b 143) b q m) (o2 o3 o7 : Option AV) : ∀ (n : Nat) (k : Int) (c : Nat → Nat → Int), 0 ≤ k → k + n = b 143 (24 + m).toNat → PLn b c k j m 0 → ∃ c1, Rr (Cd (d + 1)) 45 15 [some (vA 131), some (vA (q : Int)), o2, o3, some (vI 0), some (vA (j : Int)), some (vI k), o7] [] (s, c) = some ([], (s, c1)) ∧ PLn b c1 (b 143 (24 + m).toNat) j m 0
  | 0, k, c, h0, h, hP => by
    have ek : k = b 143 (24 + m).toNat := by omega
    refine ⟨c, ?_, ek ▸ hP⟩
    have e5 : c q 5 = b 143 (24 + m).toNat := (hP.2.1 q 5 (by omega) (by omega) (by omega) (by omega)).trans hM.1.2
    rw [c45_15, if_pos rfl]
    repeat (first | rw [bnd_s] | rw [tI_m] | rw [tL_m] | rw [tA_m] | rw [tV_m] | rw [gF_g hC.1.1 _ (by decide)] | rw [e5] | rw [if_neg (show ¬ k < b 143 (24 + m).toNat by omega)] | rw [c45_34] | rw [c45_36] | rw [if_neg (show ¬ (0 : Int) = 2 by decide)] | rw [c45_50] | rw [c45_52] | rw [if_neg (show ¬ (0 : Int) = 1 by decide)] | rw [c45_76])
  | n + 1, k, c, h0, h, hP => by
    obtain ⟨-, ⟨k2, k3⟩, ⟨k4, k5⟩, k6, -⟩ := id hM
    have g := k6 k h0 (by omega)
    have fq : ∀ o i, q ≤ o → o < q + 5 → c o i = b o i := fun o i g1 g2 => hP.2.1 o i (by omega) (by omega) (by omega) (by omega)
    have e5 : c q 5 = b 143 (24 + m).toNat := (fq q 5 (by omega) (by omega)).trans hM.1.2
    have e0 : c q 0 = ((q + 1 : Nat) : Int) := (fq q 0 (by omega) (by omega)).trans hC.2.1
    have e1 : c q 1 = ((q + 2 : Nat) : Int) := (fq q 1 (by omega) (by omega)).trans hC.2.2.1
    have x0 : c (q + 1) k.toNat = b 143 (30 + 30 * m + 2 * k).toNat := (fq _ _ (by omega) (by omega)).trans g.1.1
    have x1 : c (q + 2) k.toNat = b 143 (30 + 30 * m + 2 * k + 1).toNat := (fq _ _ (by omega) (by omega)).trans g.1.2
    obtain ⟨c1, r1, hP1⟩ := k46 d hs hr hj hj2 hP h0 (by omega) (x := b 143 (30 + 30 * m + 2 * k).toNat) (y := b 143 (30 + 30 * m + 2 * k + 1).toNat) rfl rfl (by omega) (by omega)
    obtain ⟨c2, r2, hP2⟩ := k45_15 d hs hr hj hj2 hq2 hC hM o2 o3 o7 n (k + 1) c1 (by omega) (by omega) hP1
    refine ⟨c2, ?_, hP2⟩
    rw [c45_15, if_pos rfl]
    repeat (first | rw [bnd_s] | rw [tI_m] | rw [tL_m] | rw [tA_m] | rw [tV_m] | rw [gF_g hC.1.1 _ (by decide)] | rw [e5] | rw [if_pos (show k < b 143 (24 + m).toNat by omega)] | rw [e0] | rw [e1] | rw [gA_g (a := 0) hC.1.2.1 _ h0 (show k < ((15 : Nat) : Int) by omega)] | rw [gA_g (a := 0) hC.1.2.2.1 _ h0 (show k < ((15 : Nat) : Int) by omega)] | rw [x0] | rw [x1] | rw [r1] | rw [w32_id (z := k + 1) (by omega) (by omega)])
    exact r2
theorem k45_36 (d : Nat) (hs : SpL s) (hr : b 131 0 = 132 ∧ b 131 1 = 133 ∧ b 131 2 = 134) {j q : Nat} (hj : s[j]? = some (100, 49)) (hj2 : j < 122) {m : Int} (hq2 : q + 4 < 122) (hC : CH s b q) (hM : MapRel (b 143) b q m) (o2 o3 o7 : Option AV) : ∀ (n : Nat) (k : Int) (c : Nat → Nat → Int), 0 ≤ k → k + n = b 143 (20 + m).toNat → PLn b c k j m 2 → ∃ c1, Rr (Cd (d + 1)) 45 36 [some (vA 131), some (vA (q : Int)), o2, o3, some (vI 2), some (vA (j : Int)), some (vI k), o7] [] (s, c) = some ([], (s, c1)) ∧ PLn b c1 (b 143 (20 + m).toNat) j m 2
  | 0, k, c, h0, h, hP => by
    have ek : k = b 143 (20 + m).toNat := by omega
    refine ⟨c, ?_, ek ▸ hP⟩
    have e4 : c q 4 = b 143 (20 + m).toNat := (hP.2.1 q 4 (by omega) (by omega) (by omega) (by omega)).trans hM.1.1
    rw [c45_36, if_pos rfl]
    repeat (first | rw [bnd_s] | rw [tI_m] | rw [tL_m] | rw [tA_m] | rw [tV_m] | rw [gF_g hC.1.1 _ (by decide)] | rw [e4] | rw [if_neg (show ¬ k < b 143 (20 + m).toNat by omega)] | rw [c45_50] | rw [c45_52] | rw [if_neg (show ¬ (2 : Int) = 1 by decide)] | rw [c45_76])
  | n + 1, k, c, h0, h, hP => by
    obtain ⟨-, ⟨k2, k3⟩, -⟩ := id hM
    have e4 : c q 4 = b 143 (20 + m).toNat := (hP.2.1 q 4 (by omega) (by omega) (by omega) (by omega)).trans hM.1.1
    obtain ⟨c1, r1, hP1⟩ := k46 d hs hr hj hj2 hP h0 (by omega) (x := k) (y := k) rfl rfl (by omega) (by omega)
    obtain ⟨c2, r2, hP2⟩ := k45_36 d hs hr hj hj2 hq2 hC hM o2 o3 o7 n (k + 1) c1 (by omega) (by omega) hP1
    refine ⟨c2, ?_, hP2⟩
    rw [c45_36, if_pos rfl]
    repeat (first | rw [bnd_s] | rw [tI_m] | rw [tL_m] | rw [tA_m] | rw [tV_m] | rw [gF_g hC.1.1 _ (by decide)] | rw [e4] | rw [if_pos (show k < b 143 (20 + m).toNat by omega)] | rw [r1] | rw [w32_id (z := k + 1) (by omega) (by omega)])
    exact r2
end
/-- how many pairs come before -/
def ixP (N x y : Int) : Int := sumU (fun i => N - 1 - i) x.toNat 0 + (y - x - 1)
def ixOk : Bool := (List.range 6).all fun n => (List.range (n + 2)).all fun x => (ixP (n + 2 : Nat) (x : Nat) (n + 2 : Nat) == ixP (n + 2 : Nat) (x + 1 : Nat) (x + 2 : Nat)) && (List.range (n + 2)).all fun y => decide (y ≤ x) || (pxT (n + 1) (ixP (n + 2 : Nat) (x : Nat) (y : Nat)) 0 == (x : Nat) && pyT (n + 1) (ixP (n + 2 : Nat) (x : Nat) (y : Nat)) 0 == (y : Nat) && decide (0 ≤ ixP (n + 2 : Nat) (x : Nat) (y : Nat)) && decide (ixP (n + 2 : Nat) (x : Nat) (y : Nat) < 21))
theorem ixOk_ok : ixOk = true := by decide +kernel
theorem ixP_e : ∀ n, n < 6 → ixP (n + 2 : Nat) (n + 2 : Nat) (n + 3 : Nat) = tri (n + 1) := by decide +kernel
theorem ixP_n {N x : Int} (h0 : 2 ≤ N) (h1 : N ≤ 7) (hx : 0 ≤ x) (hx2 : x < N) : ixP N x N = ixP N (x + 1) (x + 2) ∧ ∀ y, x < y → y < N → pxT (N - 1).toNat (ixP N x y) 0 = x ∧ pyT (N - 1).toNat (ixP N x y) 0 = y ∧ 0 ≤ ixP N x y ∧ ixP N x y < 21 := by
  have g := List.all_eq_true.mp (List.all_eq_true.mp ixOk_ok (N - 2).toNat (List.mem_range.mpr (by omega))) x.toNat (List.mem_range.mpr (by omega))
  rw [Bool.and_eq_true, beq_iff_eq] at g
  obtain ⟨g1, g2⟩ := g
  have eN : (((N - 2).toNat + 2 : Nat) : Int) = N := by omega
  have ex : ((x.toNat : Nat) : Int) = x := by omega
  rw [eN, ex, show ((x.toNat + 1 : Nat) : Int) = x + 1 by omega, show ((x.toNat + 2 : Nat) : Int) = x + 2 by omega] at g1
  refine ⟨g1, fun y hy hy2 => ?_⟩
  have g3 := List.all_eq_true.mp g2 y.toNat (List.mem_range.mpr (by omega))
  rw [decide_eq_false (by omega), Bool.false_or, eN, ex, show ((y.toNat : Nat) : Int) = y by omega, show (N - 2).toNat + 1 = (N - 1).toNat by omega] at g3
  simp only [Bool.and_eq_true, beq_iff_eq, decide_eq_true_eq] at g3
  exact ⟨g3.1.1.1, g3.1.1.2, g3.1.2, g3.2⟩
theorem ixP_l {N : Int} (h0 : 2 ≤ N) (h1 : N ≤ 7) : ixP N N (N + 1) = tri (N - 1).toNat := by
  have g := ixP_e (N - 2).toNat (by omega)
  rw [show (((N - 2).toNat + 2 : Nat) : Int) = N by omega, show (((N - 2).toNat + 3 : Nat) : Int) = N + 1 by omega, show (N - 2).toNat + 1 = (N - 1).toNat by omega] at g
  exact g
theorem ixP_s (N x y : Int) : ixP N x (y + 1) = ixP N x y + 1 := by unfold ixP; omega
theorem ixP_0 (N : Int) : ixP N 0 (0 + 1) = 0 := by unfold ixP; simp [sumU]
section
variable {s : List (Nat × Nat)} {b : Nat → Nat → Int}
theorem k45_63 (d : Nat) (hs : SpL s) (hr : b 131 0 = 132 ∧ b 131 1 = 133 ∧ b 131 2 = 134) {j q : Nat} (hj : s[j]? = some (100, 49)) (hj2 : j < 122) {m : Int} (hq2 : q + 4 < 122) (hC : CH s b q) (hM : MapRel (b 143) b q m) (o2 o3 : Option AV) {x : Int} (hx : 0 ≤ x) (hx2 : x < b 143 (20 + m).toNat) : ∀ (n : Nat) (y : Int) (c : Nat → Nat → Int), x < y → y + n = b 143 (20 + m).toNat → PLn b c (ixP (b 143 (20 + m).toNat) x y) j m 1 → ∃ c1, Rr (Cd (d + 1)) 45 63 [some (vA 131), some (vA (q : Int)), o2, o3, some (vI 1), some (vA (j : Int)), some (vI x), some (vI y)] [] (s, c) = Rr (Cd (d + 1)) 45 52 [some (vA 131), some (vA (q : Int)), o2, o3, some (vI 1), some (vA (j : Int)), some (vI (x + 1)), some (vI (b 143 (20 + m).toNat))] [] (s, c1) ∧ PLn b c1 (ixP (b 143 (20 + m).toNat) x (b 143 (20 + m).toNat)) j m 1
  | 0, y, c, h0, h, hP => by
    obtain ⟨-, ⟨k2, k3⟩, -⟩ := id hM
    have ek : y = b 143 (20 + m).toNat := by omega
    refine ⟨c, ?_, ek ▸ hP⟩
    have e4 : c q 4 = b 143 (20 + m).toNat := (hP.2.1 q 4 (by omega) (by omega) (by omega) (by omega)).trans hM.1.1
    rw [c45_63]
    repeat (first | rw [bnd_s] | rw [tI_m] | rw [tL_m] | rw [tA_m] | rw [tV_m] | rw [gF_g hC.1.1 _ (by decide)] | rw [e4] | rw [if_neg (show ¬ y < b 143 (20 + m).toNat by omega)] | rw [w32_id (z := x + 1) (by omega) (by omega)])
    rw [ek]
  | n + 1, y, c, h0, h, hP => by
    obtain ⟨-, ⟨k2, k3⟩, -⟩ := id hM
    have e4 : c q 4 = b 143 (20 + m).toNat := (hP.2.1 q 4 (by omega) (by omega) (by omega) (by omega)).trans hM.1.1
    have ix := (ixP_n k2 k3 hx hx2).2 y h0 (by omega)
    obtain ⟨c1, r1, hP1⟩ := k46 d hs hr hj hj2 hP ix.2.2.1 ix.2.2.2 (x := x) (y := y) ix.1 ix.2.1 (by omega) (by omega)
    rw [← ixP_s] at hP1
    obtain ⟨c2, r2, hP2⟩ := k45_63 d hs hr hj hj2 hq2 hC hM o2 o3 hx hx2 n (y + 1) c1 (by omega) (by omega) hP1
    refine ⟨c2, ?_, hP2⟩
    rw [c45_63]
    repeat (first | rw [bnd_s] | rw [tI_m] | rw [tL_m] | rw [tA_m] | rw [tV_m] | rw [gF_g hC.1.1 _ (by decide)] | rw [e4] | rw [if_pos (show y < b 143 (20 + m).toNat by omega)] | rw [r1] | rw [w32_id (z := y + 1) (by omega) (by omega)])
    exact r2
theorem k45_52 (d : Nat) (hs : SpL s) (hr : b 131 0 = 132 ∧ b 131 1 = 133 ∧ b 131 2 = 134) {j q : Nat} (hj : s[j]? = some (100, 49)) (hj2 : j < 122) {m : Int} (hq2 : q + 4 < 122) (hC : CH s b q) (hM : MapRel (b 143) b q m) (o2 o3 : Option AV) : ∀ (n : Nat) (x : Int) (c : Nat → Nat → Int), 0 ≤ x → x + n = b 143 (20 + m).toNat → PLn b c (ixP (b 143 (20 + m).toNat) x (x + 1)) j m 1 → ∀ o7, ∃ c1, Rr (Cd (d + 1)) 45 52 [some (vA 131), some (vA (q : Int)), o2, o3, some (vI 1), some (vA (j : Int)), some (vI x), o7] [] (s, c) = some ([], (s, c1)) ∧ PLn b c1 (tri (b 143 (20 + m).toNat - 1).toNat) j m 1
  | 0, x, c, h0, h, hP, o7 => by
    obtain ⟨-, ⟨k2, k3⟩, -⟩ := id hM
    have ek : x = b 143 (20 + m).toNat := by omega
    have e4 : c q 4 = b 143 (20 + m).toNat := (hP.2.1 q 4 (by omega) (by omega) (by omega) (by omega)).trans hM.1.1
    rw [ek, ixP_l k2 k3] at hP
    refine ⟨c, ?_, hP⟩
    rw [c45_52, if_pos rfl]
    repeat (first | rw [bnd_s] | rw [tI_m] | rw [tL_m] | rw [tA_m] | rw [tV_m] | rw [gF_g hC.1.1 _ (by decide)] | rw [e4] | rw [if_neg (show ¬ x < b 143 (20 + m).toNat by omega)] | rw [c45_76])
  | n + 1, x, c, h0, h, hP, o7 => by
    obtain ⟨-, ⟨k2, k3⟩, -⟩ := id hM
    have e4 : c q 4 = b 143 (20 + m).toNat := (hP.2.1 q 4 (by omega) (by omega) (by omega) (by omega)).trans hM.1.1
    obtain ⟨c1, r1, hP1⟩ := k45_63 d hs hr hj hj2 hq2 hC hM o2 o3 h0 (by omega) n (x + 1) c (by omega) (by omega) hP
    rw [(ixP_n k2 k3 h0 (by omega)).1, show x + 2 = x + 1 + 1 by omega] at hP1
    obtain ⟨c2, r2, hP2⟩ := k45_52 d hs hr hj hj2 hq2 hC hM o2 o3 n (x + 1) c1 (by omega) (by omega) hP1 (some (vI (b 143 (20 + m).toNat)))
    refine ⟨c2, ?_, hP2⟩
    rw [c45_52, if_pos rfl]
    repeat (first | rw [bnd_s] | rw [tI_m] | rw [tL_m] | rw [tA_m] | rw [tV_m] | rw [gF_g hC.1.1 _ (by decide)] | rw [e4] | rw [if_pos (show x < b 143 (20 + m).toNat by omega)] | rw [w32_id (z := x + 1) (by omega) (by omega)])
    rw [r1]; exact r2
/-- a play's beginning, loops only -/
theorem k45_l (d : Nat) (hs : SpL s) (hr : b 131 0 = 132 ∧ b 131 1 = 133 ∧ b 131 2 = 134) {j q : Nat} (hj : s[j]? = some (100, 49)) (hj2 : j < 122) {m : Int} (hq2 : q + 4 < 122) (hC : CH s b q) (hM : MapRel (b 143) b q m) (o2 o3 : Option AV) {a : Int} (ha : a = 0 ∨ a = 1 ∨ a = 2) {c : Nat → Nat → Int} (hP : PLn b c 0 j m a) : ∃ c1, Rr (Cd (d + 1)) 45 15 [some (vA 131), some (vA (q : Int)), o2, o3, some (vI a), some (vA (j : Int)), some (vI 0), none] [] (s, c) = some ([], (s, c1)) ∧ PLn b c1 (asN a (b 143 (20 + m).toNat) (b 143 (24 + m).toNat)) j m a := by
  obtain ⟨-, ⟨k2, k3⟩, ⟨k4, k5⟩, -⟩ := id hM
  rcases ha with rfl | rfl | rfl
  · exact k45_15 d hs hr hj hj2 hq2 hC hM o2 o3 none (b 143 (24 + m).toNat).toNat 0 c (by omega) (by omega) hP
  · obtain ⟨c1, r1, hP1⟩ := k45_52 d hs hr hj hj2 hq2 hC hM o2 o3 (b 143 (20 + m).toNat).toNat 0 c (by omega) (by omega) (by rw [ixP_0]; exact hP) none
    refine ⟨c1, ?_, hP1⟩
    rw [c45_15, if_neg (by decide), c45_34, c45_36, if_neg (by decide), c45_50]; exact r1
  · obtain ⟨c1, r1, hP1⟩ := k45_36 d hs hr hj hj2 hq2 hC hM o2 o3 none (b 143 (20 + m).toNat).toNat 0 c (by omega) (by omega) hP
    refine ⟨c1, ?_, hP1⟩
    rw [c45_15, if_neg (by decide), c45_34]; exact r1
end
