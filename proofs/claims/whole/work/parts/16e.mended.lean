/-! mended: the class -/
section
variable {s : List (Nat × Nat)} {b c : Nat → Nat → Int}
theorem k46W (d : Nat) (hs : SpL s) (hr : b 131 0 = 132 ∧ b 131 1 = 133 ∧ b 131 2 = 134) {j : Nat} (hj : s[j]? = some (100, 49)) (hj2 : j < 122 ∨ j = 137) {n m a x y : Int} (hP : PLn b c n j m a) (h0 : 0 ≤ n) (h1 : n < 21) (hx : asX b m a n = x) (hy : asY b m a n = y) (bx : 0 ≤ x ∧ x < 7) (by' : 0 ≤ y ∧ y < 7) : ∃ c1, Cd (d + 1) 46 [vA 131, vI x, vI y, vA (j : Int)] (s, c) = some ([], (s, c1)) ∧ PLn b c1 (n + 1) j m a := by
  obtain ⟨p8, pf, pk⟩ := hP
  have r0 : c 131 0 = 132 := (pf 131 0 (by omega) (by omega) (by omega) (by omega)).trans hr.1
  have r1 : c 131 1 = 133 := (pf 131 1 (by omega) (by omega) (by omega) (by omega)).trans hr.2.1
  have r2 : c 131 2 = 134 := (pf 131 2 (by omega) (by omega) (by omega) (by omega)).trans hr.2.2
  have W0 : w32 (x * 7) = x * 7 := w32_id (by omega) (by omega)
  have W1 : w32 (x * 7 + y) = x * 7 + y := w32_id (by omega) (by omega)
  have W2 : w32 (n + 1) = n + 1 := w32_id (by omega) (by omega)
  have ej : c j (x * 7 + y).toNat = b j (7 * x + y).toNat := by rw [Int.mul_comm x 7]; exact pf j _ (by omega) (by omega) (by omega) (by omega)
  refine ⟨u2 (u2 (u2 (u2 c 132 n.toNat x) 133 n.toNat y) 134 n.toNat (b j (7 * x + y).toNat)) 131 8 (n + 1), ?_, u2_e _ _ _ _, fun o i g1 g2 g3 g4 => ?_, fun k k0 k1 => ?_⟩
  · rw [c46 (hg := gC131 hs c)]
    repeat (first | rw [bnd_s] | rw [tI_m] | rw [tL_m] | rw [tA_m] | rw [tV_m] | rw [fC131 hs _ (by decide)] | rw [pC131 hs _ _ (by decide)] | rw [p8] | rw [if_pos h1] | rw [gL_g hj (by decide)] | rw [W0] | rw [W1] | rw [if_pos (show x * 7 + y < ((49 : Nat) : Int) by omega)] | rw [u2_n (by omega)] | rw [r0] | rw [r1] | rw [r2] | rw [qC132 hs _ _ h0 (by omega)] | rw [qC133 hs _ _ h0 (by omega)] | rw [qC134 hs _ _ h0 (by omega)] | rw [gA_g (a := 0) hj _ (show 0 ≤ x * 7 + y by omega) (by omega)] | rw [ej] | rw [W2] | rw [c46_40])
  · rw [u2_n (by omega), u2_n (by omega), u2_n (by omega), u2_n (by omega)]; exact pf o i g1 g2 g3 g4
  · by_cases q : k = n
    · subst q
      refine ⟨?_, ?_, ?_⟩
      · rw [u2_n (by omega), u2_n (by omega), u2_n (by omega), u2_e, hx]
      · rw [u2_n (by omega), u2_n (by omega), u2_e, hy]
      · rw [u2_n (by omega), u2_e, hx, hy]
    · have z := pk k k0 (by omega)
      refine ⟨?_, ?_, ?_⟩
      · rw [u2_n (by omega), u2_n (by omega), u2_n (by omega), u2_n (by omega)]; exact z.1
      · rw [u2_n (by omega), u2_n (by omega), u2_n (by omega), u2_n (by omega)]; exact z.2.1
      · rw [u2_n (by omega), u2_n (by omega), u2_n (by omega), u2_n (by omega)]; exact z.2.2
theorem k45_15W (d : Nat) (hs : SpL s) (hr : b 131 0 = 132 ∧ b 131 1 = 133 ∧ b 131 2 = 134) {j q : Nat} (hj : s[j]? = some (100, 49)) (hj2 : j < 122 ∨ j = 137) {m : Int} (hq2 : q + 4 < 122) (hC : CH s b q) (hM : MapRel (b 143) b q m) (o2 o3 o7 : Option AV) : ∀ (n : Nat) (k : Int) (c : Nat → Nat → Int), 0 ≤ k → k + n = b 143 (24 + m).toNat → PLn b c k j m 0 → ∃ c1, Rr (Cd (d + 1)) 45 15 [some (vA 131), some (vA (q : Int)), o2, o3, some (vI 0), some (vA (j : Int)), some (vI k), o7] [] (s, c) = some ([], (s, c1)) ∧ PLn b c1 (b 143 (24 + m).toNat) j m 0
  | 0, k, c, h0, h, hP => by
    have ek : k = b 143 (24 + m).toNat := by omega
    refine ⟨c, ?_, ek ▸ hP⟩
    have e5 : c q 5 = b 143 (24 + m).toNat := (hP.2.1 q 5 (by omega) (by omega) (by omega) (by omega)).trans hM.1.2
    rw [c45_15, if_pos rfl]
    repeat (first | rw [bnd_s] | rw [tI_m] | rw [tL_m] | rw [tA_m] | rw [tV_m] | rw [gF_g hC.1.1 _ (by decide)] | rw [e5] | rw [if_neg (show ¬ k < b 143 (24 + m).toNat by omega)] | rw [c45_34] | rw [c45_36] | rw [if_neg (show ¬ (0 : Int) = 2 by decide)] | rw [c45_50] | rw [c45_52] | rw [if_neg (show ¬ (0 : Int) = 1 by decide)] | rw [c45_76])
  | n + 1, k, c, h0, h, hP => by
    obtain ⟨-, ⟨k2, k3⟩, ⟨k4, k5⟩, k6, -⟩ := id hM
    have g := k6 k h0 (by omega)
    have fq : ∀ o i, q ≤ o → o < q + 5 → c o i = b o i := fun o i g1 g2 => hP.2.1 o i (by omega) (by omega) (by omega) (by omega)
    have e5 : c q 5 = b 143 (24 + m).toNat := (fq q 5 (by omega) (by omega)).trans hM.1.2
    have e0 : c q 0 = ((q + 1 : Nat) : Int) := (fq q 0 (by omega) (by omega)).trans hC.2.1
    have e1 : c q 1 = ((q + 2 : Nat) : Int) := (fq q 1 (by omega) (by omega)).trans hC.2.2.1
    have x0 : c (q + 1) k.toNat = b 143 (30 + 30 * m + 2 * k).toNat := (fq _ _ (by omega) (by omega)).trans g.1.1
    have x1 : c (q + 2) k.toNat = b 143 (30 + 30 * m + 2 * k + 1).toNat := (fq _ _ (by omega) (by omega)).trans g.1.2
    obtain ⟨c1, r1, hP1⟩ := k46W d hs hr hj hj2 hP h0 (by omega) (x := b 143 (30 + 30 * m + 2 * k).toNat) (y := b 143 (30 + 30 * m + 2 * k + 1).toNat) rfl rfl (by omega) (by omega)
    obtain ⟨c2, r2, hP2⟩ := k45_15W d hs hr hj hj2 hq2 hC hM o2 o3 o7 n (k + 1) c1 (by omega) (by omega) hP1
    refine ⟨c2, ?_, hP2⟩
    rw [c45_15, if_pos rfl]
    repeat (first | rw [bnd_s] | rw [tI_m] | rw [tL_m] | rw [tA_m] | rw [tV_m] | rw [gF_g hC.1.1 _ (by decide)] | rw [e5] | rw [if_pos (show k < b 143 (24 + m).toNat by omega)] | rw [e0] | rw [e1] | rw [gA_g (a := 0) hC.1.2.1 _ h0 (show k < ((15 : Nat) : Int) by omega)] | rw [gA_g (a := 0) hC.1.2.2.1 _ h0 (show k < ((15 : Nat) : Int) by omega)] | rw [x0] | rw [x1] | rw [r1] | rw [w32_id (z := k + 1) (by omega) (by omega)])
    exact r2
theorem k45_36W (d : Nat) (hs : SpL s) (hr : b 131 0 = 132 ∧ b 131 1 = 133 ∧ b 131 2 = 134) {j q : Nat} (hj : s[j]? = some (100, 49)) (hj2 : j < 122 ∨ j = 137) {m : Int} (hq2 : q + 4 < 122) (hC : CH s b q) (hM : MapRel (b 143) b q m) (o2 o3 o7 : Option AV) : ∀ (n : Nat) (k : Int) (c : Nat → Nat → Int), 0 ≤ k → k + n = b 143 (20 + m).toNat → PLn b c k j m 2 → ∃ c1, Rr (Cd (d + 1)) 45 36 [some (vA 131), some (vA (q : Int)), o2, o3, some (vI 2), some (vA (j : Int)), some (vI k), o7] [] (s, c) = some ([], (s, c1)) ∧ PLn b c1 (b 143 (20 + m).toNat) j m 2
  | 0, k, c, h0, h, hP => by
    have ek : k = b 143 (20 + m).toNat := by omega
    refine ⟨c, ?_, ek ▸ hP⟩
    have e4 : c q 4 = b 143 (20 + m).toNat := (hP.2.1 q 4 (by omega) (by omega) (by omega) (by omega)).trans hM.1.1
    rw [c45_36, if_pos rfl]
    repeat (first | rw [bnd_s] | rw [tI_m] | rw [tL_m] | rw [tA_m] | rw [tV_m] | rw [gF_g hC.1.1 _ (by decide)] | rw [e4] | rw [if_neg (show ¬ k < b 143 (20 + m).toNat by omega)] | rw [c45_50] | rw [c45_52] | rw [if_neg (show ¬ (2 : Int) = 1 by decide)] | rw [c45_76])
  | n + 1, k, c, h0, h, hP => by
    obtain ⟨-, ⟨k2, k3⟩, -⟩ := id hM
    have e4 : c q 4 = b 143 (20 + m).toNat := (hP.2.1 q 4 (by omega) (by omega) (by omega) (by omega)).trans hM.1.1
    obtain ⟨c1, r1, hP1⟩ := k46W d hs hr hj hj2 hP h0 (by omega) (x := k) (y := k) rfl rfl (by omega) (by omega)
    obtain ⟨c2, r2, hP2⟩ := k45_36W d hs hr hj hj2 hq2 hC hM o2 o3 o7 n (k + 1) c1 (by omega) (by omega) hP1
    refine ⟨c2, ?_, hP2⟩
    rw [c45_36, if_pos rfl]
    repeat (first | rw [bnd_s] | rw [tI_m] | rw [tL_m] | rw [tA_m] | rw [tV_m] | rw [gF_g hC.1.1 _ (by decide)] | rw [e4] | rw [if_pos (show k < b 143 (20 + m).toNat by omega)] | rw [r1] | rw [w32_id (z := k + 1) (by omega) (by omega)])
    exact r2
theorem k45_63W (d : Nat) (hs : SpL s) (hr : b 131 0 = 132 ∧ b 131 1 = 133 ∧ b 131 2 = 134) {j q : Nat} (hj : s[j]? = some (100, 49)) (hj2 : j < 122 ∨ j = 137) {m : Int} (hq2 : q + 4 < 122) (hC : CH s b q) (hM : MapRel (b 143) b q m) (o2 o3 : Option AV) {x : Int} (hx : 0 ≤ x) (hx2 : x < b 143 (20 + m).toNat) : ∀ (n : Nat) (y : Int) (c : Nat → Nat → Int), x < y → y + n = b 143 (20 + m).toNat → PLn b c (ixP (b 143 (20 + m).toNat) x y) j m 1 → ∃ c1, Rr (Cd (d + 1)) 45 63 [some (vA 131), some (vA (q : Int)), o2, o3, some (vI 1), some (vA (j : Int)), some (vI x), some (vI y)] [] (s, c) = Rr (Cd (d + 1)) 45 52 [some (vA 131), some (vA (q : Int)), o2, o3, some (vI 1), some (vA (j : Int)), some (vI (x + 1)), some (vI (b 143 (20 + m).toNat))] [] (s, c1) ∧ PLn b c1 (ixP (b 143 (20 + m).toNat) x (b 143 (20 + m).toNat)) j m 1
  | 0, y, c, h0, h, hP => by
    obtain ⟨-, ⟨k2, k3⟩, -⟩ := id hM
    have ek : y = b 143 (20 + m).toNat := by omega
    refine ⟨c, ?_, ek ▸ hP⟩
    have e4 : c q 4 = b 143 (20 + m).toNat := (hP.2.1 q 4 (by omega) (by omega) (by omega) (by omega)).trans hM.1.1
    rw [c45_63]
    repeat (first | rw [bnd_s] | rw [tI_m] | rw [tL_m] | rw [tA_m] | rw [tV_m] | rw [gF_g hC.1.1 _ (by decide)] | rw [e4] | rw [if_neg (show ¬ y < b 143 (20 + m).toNat by omega)] | rw [w32_id (z := x + 1) (by omega) (by omega)])
    rw [ek]
  | n + 1, y, c, h0, h, hP => by
    obtain ⟨-, ⟨k2, k3⟩, -⟩ := id hM
    have e4 : c q 4 = b 143 (20 + m).toNat := (hP.2.1 q 4 (by omega) (by omega) (by omega) (by omega)).trans hM.1.1
    have ix := (ixP_n k2 k3 hx hx2).2 y h0 (by omega)
    obtain ⟨c1, r1, hP1⟩ := k46W d hs hr hj hj2 hP ix.2.2.1 ix.2.2.2 (x := x) (y := y) ix.1 ix.2.1 (by omega) (by omega)
    rw [← ixP_s] at hP1
    obtain ⟨c2, r2, hP2⟩ := k45_63W d hs hr hj hj2 hq2 hC hM o2 o3 hx hx2 n (y + 1) c1 (by omega) (by omega) hP1
    refine ⟨c2, ?_, hP2⟩
    rw [c45_63]
    repeat (first | rw [bnd_s] | rw [tI_m] | rw [tL_m] | rw [tA_m] | rw [tV_m] | rw [gF_g hC.1.1 _ (by decide)] | rw [e4] | rw [if_pos (show y < b 143 (20 + m).toNat by omega)] | rw [r1] | rw [w32_id (z := y + 1) (by omega) (by omega)])
    exact r2
theorem k45_52W (d : Nat) (hs : SpL s) (hr : b 131 0 = 132 ∧ b 131 1 = 133 ∧ b 131 2 = 134) {j q : Nat} (hj : s[j]? = some (100, 49)) (hj2 : j < 122 ∨ j = 137) {m : Int} (hq2 : q + 4 < 122) (hC : CH s b q) (hM : MapRel (b 143) b q m) (o2 o3 : Option AV) : ∀ (n : Nat) (x : Int) (c : Nat → Nat → Int), 0 ≤ x → x + n = b 143 (20 + m).toNat → PLn b c (ixP (b 143 (20 + m).toNat) x (x + 1)) j m 1 → ∀ o7, ∃ c1, Rr (Cd (d + 1)) 45 52 [some (vA 131), some (vA (q : Int)), o2, o3, some (vI 1), some (vA (j : Int)), some (vI x), o7] [] (s, c) = some ([], (s, c1)) ∧ PLn b c1 (tri (b 143 (20 + m).toNat - 1).toNat) j m 1
  | 0, x, c, h0, h, hP, o7 => by
    obtain ⟨-, ⟨k2, k3⟩, -⟩ := id hM
    have ek : x = b 143 (20 + m).toNat := by omega
    have e4 : c q 4 = b 143 (20 + m).toNat := (hP.2.1 q 4 (by omega) (by omega) (by omega) (by omega)).trans hM.1.1
    rw [ek, ixP_l k2 k3] at hP
    refine ⟨c, ?_, hP⟩
    rw [c45_52, if_pos rfl]
    repeat (first | rw [bnd_s] | rw [tI_m] | rw [tL_m] | rw [tA_m] | rw [tV_m] | rw [gF_g hC.1.1 _ (by decide)] | rw [e4] | rw [if_neg (show ¬ x < b 143 (20 + m).toNat by omega)] | rw [c45_76])
  | n + 1, x, c, h0, h, hP, o7 => by
    obtain ⟨-, ⟨k2, k3⟩, -⟩ := id hM
    have e4 : c q 4 = b 143 (20 + m).toNat := (hP.2.1 q 4 (by omega) (by omega) (by omega) (by omega)).trans hM.1.1
    obtain ⟨c1, r1, hP1⟩ := k45_63W d hs hr hj hj2 hq2 hC hM o2 o3 h0 (by omega) n (x + 1) c (by omega) (by omega) hP
    rw [(ixP_n k2 k3 h0 (by omega)).1, show x + 2 = x + 1 + 1 by omega] at hP1
    obtain ⟨c2, r2, hP2⟩ := k45_52W d hs hr hj hj2 hq2 hC hM o2 o3 n (x + 1) c1 (by omega) (by omega) hP1 (some (vI (b 143 (20 + m).toNat)))
    refine ⟨c2, ?_, hP2⟩
    rw [c45_52, if_pos rfl]
    repeat (first | rw [bnd_s] | rw [tI_m] | rw [tL_m] | rw [tA_m] | rw [tV_m] | rw [gF_g hC.1.1 _ (by decide)] | rw [e4] | rw [if_pos (show x < b 143 (20 + m).toNat by omega)] | rw [w32_id (z := x + 1) (by omega) (by omega)])
    rw [r1]; exact r2
theorem k45_lW (d : Nat) (hs : SpL s) (hr : b 131 0 = 132 ∧ b 131 1 = 133 ∧ b 131 2 = 134) {j q : Nat} (hj : s[j]? = some (100, 49)) (hj2 : j < 122 ∨ j = 137) {m : Int} (hq2 : q + 4 < 122) (hC : CH s b q) (hM : MapRel (b 143) b q m) (o2 o3 : Option AV) {a : Int} (ha : a = 0 ∨ a = 1 ∨ a = 2) {c : Nat → Nat → Int} (hP : PLn b c 0 j m a) : ∃ c1, Rr (Cd (d + 1)) 45 15 [some (vA 131), some (vA (q : Int)), o2, o3, some (vI a), some (vA (j : Int)), some (vI 0), none] [] (s, c) = some ([], (s, c1)) ∧ PLn b c1 (asN a (b 143 (20 + m).toNat) (b 143 (24 + m).toNat)) j m a := by
  obtain ⟨-, ⟨k2, k3⟩, ⟨k4, k5⟩, -⟩ := id hM
  rcases ha with rfl | rfl | rfl
  · exact k45_15W d hs hr hj hj2 hq2 hC hM o2 o3 none (b 143 (24 + m).toNat).toNat 0 c (by omega) (by omega) hP
  · obtain ⟨c1, r1, hP1⟩ := k45_52W d hs hr hj hj2 hq2 hC hM o2 o3 (b 143 (20 + m).toNat).toNat 0 c (by omega) (by omega) (by rw [ixP_0]; exact hP) none
    refine ⟨c1, ?_, hP1⟩
    rw [c45_15, if_neg (by decide), c45_34, c45_36, if_neg (by decide), c45_50]; exact r1
  · obtain ⟨c1, r1, hP1⟩ := k45_36W d hs hr hj hj2 hq2 hC hM o2 o3 none (b 143 (20 + m).toNat).toNat 0 c (by omega) (by omega) hP
    refine ⟨c1, ?_, hP1⟩
    rw [c45_15, if_neg (by decide), c45_34]; exact r1
end
theorem k45W (d : Nat) {s : List (Nat × Nat)} {c : Nat → Nat → Int} (hs : SpL s) (hr : c 131 0 = 132 ∧ c 131 1 = 133 ∧ c 131 2 = 134) {j q : Nat} (hj : s[j]? = some (100, 49)) (hj2 : j < 122 ∨ j = 137) {m : Int} (hq2 : q + 4 < 122) (hC : CH s c q) (hM : MapRel (c 143) c q m) {a : Int} (ha : a = 0 ∨ a = 1 ∨ a = 2) (w : Int) {o : Int} (ho : o = 0 ∨ o = 1) : ∃ c1, Cd (d + 2) 45 [vA 131, vA (q : Int), vI w, vI o, vI a, vA (j : Int)] (s, c) = some ([], (s, c1)) ∧ (∀ x i, ¬ (x = 131 ∧ 5 ≤ i) → x ≠ 132 → x ≠ 133 → x ≠ 134 → c1 x i = c x i) ∧ c1 131 5 = q ∧ c1 131 6 = drw w ∧ c1 131 7 = o ∧ c1 131 8 = asN a (c 143 (20 + m).toNat) (c 143 (24 + m).toNat) ∧ ∀ k, 0 ≤ k → k < asN a (c 143 (20 + m).toNat) (c 143 (24 + m).toNat) → c1 132 k.toNat = asX c m a k ∧ c1 133 k.toNat = asY c m a k ∧ c1 134 k.toNat = c j (7 * asX c m a k + asY c m a k).toNat := by
  have z : ∃ b, b = u2 (u2 (u2 (u2 c 131 5 (q : Int)) 131 6 (drw w)) 131 7 o) 131 8 0 := ⟨_, rfl⟩
  obtain ⟨b, zb⟩ := z
  have fb : ∀ x i, ¬ (x = 131 ∧ 5 ≤ i) → b x i = c x i := fun x i h => by rw [zb, u2_n (by omega), u2_n (by omega), u2_n (by omega), u2_n (by omega)]
  have b5 : b 131 5 = q := by rw [zb, u2_n (by omega), u2_n (by omega), u2_n (by omega), u2_e]
  have b6 : b 131 6 = drw w := by rw [zb, u2_n (by omega), u2_n (by omega), u2_e]
  have b7 : b 131 7 = o := by rw [zb, u2_n (by omega), u2_e]
  have b8 : b 131 8 = 0 := by rw [zb, u2_e]
  have e3 : b 143 = c 143 := funext fun i => fb _ _ (by omega)
  have hM' : MapRel (b 143) b q m := by
    rw [e3]; exact MapRel_of hM ⟨fb _ _ (by omega), fb _ _ (by omega)⟩ (funext fun i => fb _ _ (by omega)) (funext fun i => fb _ _ (by omega)) (funext fun i => fb _ _ (by omega))
  obtain ⟨c1, r, p8, pf, pk⟩ := k45_lW d hs ⟨(fb _ _ (by omega)).trans hr.1, (fb _ _ (by omega)).trans hr.2.1, (fb _ _ (by omega)).trans hr.2.2⟩ hj hj2 hq2 (CH_of hC (fun i _ => fb _ _ (by omega))) hM' (some (vI w)) (some (vI o)) ha (c := b) ⟨b8, fun _ _ _ _ _ _ => rfl, fun k h1 h2 => by omega⟩
  rw [e3] at p8 pk
  refine ⟨c1, ?_, fun x i h1 h2 h3 h4 => (pf x i (by omega) h2 h3 h4).trans (fb x i h1), (pf _ _ (by omega) (by omega) (by omega) (by omega)).trans b5, (pf _ _ (by omega) (by omega) (by omega) (by omega)).trans b6, (pf _ _ (by omega) (by omega) (by omega) (by omega)).trans b7, p8, fun k h1 h2 => ?_⟩
  · rw [c45 (hg := gC131 hs c)]
    repeat (first | rw [bnd_s] | rw [tI_m] | rw [tL_m] | rw [tA_m] | rw [tV_m] | rw [fC131 hs _ (by decide)] | rw [pC131 hs _ _ (by decide)] | rw [k162] | rw [if_pos ho])
    rw [← zb]; exact r
  · have g := pk k h1 h2
    rw [asX_of e3, asY_of e3] at g
    exact ⟨g.1, g.2.1, g.2.2.trans (fb _ _ (by omega))⟩
theorem lC4 {s : List (Nat × Nat)} (h : SpL s) (c : Nat → Nat → Int) : gL (s, c) 4 = some 4 := gL_g (t := 110) (o := 4) (n := 4) (sp_x h (k := 2) (by decide) (by decide +kernel)) (by decide) c
/-- what a play may change -/
def PM (b c : Nat → Nat → Int) : Prop := ∀ x i, ¬ (x = 131 ∧ 5 ≤ i) → x ≠ 132 → x ≠ 133 → x ≠ 134 → x ≠ 135 → x ≠ 136 → c x i = b x i
theorem PM.rf (b : Nat → Nat → Int) : PM b b := fun _ _ _ _ _ _ _ _ => rfl
theorem PM.tr {a b c : Nat → Nat → Int} (h : PM a b) (g : PM b c) : PM a c := fun x i h1 h2 h3 h4 h5 h6 => (g x i h1 h2 h3 h4 h5 h6).trans (h x i h1 h2 h3 h4 h5 h6)
theorem PlF.pm {b c : Nat → Nat → Int} (h : PlF b c) : PM b c := fun x i h1 _ _ _ h5 h6 => h x i (fun w => h1 ⟨w.1, by omega⟩) h5 h6
theorem PM.inv {s : List (Nat × Nat)} {b c : Nat → Nat → Int} {n : Nat} (h : PM b c) (hI : Inv s b n) : Inv s c n :=
  Inv_C hI (fun o i hi => h o i (fun w => by rw [w.1] at hi; simp [cScr] at hi; omega) (fun w => by rw [w] at hi; simp [cScr] at hi) (fun w => by rw [w] at hi; simp [cScr] at hi) (fun w => by rw [w] at hi; simp [cScr] at hi) (fun w => by rw [w] at hi; simp [cScr] at hi) (fun w => by rw [w] at hi; simp [cScr] at hi)) hI.1 (RefI_of hI.2.2.2.2.2.2.2.1 (fun m' _ => ⟨h _ _ (by omega) (by omega) (by omega) (by omega) (by omega) (by omega), h _ _ (by omega) (by omega) (by omega) (by omega) (by omega) (by omega)⟩)) (AnsI_of hI.2.2.2.2.2.2.2.2.1 (funext fun i => h _ _ (by omega) (by omega) (by omega) (by omega) (by omega) (by omega)) (fun o i _ _ => h _ _ (by omega) (by omega) (by omega) (by omega) (by omega) (by omega)) (fun o _ => funext fun i => h _ _ (by omega) (by omega) (by omega) (by omega) (by omega) (by omega)))
theorem PM.ans {s : List (Nat × Nat)} {b c : Nat → Nat → Int} {q : Nat} {N : Int} {l : List Int} (h : PM b c) (hq : q < 122) (hA : AnsC s b q N l) : AnsC s c q N l := AnsC_of hA ⟨[], by simp⟩ (fun k => h _ _ (by omega) (by omega) (by omega) (by omega) (by omega) (by omega)) (fun r hr _ => ⟨funext fun k => h _ _ (by omega) (by omega) (by omega) (by omega) (by omega) (by omega), funext fun k => h _ _ (by omega) (by omega) (by omega) (by omega) (by omega) (by omega)⟩)
theorem PM.e {b c : Nat → Nat → Int} (h : PM b c) {x : Nat} (hx : 136 < x) : c x = b x := funext fun i => h _ _ (by omega) (by omega) (by omega) (by omega) (by omega) (by omega)
theorem un238 : ((List.range 3).all fun p => (List.range 3).all fun q => bt 238 (3 * ((p : Nat) : Int) + ((q : Nat) : Int)) == decide (((p : Nat) : Int) ≠ ((q : Nat) : Int))) = true := by decide +kernel
theorem un_238 {p q : Int} (p0 : 0 ≤ p) (p1 : p < 3) (q0 : 0 ≤ q) (q1 : q < 3) : bt 238 (3 * p + q) = decide (p ≠ q) := by
  have := List.all_eq_true.mp un238 p.toNat (List.mem_range.mpr (by omega))
  have := List.all_eq_true.mp this q.toNat (List.mem_range.mpr (by omega))
  rw [Int.toNat_of_nonneg p0, Int.toNat_of_nonneg q0] at this
  exact beq_iff_eq.mp this
section
variable {s : List (Nat × Nat)} {c : Nat → Nat → Int}
theorem k45P (d : Nat) {n : Nat} (hI : Inv s c n) {k : Nat} (hk : (k : Int) < c 143 1) {m : Int} (m0 : 0 ≤ m) (m1 : m < c 143 0) {w o a : Int} (ho : o = 0 ∨ o = 1) (ha : a = 0 ∨ a = 1 ∨ a = 2) (u : Bool) : ∃ c', Cd (d + 2) 45 [vA 131, vA ((40 + 5 * m.toNat : Nat) : Int), vI w, vI o, vI a, vA ((if u then 137 else 60 + 2 * k + 1 : Nat) : Int)] (s, c) = some ([], (s, c')) ∧ PM c c' ∧ PlayRV (txV (c 145) k w o a u) c' k m := by
  have hs := hI.1.l
  have hc := hI.2.2.2.1
  have n4 := hI.nM.2
  have a8 := hI.2.2.2.2.1.2.2.2.1.2.2
  have hM := hI.mok m m0 m1
  have hmap := hI.map (m := m.toNat) (by omega)
  rw [Int.toNat_of_nonneg m0] at hmap
  have hch := chN hs hc (m := m.toNat) (by omega)
  have hsh : SH s c (60 + 2 * k) := ((SB_30 hs hc).2.2.2.2 k (by omega)).2
  have hsr : ShRel (c 145) c (60 + 2 * k) k := hI.2.2.2.2.1.2.2.2.2.1 k hk
  have hj : s[(if u then 137 else 60 + 2 * k + 1 : Nat)]? = some (100, 49) := by
    cases u
    · exact hsh.1.2
    · exact sC137 hs
  obtain ⟨c2, r, f, p5, p6, p7, p8, pk⟩ := k45W d hs ⟨CS_131_0 hc, CS_131_1 hc, CS_131_2 hc⟩ hj (by cases u <;> simp <;> omega) (by omega) hch hmap ha w ho
  have E3 : c2 143 = c 143 := funext fun i => f _ _ (by omega) (by omega) (by omega) (by omega)
  refine ⟨c2, r, fun x i h1 h2 h3 h4 _ _ => f x i h1 h2 h3 h4, ?_⟩
  unfold PlayRV
  rw [txV_1, txV_2, txV_3, E3]
  refine ⟨p5, p6, p7, p8, fun i i0 i1 => ?_⟩
  have g := pk i i0 i1
  have xb := asX_b hM (a := a) (by omega) i0 i1
  have xN := hM.2.1
  rw [asX_of E3, asY_of E3, g.2.2]
  refine ⟨g.1, g.2.1, ?_⟩
  cases u
  · have v := hsr.2.2.2.2.2 _ _ xb.1.1 (by omega) xb.2.1 (by omega)
    exact ⟨v.1, fun p q p0 p1 q0 q1 => by rw [jud_f]; exact v.2 p q p0 p1 q0 q1⟩
  · have v : c 137 (7 * asX c m a i + asY c m a i).toNat = 238 := hc.2 _ (by omega)
    simp only [if_true]
    rw [v]
    exact ⟨by decide, fun p q p0 p1 q0 q1 => by rw [jud_t]; exact un_238 p0 p1 q0 q1⟩
/-- the parts of a mending -/
def swM (i : Int) : Int := if i / 12 = 3 then 6 else i / 12 + 1
theorem sw_ok : ((List.range 48).all fun i => chL.getD (((i : Nat) : Int) / 12 % 4).toNat 0 == swM ((i : Nat) : Int) && (swM ((i : Nat) : Int) == 1 || swM ((i : Nat) : Int) == 2 || swM ((i : Nat) : Int) == 3 || swM ((i : Nat) : Int) == 6)) = true := by decide +kernel
theorem sw_e {i : Int} (i0 : 0 ≤ i) (i1 : i < 48) : chL.getD (i / 12 % 4).toNat 0 = swM i ∧ (swM i = 1 ∨ swM i = 2 ∨ swM i = 3 ∨ swM i = 6) := by
  have := List.all_eq_true.mp sw_ok i.toNat (List.mem_range.mpr (by omega))
  rw [Int.toNat_of_nonneg i0] at this
  simp only [Bool.and_eq_true, Bool.or_eq_true, beq_iff_eq] at this
  exact ⟨this.1, by rcases this.2 with ((h | h) | h) | h <;> simp [h]⟩
def ptM (v i : Int) : Int := if v = 1 then swM i else if v = 2 then i / 6 % 2 else if v = 3 then i / 2 % 3 else i % 2
def otM (tx : Nat → Int) (k : Nat) (i : Int) : Int := b2i (decide (swM i ≠ tx (800 * k + 1))) + b2i (decide (i / 6 % 2 ≠ tx (800 * k + 2))) + b2i (decide (i / 2 % 3 ≠ tx (800 * k + 3))) + i % 2
theorem k157 (d : Nat) (hs : SpL s) (hx : Xt c) (q : Int) {i v : Int} (i0 : 0 ≤ i) (i1 : i < 48) (v0 : 1 ≤ v) (v1 : v ≤ 4) : Cd (d + 1) 157 [vA q, vI i, vI v] (s, c) = some ([vI (ptM v i)], (s, c)) := by
  have sw := sw_e i0 i1
  have gl : gL (s, c) 4 = some 4 := lC4 hs c
  rw [c157]
  repeat (first | rw [bnd_s] | rw [tI_m] | rw [tL_m] | rw [tA_m] | rw [tV_m] | rw [gl] | rw [if_neg (show ¬ (4 : Int) = 0 by decide)] | rw [idiv_n i0 (by omega) (show (0 : Int) < 12 by decide) (by decide)] | rw [irem_n (show 0 ≤ i / 12 by omega) (by omega) (show (0 : Int) < 4 by decide) (by decide)] | rw [aC4 hs _ (show 0 ≤ i / 12 % 4 by omega) (by omega)] | rw [x4 hx] | rw [sw.1] | rw [if_neg (show ¬ v = 0 by omega)] | rw [idiv_n i0 (by omega) (show (0 : Int) < 6 by decide) (by decide)] | rw [irem_n (show 0 ≤ i / 6 by omega) (by omega) (show (0 : Int) < 2 by decide) (by decide)] | rw [idiv_n i0 (by omega) (show (0 : Int) < 2 by decide) (by decide)] | rw [irem_n (show 0 ≤ i / 2 by omega) (by omega) (show (0 : Int) < 3 by decide) (by decide)] | rw [irem_n i0 (by omega) (show (0 : Int) < 2 by decide) (by decide)])
  unfold ptM
  by_cases g1 : v = 1
  · rw [if_pos g1, if_pos g1]
  · rw [if_neg g1, if_neg g1]
    by_cases g2 : v = 2
    · rw [if_pos g2, if_pos g2]
    · rw [if_neg g2, if_neg g2]
      by_cases g3 : v = 3
      · rw [if_pos g3, if_pos g3]
      · rw [if_neg g3, if_neg g3]
theorem k157_0 (d : Nat) {n : Nat} (hI : Inv s c n) {k : Nat} (hk : (k : Int) < c 143 1) {i : Int} (i0 : 0 ≤ i) (i1 : i < 48) : Cd (d + 2) 157 [vA ((60 + 2 * k : Nat) : Int), vI i, vI 0] (s, c) = some ([vI (otM (c 145) k i)], (s, c)) := by
  have hs := hI.1.l
  have hc := hI.2.2.2.1
  have a8 := hI.2.2.2.2.1.2.2.2.1.2.2
  have sw := sw_e i0 i1
  have gl : gL (s, c) 4 = some 4 := lC4 hs c
  have hsh : SH s c (60 + 2 * k) := ((SB_30 hs hc).2.2.2.2 k (by omega)).2
  have hsr : ShRel (c 145) c (60 + 2 * k) k := hI.2.2.2.2.1.2.2.2.2.1 k hk
  obtain ⟨⟨t1, t2, t3⟩, t4, t5, t6, -⟩ := hsr
  have k9 : ∀ (b : Bool), Cd (d + 1) 159 [vI (b2i b)] (s, c) = some ([vI (b2i b)], (s, c)) := fun b => k159 d b (s, c)
  have k0 := k9 false
  have k1 := k9 true
  rw [b2i_f] at k0
  rw [b2i_t] at k1
  have ko : Cd (d + 1) 159 [vI (c 145 (800 * k + 2))] (s, c) = some ([vI (c 145 (800 * k + 2))], (s, c)) := by
    rcases t5 with e | e <;> rw [e]
    · exact k0
    · exact k1
  rw [c157]
  repeat (first | rw [bnd_s] | rw [tI_m] | rw [tL_m] | rw [tA_m] | rw [tV_m] | rw [gl] | rw [if_neg (show ¬ (4 : Int) = 0 by decide)] | rw [idiv_n i0 (by omega) (show (0 : Int) < 12 by decide) (by decide)] | rw [irem_n (show 0 ≤ i / 12 by omega) (by omega) (show (0 : Int) < 4 by decide) (by decide)] | rw [aC4 hs _ (show 0 ≤ i / 12 % 4 by omega) (by omega)] | rw [x4 hI.2.1] | rw [sw.1] | rw [if_pos (show (0 : Int) = 0 from rfl)] | rw [gF_g hsh.1.1 _ (by decide)] | rw [t1] | rw [idiv_n i0 (by omega) (show (0 : Int) < 6 by decide) (by decide)] | rw [irem_n (show 0 ≤ i / 6 by omega) (by omega) (show (0 : Int) < 2 by decide) (by decide)] | rw [idiv_n i0 (by omega) (show (0 : Int) < 2 by decide) (by decide)] | rw [irem_n (show 0 ≤ i / 2 by omega) (by omega) (show (0 : Int) < 3 by decide) (by decide)] | rw [irem_n i0 (by omega) (show (0 : Int) < 2 by decide) (by decide)])
  unfold otM
  have s1 : (if swM i = c 145 (800 * k + 1) then Rr (Cd (d + 1)) 157 34 [some (vA ((60 + 2 * k : Nat) : Int)), some (vI i), some (vI 0), some (vI (swM i)), some (vI (i / 6 % 2)), some (vI (i / 2 % 3)), some (vI (i % 2))] [vI 0] (s, c) else Rr (Cd (d + 1)) 157 34 [some (vA ((60 + 2 * k : Nat) : Int)), some (vI i), some (vI 0), some (vI (swM i)), some (vI (i / 6 % 2)), some (vI (i / 2 % 3)), some (vI (i % 2))] [vI 1] (s, c)) = Rr (Cd (d + 1)) 157 34 [some (vA ((60 + 2 * k : Nat) : Int)), some (vI i), some (vI 0), some (vI (swM i)), some (vI (i / 6 % 2)), some (vI (i / 2 % 3)), some (vI (i % 2))] [vI (b2i (decide (swM i ≠ c 145 (800 * k + 1))))] (s, c) := by
    by_cases g : swM i = c 145 (800 * k + 1)
    · rw [if_pos g, decide_eq_false (fun z => z g)]; rfl
    · rw [if_neg g, decide_eq_true g]; rfl
  rw [s1, c157_34]
  repeat (first | rw [bnd_s] | rw [tI_m] | rw [tL_m] | rw [tA_m] | rw [tV_m] | rw [k9] | rw [gF_g hsh.1.1 _ (by decide)] | rw [t3] | rw [ko])
  have b1 := b2i_b (decide (swM i ≠ c 145 (800 * k + 1)))
  generalize b2i (decide (swM i ≠ c 145 (800 * k + 1))) = B1 at *
  have s2 : (if i / 6 % 2 = c 145 (800 * k + 2) then Rr (Cd (d + 1)) 157 43 [some (vA ((60 + 2 * k : Nat) : Int)), some (vI i), some (vI 0), some (vI (swM i)), some (vI (i / 6 % 2)), some (vI (i / 2 % 3)), some (vI (i % 2))] [vI 0, vI B1] (s, c) else Rr (Cd (d + 1)) 157 43 [some (vA ((60 + 2 * k : Nat) : Int)), some (vI i), some (vI 0), some (vI (swM i)), some (vI (i / 6 % 2)), some (vI (i / 2 % 3)), some (vI (i % 2))] [vI 1, vI B1] (s, c)) = Rr (Cd (d + 1)) 157 43 [some (vA ((60 + 2 * k : Nat) : Int)), some (vI i), some (vI 0), some (vI (swM i)), some (vI (i / 6 % 2)), some (vI (i / 2 % 3)), some (vI (i % 2))] [vI (b2i (decide (i / 6 % 2 ≠ c 145 (800 * k + 2)))), vI B1] (s, c) := by
    by_cases g : i / 6 % 2 = c 145 (800 * k + 2)
    · rw [if_pos g, decide_eq_false (fun z => z g)]; rfl
    · rw [if_neg g, decide_eq_true g]; rfl
  rw [s2, c157_43]
  repeat (first | rw [bnd_s] | rw [tI_m] | rw [tL_m] | rw [tA_m] | rw [tV_m] | rw [k9] | rw [gF_g hsh.1.1 _ (by decide)] | rw [t2])
  have b2 := b2i_b (decide (i / 6 % 2 ≠ c 145 (800 * k + 2)))
  generalize b2i (decide (i / 6 % 2 ≠ c 145 (800 * k + 2))) = B2 at *
  rw [w32_id (z := B1 + B2) (by omega) (by omega)]
  have s3 : (if i / 2 % 3 = c 145 (800 * k + 3) then Rr (Cd (d + 1)) 157 52 [some (vA ((60 + 2 * k : Nat) : Int)), some (vI i), some (vI 0), some (vI (swM i)), some (vI (i / 6 % 2)), some (vI (i / 2 % 3)), some (vI (i % 2))] [vI 0, vI (B1 + B2)] (s, c) else Rr (Cd (d + 1)) 157 52 [some (vA ((60 + 2 * k : Nat) : Int)), some (vI i), some (vI 0), some (vI (swM i)), some (vI (i / 6 % 2)), some (vI (i / 2 % 3)), some (vI (i % 2))] [vI 1, vI (B1 + B2)] (s, c)) = Rr (Cd (d + 1)) 157 52 [some (vA ((60 + 2 * k : Nat) : Int)), some (vI i), some (vI 0), some (vI (swM i)), some (vI (i / 6 % 2)), some (vI (i / 2 % 3)), some (vI (i % 2))] [vI (b2i (decide (i / 2 % 3 ≠ c 145 (800 * k + 3)))), vI (B1 + B2)] (s, c) := by
    by_cases g : i / 2 % 3 = c 145 (800 * k + 3)
    · rw [if_pos g, decide_eq_false (fun z => z g)]; rfl
    · rw [if_neg g, decide_eq_true g]; rfl
  rw [s3, c157_52]
  repeat (first | rw [bnd_s] | rw [tI_m] | rw [tL_m] | rw [tA_m] | rw [tV_m] | rw [k9])
  have b3 := b2i_b (decide (i / 2 % 3 ≠ c 145 (800 * k + 3)))
  generalize b2i (decide (i / 2 % 3 ≠ c 145 (800 * k + 3))) = B3 at *
  rw [w32_id (z := B1 + B2 + B3) (by omega) (by omega), w32_id (by omega) (by omega)]
end
theorem itU_nn {F : Int → (Int × Int × Int × Int) → (Int × Int × Int × Int)} (h : ∀ i q, 0 ≤ q.1 → 0 ≤ (F i q).1) : ∀ (n : Nat) (j : Int) (q : Int × Int × Int × Int), 0 ≤ q.1 → 0 ≤ (itU F n j q).1
  | 0, _, _, g => g
  | n + 1, j, q, g => itU_nn h n (j + 1) _ (h j q g)
theorem rgT_nn {tx : Nat → Int} {b : Nat → Nat → Int} {k : Nat} {m : Int} (hw : tx (800 * k + 1) = 1 ∨ tx (800 * k + 1) = 2 ∨ tx (800 * k + 1) = 3 ∨ tx (800 * k + 1) = 6) : 0 ≤ (rgTV tx b k m).1 := by
  unfold rgTV
  refine itU_nn (fun a q h => ?_) _ _ _ (by decide)
  unfold rgIV
  exact itU_nn (fun i q h => (stR_bV (tx := tx) (b := b) hw q h).1) _ _ _ h
/-- whether a mending does -/
def mdS (tx : Nat → Int) (b : Nat → Nat → Int) (k : Nat) (m m' : Int) : Bool := !(TTV tx b k m 2).isSome && decide ((rgTV tx b k m).1 = 0) && decide ((mx (cntRV tx b k m') (r3 (b 143 (20 + m').toNat)).toNat 0 (-1) (-1)).1 < asN (tx (800 * k + 3)) (b 143 (20 + m').toNat) (b 143 (24 + m').toNat))
theorem mdS_of {tx : Nat → Int} {b c : Nat → Nat → Int} (e3 : c 143 = b 143) (k : Nat) (m m' : Int) : mdS tx c k m m' = mdS tx b k m m' := by
  have h1 : rgTV tx c k m = rgTV tx b k m := by unfold rgTV; rw [rgI_ofV e3 rfl, ansL_of e3]
  have h2 : cntRV tx c k m' = cntRV tx b k m' := funext fun r => by
    unfold cntRV; rw [e3]
    exact sumU_cg _ _ (fun i _ _ => by rw [belR_ofV e3 rfl])
  unfold mdS
  rw [TT_ofV e3 rfl, h1, h2, e3]
def txM (t0 : Nat → Int) (k : Nat) (i : Int) : Nat → Int := txV t0 k (swM i) (i / 6 % 2) (i / 2 % 3) (decide (i % 2 = 1))
section
variable {s : List (Nat × Nat)} {c : Nat → Nat → Int}
theorem k158 (d : Nat) {n : Nat} (hI : Inv s c n) {k : Nat} (hk : (k : Int) < c 143 1) {m m' : Int} (m0 : 0 ≤ m) (m1 : m < c 143 0) (z0 : 0 ≤ m') (z1 : m' < c 143 0) (hA : AnsC s c (40 + 5 * m.toNat) (c 143 (20 + m).toNat) (ansL c m)) {i : Int} (i0 : 0 ≤ i) (i1 : i < 48) : ∃ c', Cd (d + 6) 158 [vA 29, vA ((60 + 2 * k : Nat) : Int), vA ((40 + 5 * m.toNat : Nat) : Int), vA ((40 + 5 * m'.toNat : Nat) : Int), vI i] (s, c) = some ([vI (b2i (mdS (txM (c 145) k i) c k m m'))], (s, c')) ∧ PM c c' := by
  have hs := hI.1.l
  have hc := hI.2.2.2.1
  have n4 := hI.nM.2
  have a8 := hI.2.2.2.2.1.2.2.2.1.2.2
  have sw := sw_e i0 i1
  have hsh : SH s c (60 + 2 * k) := ((SB_30 hs hc).2.2.2.2 k (by omega)).2
  have q1 := fun v v0 v1 => k157 (d + 4) hs hI.2.1 ((60 + 2 * k : Nat) : Int) (v := v) i0 i1 v0 v1
  have P1 := q1 1 (by decide) (by decide)
  have P2 := q1 2 (by decide) (by decide)
  have P3 := q1 3 (by decide) (by decide)
  have P4 := q1 4 (by decide) (by decide)
  have e1 : ptM 1 i = swM i := rfl
  have e2 : ptM 2 i = i / 6 % 2 := rfl
  have e3 : ptM 3 i = i / 2 % 3 := rfl
  have e4 : ptM 4 i = i % 2 := rfl
  rw [e1] at P1
  rw [e2] at P2
  rw [e3] at P3
  rw [e4] at P4
  have zt : ∃ tx, tx = txM (c 145) k i := ⟨_, rfl⟩
  obtain ⟨tx, zt⟩ := zt
  have t1 : tx (800 * k + 1) = swM i := zt ▸ txV_1 _ _ _ _ _ _
  have t2 : tx (800 * k + 2) = i / 6 % 2 := zt ▸ txV_2 _ _ _ _ _ _
  have t3 : tx (800 * k + 3) = i / 2 % 3 := zt ▸ txV_3 _ _ _ _ _ _
  have hw : tx (800 * k + 1) = 1 ∨ tx (800 * k + 1) = 2 ∨ tx (800 * k + 1) = 3 ∨ tx (800 * k + 1) = 6 := by rw [t1]; exact sw.2
  have ha2 : 0 ≤ tx (800 * k + 3) ∧ tx (800 * k + 3) ≤ 2 := by rw [t3]; omega
  obtain ⟨c1, r1, f1, p1⟩ := k45P (d + 3) hI hk m0 m1 (w := swM i) (show i / 6 % 2 = 0 ∨ i / 6 % 2 = 1 by omega) (show i / 2 % 3 = 0 ∨ i / 2 % 3 = 1 ∨ i / 2 % 3 = 2 by omega) (decide (i % 2 = 1))
  have p1 : PlayRV tx c1 k m := by rw [zt]; exact p1
  have I1 := f1.inv hI
  have E1 := f1.e (x := 143) (by omega)
  have A1 := f1.ans (q := 40 + 5 * m.toNat) (by omega) hA
  rw [← E1, ← ansL_of E1] at A1
  obtain ⟨c2, r2, f2, -⟩ := k53V d I1 m0 (by rw [E1]; exact m1) ha2 p1 A1 hw 2
  rw [TT_ofV E1 rfl] at r2
  have start : ∀ X, (if b2i (TTV tx c k m 2).isSome = 0 then ((Cd (d + 5) 49 [vA (c2 29 3)] (s, c2)).bind toI).bind fun q6 => if q6.1 = 0 then (gF q6.2 11 3 29).bind fun x7 => ((Cd (d + 5) 45 [vA x7, vA ((40 + 5 * m'.toNat : Nat) : Int), vI (swM i), vI (i / 6 % 2), vI (i / 2 % 3), vA ((if decide (i % 2 = 1) then 137 else 60 + 2 * k + 1 : Nat) : Int)] q6.2).bind toV).bind fun q8 => (gF q8 11 3 29).bind fun x9 => ((Cd (d + 5) 51 [vA x9] q8).bind toV).bind fun q10 => (gF q10 11 3 29).bind fun x11 => (gF q10 4 9 x11).bind fun x12 => (gF q10 11 3 29).bind fun x13 => (gF q10 4 8 x13).bind fun x14 => if x12 < x14 then some ([vI 1], q10) else some ([vI 0], q10) else some ([vI 0], q6.2) else some ([vI 0], (s, c2))) = X → Cd (d + 6) 158 [vA 29, vA ((60 + 2 * k : Nat) : Int), vA ((40 + 5 * m.toNat : Nat) : Int), vA ((40 + 5 * m'.toNat : Nat) : Int), vI i] (s, c) = X := fun X hX => by
    have o14 : (if i / 6 % 2 = 1 then Rr (Cd (d + 5)) 158 14 [some (vA 29), some (vA ((60 + 2 * k : Nat) : Int)), some (vA ((40 + 5 * m.toNat : Nat) : Int)), some (vA ((40 + 5 * m'.toNat : Nat) : Int)), some (vI i), some (vI (swM i)), none, none, none] [vI 1] (s, c) else Rr (Cd (d + 5)) 158 14 [some (vA 29), some (vA ((60 + 2 * k : Nat) : Int)), some (vA ((40 + 5 * m.toNat : Nat) : Int)), some (vA ((40 + 5 * m'.toNat : Nat) : Int)), some (vI i), some (vI (swM i)), none, none, none] [vI 0] (s, c)) = Rr (Cd (d + 5)) 158 14 [some (vA 29), some (vA ((60 + 2 * k : Nat) : Int)), some (vA ((40 + 5 * m.toNat : Nat) : Int)), some (vA ((40 + 5 * m'.toNat : Nat) : Int)), some (vI i), some (vI (swM i)), none, none, none] [vI (i / 6 % 2)] (s, c) := by
      by_cases g : i / 6 % 2 = 1
      · rw [if_pos g, g]
      · rw [if_neg g, show i / 6 % 2 = 0 by omega]
    rw [c158 (hg := gC29 hs c)]
    repeat (first | rw [bnd_s] | rw [tI_m] | rw [tL_m] | rw [tA_m] | rw [tV_m] | rw [P1] | rw [P2] | rw [o14] | rw [c158_14] | rw [P3] | rw [P4])
    have o31 : (if i % 2 = 1 then (gF (s, c) 11 4 29).bind fun x4 => Rr (Cd (d + 5)) 158 31 [some (vA 29), some (vA ((60 + 2 * k : Nat) : Int)), some (vA ((40 + 5 * m.toNat : Nat) : Int)), some (vA ((40 + 5 * m'.toNat : Nat) : Int)), some (vI i), some (vI (swM i)), some (vI (i / 6 % 2)), some (vI (i / 2 % 3)), none] [vA x4] (s, c) else (gF (s, c) 8 0 ((60 + 2 * k : Nat) : Int)).bind fun x3 => Rr (Cd (d + 5)) 158 31 [some (vA 29), some (vA ((60 + 2 * k : Nat) : Int)), some (vA ((40 + 5 * m.toNat : Nat) : Int)), some (vA ((40 + 5 * m'.toNat : Nat) : Int)), some (vI i), some (vI (swM i)), some (vI (i / 6 % 2)), some (vI (i / 2 % 3)), none] [vA x3] (s, c)) = Rr (Cd (d + 5)) 158 31 [some (vA 29), some (vA ((60 + 2 * k : Nat) : Int)), some (vA ((40 + 5 * m.toNat : Nat) : Int)), some (vA ((40 + 5 * m'.toNat : Nat) : Int)), some (vI i), some (vI (swM i)), some (vI (i / 6 % 2)), some (vI (i / 2 % 3)), none] [vA ((if decide (i % 2 = 1) then 137 else 60 + 2 * k + 1 : Nat) : Int)] (s, c) := by
      by_cases g : i % 2 = 1
      · rw [if_pos g, decide_eq_true g, fC29 hs _ (by decide), bnd_s, CS_29_4 hc]; rfl
      · rw [if_neg g, decide_eq_false g, gF_g hsh.1.1 _ (by decide), bnd_s, hsh.2]; rfl
    rw [o31, c158_31]
    have tail : ∀ (hp : HP) (x12 x14 : Int) (o8 : Option AV), (if x12 < x14 then Rr (Cd (d + 5)) 158 72 [some (vA 29), some (vA ((60 + 2 * k : Nat) : Int)), some (vA ((40 + 5 * m.toNat : Nat) : Int)), some (vA ((40 + 5 * m'.toNat : Nat) : Int)), some (vI i), some (vI (swM i)), some (vI (i / 6 % 2)), some (vI (i / 2 % 3)), o8] [vI 1] hp else Rr (Cd (d + 5)) 158 72 [some (vA 29), some (vA ((60 + 2 * k : Nat) : Int)), some (vA ((40 + 5 * m.toNat : Nat) : Int)), some (vA ((40 + 5 * m'.toNat : Nat) : Int)), some (vI i), some (vI (swM i)), some (vI (i / 6 % 2)), some (vI (i / 2 % 3)), o8] [vI 0] hp) = if x12 < x14 then some ([vI 1], hp) else some ([vI 0], hp) := fun hp x12 x14 o8 => by
      by_cases g : x12 < x14
      · rw [if_pos g, if_pos g, c158_72, if_pos (Or.inr rfl)]
      · rw [if_neg g, if_neg g, c158_72, if_pos (Or.inl rfl)]
    repeat (first | rw [bnd_s] | rw [tI_m] | rw [tL_m] | rw [tA_m] | rw [tV_m] | rw [fC29 hs _ (by decide)] | rw [pC29 hs _ _ (by decide)] | rw [CS_29_3 hc] | rw [r1] | rw [CS_29_3 I1.2.2.2.1] | rw [r2])
    simp only [tail, c158_49]
    exact hX
  have f12 := f1.tr f2.pm
  have I2 := f12.inv hI
  have c2c := I2.2.2.2.1
  have E2 := f12.e (x := 143) (by omega)
  have md0 : mdS (txM (c 145) k i) c k m m' = mdS tx c k m m' := by rw [zt]
  rw [md0]
  by_cases g1 : (TTV tx c k m 2).isSome = true
  · refine ⟨c2, start _ ?_, f12⟩
    unfold mdS
    rw [g1, if_neg (by decide)]; rfl
  · have g1 := Bool.eq_false_iff.mpr g1
    have A2 := f12.ans (q := 40 + 5 * m.toNat) (by omega) hA
    rw [← E2, ← ansL_of E2] at A2
    obtain ⟨c3, r3', f3, -⟩ := k49V (d + 1) I2 m0 (by rw [E2]; exact m1) ha2 (PlayR_ofV p1 f2) A2 hw
    have h1 : rgTV tx c2 k m = rgTV tx c k m := by unfold rgTV; rw [rgI_ofV E2 rfl, ansL_of E2]
    rw [h1] at r3'
    have f13 := f12.tr f3.pm
    have I3 := f13.inv hI
    have E3 := f13.e (x := 143) (by omega)
    have E35 := f13.e (x := 145) (by omega)
    by_cases g2 : (rgTV tx c k m).1 = 0
    · obtain ⟨c4, r4, f4, p4⟩ := k45P (d + 3) I3 (k := k) (by rw [E3]; exact hk) z0 (by rw [E3]; exact z1) (w := swM i) (show i / 6 % 2 = 0 ∨ i / 6 % 2 = 1 by omega) (show i / 2 % 3 = 0 ∨ i / 2 % 3 = 1 ∨ i / 2 % 3 = 2 by omega) (decide (i % 2 = 1))
      have p4 : PlayRV tx c4 k m' := by rw [zt]; unfold txM; rw [← E35]; exact p4
      have f14 := f13.tr f4
      have I4 := f14.inv hI
      have E4 := f14.e (x := 143) (by omega)
      obtain ⟨c5, r5, f5, x9, -⟩ := k51V (d + 1) I4 z0 (by rw [E4]; exact z1) ha2 p4
      have f15 := f14.tr f5.pm
      have I5 := f15.inv hI
      have E5 := f15.e (x := 143) (by omega)
      have p8 := (PlayR_ofV p4 f5).2.2.2.1
      rw [E5] at p8
      have h2 : cntRV tx c4 k m' = cntRV tx c k m' := funext fun r => by
        unfold cntRV; rw [E4]
        exact sumU_cg _ _ (fun i _ _ => by rw [belR_ofV E4 rfl])
      rw [h2, E4] at x9
      refine ⟨c5, start _ ?_, f15⟩
      unfold mdS
      rw [g1, decide_eq_true g2, if_pos (show b2i false = 0 from rfl)]
      repeat (first | rw [bnd_s] | rw [tI_m] | rw [tL_m] | rw [tA_m] | rw [tV_m] | rw [fC29 hs _ (by decide)] | rw [pC29 hs _ _ (by decide)] | rw [fC131 hs _ (by decide)] | rw [pC131 hs _ _ (by decide)] | rw [CS_29_3 c2c] | rw [r3'] | rw [if_pos g2] | rw [CS_29_3 I3.2.2.2.1] | rw [r4] | rw [CS_29_3 I4.2.2.2.1] | rw [r5] | rw [CS_29_3 I5.2.2.2.1] | rw [x9] | rw [p8])
      by_cases g3 : (mx (cntRV tx c k m') (r3 (c 143 (20 + m').toNat)).toNat 0 (-1) (-1)).1 < asN (tx (800 * k + 3)) (c 143 (20 + m').toNat) (c 143 (24 + m').toNat)
      · rw [if_pos g3, decide_eq_true g3]; rfl
      · rw [if_neg g3, decide_eq_false g3]; rfl
    · refine ⟨c3, start _ ?_, f13⟩
      unfold mdS
      rw [g1, decide_eq_false g2, if_pos (show b2i false = 0 from rfl)]
      repeat (first | rw [bnd_s] | rw [tI_m] | rw [tL_m] | rw [tA_m] | rw [tV_m] | rw [fC29 hs _ (by decide)] | rw [pC29 hs _ _ (by decide)] | rw [CS_29_3 c2c] | rw [r3'] | rw [if_neg g2])
      rfl
end
