/-! believed -/
theorem k48 (d : Nat) {s : List (Nat × Nat)} {c : Nat → Nat → Int} (hs : SpL s) (hc : CS c) {k : Nat} {m : Int} (hP : PlayR c k m) {i p q : Int} (h0 : 0 ≤ i) (h1 : i < asN (c 145 (800 * k + 3)) (c 143 (20 + m).toNat) (c 143 (24 + m).toNat)) (hN : asN (c 145 (800 * k + 3)) (c 143 (20 + m).toNat) (c 143 (24 + m).toNat) ≤ 21) (hp : 0 ≤ p ∧ p < 3) (hq : 0 ≤ q ∧ q < 3) : Cd (d + 2) 48 [vA 131, vI i, vI (3 * p + q)] (s, c) = some ([vI (b2i (jud (c 145) k p q (asX c m (c 145 (800 * k + 3)) i) (asY c m (c 145 (800 * k + 3)) i)))], (s, c)) := by
  have g := hP.2.2.2.2 i h0 h1
  rw [← g.2.2.2 p q hp.1 hp.2 hq.1 hq.2, c48 (hg := gC131 hs c)]
  repeat (first | rw [bnd_s] | rw [tI_m] | rw [tL_m] | rw [tA_m] | rw [tV_m] | rw [fC131 hs _ (by decide)] | rw [pC131 hs _ _ (by decide)] | rw [CS_131_2 hc] | rw [aC134 hs _ h0 (by omega)] | rw [k169 _ _ g.2.2.1.1 (by omega) (show 0 ≤ 3 * p + q by omega) (by omega)] | rw [if_pos (b2i_o _)])
theorem Inv.sh {s : List (Nat × Nat)} {c : Nat → Nat → Int} {n : Nat} (h : Inv s c n) {k : Int} (h0 : 0 ≤ k) (h1 : k < c 143 1) : ShRel (c 145) c (60 + 2 * k.toNat) k.toNat := h.2.2.2.2.1.2.2.2.2.1 k.toNat (by omega)
theorem op_believed (k m j p q : Int) : Op 127 233 [vI k, vI m, vI j, vI p, vI q] := by
  intro s c n hI
  by_cases hkm : (0 ≤ k ∧ k < c 143 1) ∧ (0 ≤ m ∧ m < c 143 0)
  case neg =>
    have hs := hI.1.l
    have hc := hI.2.2.2.1
    have hm := hI.2.2.1
    obtain ⟨h7, a7, a8⟩ := hI.2.2.2.2.1.2.2.2.1
    have hn := hI.nM
    have n2 := hn.2
    refine ⟨vI (-1), s, s, c, c, n, ?_, ?_, by omega, hI⟩
    · rw [c127 (hg := gC29 hs c)]
      repeat (first | rw [bnd_s] | rw [tI_m] | rw [tL_m] | rw [tA_m] | rw [tV_m] | rw [k152_n _ hI hkm] | rw [if_pos (show (0 : Int) = 0 from rfl)])
    · rw [c233 (hg := gC142 hs c)]
      repeat (first | rw [bnd_s] | rw [tI_m] | rw [tL_m] | rw [tA_m] | rw [tV_m] | rw [m221 _ hI] | rw [if_b0])
      by_cases g : 0 ≤ k ∧ k < c 143 1
      · rw [inR_t (by omega), cond_t]
        repeat (first | rw [bnd_s] | rw [tI_m] | rw [tL_m] | rw [tA_m] | rw [tV_m] | rw [m173 _ hs hm hn] | rw [if_b0])
        rw [inR_f (show ¬ (0 ≤ m ∧ m ≤ c 143 0 - 1) from fun w => hkm ⟨g, w.1, by omega⟩), cond_f, c233_8]
      · rw [inR_f (by omega), cond_f, c233_8]
  obtain ⟨s1, c1, n1, r1, hn1, hI1, e3, e5, hA, hP⟩ := k152 994 hI hkm.1 hkm.2
  have hs := hI1.1.l
  have hc := hI1.2.2.2.1
  have hm := hI1.2.2.1
  have hn := hI1.nM
  have n2 := hn.2
  rw [← e3] at hkm
  obtain ⟨⟨k0, k1⟩, m0, m1⟩ := hkm
  have a8 := hI1.2.2.2.2.1.2.2.2.1.2.2
  have hS := hI1.sh k0 k1
  have hM := hI1.mok m m0 m1
  have hsg := hI.1.l
  have ek : ((k.toNat : Nat) : Int) = k := by omega
  have kk : k.toNat < 8 := by omega
  have q2 : Cd 998 222 [vA 142, vI k] (s1, c1) = some ([], (s1, mSet c1 k.toNat)) := by
    have := m222 997 hs hm kk hS.2.2.1
    rw [ek] at this; exact this
  have fS := mSet_F c1 k.toNat
  have E3 : mSet c1 k.toNat 143 = c1 143 := fS.1 143 (by decide) (by decide)
  have E5 : mSet c1 k.toNat 145 = c1 145 := fS.1 145 (by decide) (by decide)
  have hm2 : MS (mSet c1 k.toNat) := MS_of hm (fun w hw => mSet_o (Or.inr (by
    have : (mRefs.all fun w => decide (w.1 < 25 ∨ 28 < w.1)) = true := by decide
    simpa using List.all_eq_true.mp this w hw))) (fS.1 146 (by decide) (by decide)) (fS.1 147 (by decide) (by decide))
  have hM2 := MapOK_of hM E3
  have ha2 : 0 ≤ c1 145 (800 * k.toNat + 3) ∧ c1 145 (800 * k.toNat + 3) ≤ 2 := hS.2.2.2.1
  have aN := asN_b (a := c1 145 (800 * k.toNat + 3)) hM.2.1.1 hM.2.1.2 hM.2.2.1.1 hM.2.2.1.2
  have q4 := m224 997 hs hm2 hM2 (mSet_26 c1 k.toNat) ha2
  rw [E3] at q4
  have p8 := hP.2.2.2.1
  have Inv2 : Inv s1 (mSet c1 k.toNat) n1 := Inv_M hI1 fS (by decide)
  have M1 : Cd 998 221 [vA 142, vI k] (s1, c1) = some ([vI (b2i true)], (s1, c1)) := by
    rw [m221 _ hI1, inR_t (by omega)]
  have M2 : Cd 998 173 [vA 142, vI m] (s1, c1) = some ([vI (b2i true)], (s1, c1)) := by
    rw [m173 _ hs hm hn, inR_t (by omega)]
  by_cases hj : j = -1
  · refine ⟨vI (asN (c1 145 (800 * k.toNat + 3)) (c1 143 (20 + m).toNat) (c1 143 (24 + m).toNat)), s1, s1, c1, mSet c1 k.toNat, n1, ?_, ?_, by omega, Inv2⟩
    · rw [c127 (hg := gC29 hsg c)]
      repeat (first | rw [bnd_s] | rw [tI_m] | rw [tL_m] | rw [tA_m] | rw [tV_m] | rw [r1] | rw [if_neg (show ¬ (1 : Int) = 0 by decide)] | rw [if_pos hj] | rw [fC29 hs _ (by decide)] | rw [pC29 hs _ _ (by decide)] | rw [fC131 hs _ (by decide)] | rw [pC131 hs _ _ (by decide)] | rw [CS_29_3 hc] | rw [p8])
    · rw [c233 (hg := gC142 hs c1)]
      repeat (first | rw [bnd_s] | rw [tI_m] | rw [tL_m] | rw [tA_m] | rw [tV_m] | rw [M1] | rw [M2] | rw [if_b0] | rw [cond_t] | rw [q2] | rw [if_pos hj] | rw [q4])
  by_cases hv : (0 ≤ j ∧ j < asN (c1 145 (800 * k.toNat + 3)) (c1 143 (20 + m).toNat) (c1 143 (24 + m).toNat)) ∧ (0 ≤ p ∧ p < 3) ∧ (0 ≤ q ∧ q < 3)
  · obtain ⟨⟨j0, j1⟩, hp, hq⟩ := hv
    obtain ⟨c3, r3, f3⟩ := m231 994 hs hm2 kk (mSet_27 c1 k.toNat) (E5 ▸ hS.2.2.2.2.1) hM2 (mSet_26 c1 k.toNat) ha2 j0 (by rw [E3]; exact j1) hp hq
    rw [E5, asX_of E3, asY_of E3] at r3
    have f4 : Fm [152, 153, 154] [25, 26, 27, 28] c1 c3 := (fS.mono (by decide) (by decide)).tr (f3.mono (by decide) (by decide))
    refine ⟨vI (b2i (jud (c1 145) k.toNat p q (asX c1 m (c1 145 (800 * k.toNat + 3)) j) (asY c1 m (c1 145 (800 * k.toNat + 3)) j))), s1, s1, c1, c3, n1, ?_, ?_, by omega, Inv_M hI1 f4 (by decide)⟩
    · rw [c127 (hg := gC29 hsg c)]
      have x48 := k48 996 hs hc hP j0 j1 aN.2 hp hq
      have W : w32 (w32 (p * 3) + q) = 3 * p + q := by rw [w32_id (z := p * 3) (by omega) (by omega), w32_id (by omega) (by omega)]; omega
      repeat (first | rw [bnd_s] | rw [tI_m] | rw [tL_m] | rw [tA_m] | rw [tV_m] | rw [r1] | rw [if_neg (show ¬ (1 : Int) = 0 by decide)] | rw [if_neg hj] | rw [fC29 hs _ (by decide)] | rw [pC29 hs _ _ (by decide)] | rw [fC131 hs _ (by decide)] | rw [pC131 hs _ _ (by decide)] | rw [CS_29_3 hc] | rw [p8] | rw [if_neg (show ¬ j < 0 by omega)] | rw [if_pos j1] | rw [k160] | rw [if_b0] | rw [decide_eq_true hp] | rw [decide_eq_true hq] | rw [cond_t] | rw [W] | rw [x48] | rw [k159])
    · rw [c233 (hg := gC142 hs c1)]
      repeat (first | rw [bnd_s] | rw [tI_m] | rw [tL_m] | rw [tA_m] | rw [tV_m] | rw [M1] | rw [M2] | rw [if_b0] | rw [cond_t] | rw [q2] | rw [if_neg hj] | rw [q4] | rw [w32_id (z := asN (c1 145 (800 * k.toNat + 3)) (c1 143 (20 + m).toNat) (c1 143 (24 + m).toNat) - 1) (by omega) (by omega)] | rw [m172] | rw [inR_t (show 0 ≤ j ∧ j ≤ asN (c1 145 (800 * k.toNat + 3)) (c1 143 (20 + m).toNat) (c1 143 (24 + m).toNat) - 1 by omega)] | rw [inR_t (show 0 ≤ p ∧ p ≤ 2 by omega)] | rw [inR_t (show 0 ≤ q ∧ q ≤ 2 by omega)] | rw [r3])
      cases jud (c1 145) k.toNat p q (asX c1 m (c1 145 (800 * k.toNat + 3)) j) (asY c1 m (c1 145 (800 * k.toNat + 3)) j)
      · rw [cond_f, c233_51]; rfl
      · rw [cond_t, c233_51]; rfl
  · refine ⟨vI (-1), s1, s1, c1, mSet c1 k.toNat, n1, ?_, ?_, by omega, Inv2⟩
    · rw [c127 (hg := gC29 hsg c)]
      repeat (first | rw [bnd_s] | rw [tI_m] | rw [tL_m] | rw [tA_m] | rw [tV_m] | rw [r1] | rw [if_neg (show ¬ (1 : Int) = 0 by decide)] | rw [if_neg hj])
      by_cases w1 : j < 0
      · rw [if_pos w1, c127_27]
      · rw [if_neg w1]
        repeat (first | rw [bnd_s] | rw [tI_m] | rw [tL_m] | rw [tA_m] | rw [tV_m] | rw [fC29 hs _ (by decide)] | rw [pC29 hs _ _ (by decide)] | rw [fC131 hs _ (by decide)] | rw [pC131 hs _ _ (by decide)] | rw [CS_29_3 hc] | rw [p8])
        by_cases w2 : j < asN (c1 145 (800 * k.toNat + 3)) (c1 143 (20 + m).toNat) (c1 143 (24 + m).toNat)
        · rw [if_pos w2]
          repeat (first | rw [bnd_s] | rw [tI_m] | rw [tL_m] | rw [tA_m] | rw [tV_m] | rw [k160] | rw [if_b0])
          by_cases w3 : 0 ≤ p ∧ p < 3
          · rw [decide_eq_true w3, cond_t]
            repeat (first | rw [bnd_s] | rw [tI_m] | rw [tL_m] | rw [tA_m] | rw [tV_m] | rw [k160] | rw [if_b0])
            rw [decide_eq_false (show ¬ (0 ≤ q ∧ q < 3) from fun w => hv ⟨⟨by omega, w2⟩, w3, w⟩), cond_f, c127_27]
          · rw [decide_eq_false w3, cond_f, c127_27]
        · rw [if_neg w2, c127_27]
    · rw [c233 (hg := gC142 hs c1)]
      repeat (first | rw [bnd_s] | rw [tI_m] | rw [tL_m] | rw [tA_m] | rw [tV_m] | rw [M1] | rw [M2] | rw [if_b0] | rw [cond_t] | rw [q2] | rw [if_neg hj] | rw [q4] | rw [w32_id (z := asN (c1 145 (800 * k.toNat + 3)) (c1 143 (20 + m).toNat) (c1 143 (24 + m).toNat) - 1) (by omega) (by omega)] | rw [m172])
      by_cases w1 : 0 ≤ j ∧ j ≤ asN (c1 145 (800 * k.toNat + 3)) (c1 143 (20 + m).toNat) (c1 143 (24 + m).toNat) - 1
      · rw [inR_t w1, cond_t]
        repeat (first | rw [bnd_s] | rw [tI_m] | rw [tL_m] | rw [tA_m] | rw [tV_m] | rw [m172] | rw [if_b0])
        by_cases w3 : 0 ≤ p ∧ p ≤ 2
        · rw [inR_t w3, cond_t]
          repeat (first | rw [bnd_s] | rw [tI_m] | rw [tL_m] | rw [tA_m] | rw [tV_m] | rw [m172] | rw [if_b0])
          rw [inR_f (show ¬ (0 ≤ q ∧ q ≤ 2) from fun w => hv ⟨⟨by omega, by omega⟩, by omega, by omega⟩), cond_f, c233_39]
        · rw [inR_f w3, cond_f, c233_39]
      · rw [inR_f w1, cond_f, c233_39]
