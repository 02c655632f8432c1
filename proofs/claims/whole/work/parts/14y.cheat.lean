/-! cheat -/
theorem mx_0 {f : Int → Int} (hf : ∀ j, 0 ≤ f j) {n : Nat} (hn : 0 < n) (r r' : Int) : mx f n 0 (-1) r = mx f n 0 (-1) r' := by
  match n, hn with
  | n + 1, _ => have := hf 0; simp only [mx]; rw [if_pos (by omega), if_pos (by omega)]
/-- what both sides know once the play stands -/
theorem both {s : List (Nat × Nat)} {c1 : Nat → Nat → Int} {n1 : Nat} (hI1 : Inv s c1 n1) {k m : Int} (k0 : 0 ≤ k) (k1 : k < c1 143 1) (m0 : 0 ≤ m) (m1 : m < c1 143 0) : Cd 998 221 [vA 142, vI k] (s, c1) = some ([vI (b2i true)], (s, c1)) ∧ Cd 998 173 [vA 142, vI m] (s, c1) = some ([vI (b2i true)], (s, c1)) ∧ Cd 998 222 [vA 142, vI k] (s, c1) = some ([], (s, mSet c1 k.toNat)) ∧ Fm [] [25, 26, 27, 28] c1 (mSet c1 k.toNat) ∧ mSet c1 k.toNat 143 = c1 143 ∧ mSet c1 k.toNat 145 = c1 145 ∧ MS (mSet c1 k.toNat) ∧ MapOK (mSet c1 k.toNat) m ∧ (0 ≤ c1 145 (800 * k.toNat + 3) ∧ c1 145 (800 * k.toNat + 3) ≤ 2) ∧ k.toNat < 8 ∧ codeOK (c1 145) k.toNat ∧ Cd 998 224 [vA 142, vI m] (s, mSet c1 k.toNat) = some ([vI (asN (c1 145 (800 * k.toNat + 3)) (c1 143 (20 + m).toNat) (c1 143 (24 + m).toNat))], (s, mSet c1 k.toNat)) := by
  have hs := hI1.1.l
  have hm := hI1.2.2.1
  have hn := hI1.nM
  have n2 := hn.2
  have a8 := hI1.2.2.2.2.1.2.2.2.1.2.2
  have hS := hI1.sh k0 k1
  have hM := hI1.mok m m0 m1
  have ek : ((k.toNat : Nat) : Int) = k := by omega
  have kk : k.toNat < 8 := by omega
  have q2 : Cd 998 222 [vA 142, vI k] (s, c1) = some ([], (s, mSet c1 k.toNat)) := by
    have := m222 997 hs hm kk hS.2.2.1
    rw [ek] at this; exact this
  have fS := mSet_F c1 k.toNat
  have E3 : mSet c1 k.toNat 143 = c1 143 := fS.1 143 (by decide) (by decide)
  have E5 : mSet c1 k.toNat 145 = c1 145 := fS.1 145 (by decide) (by decide)
  have hm2 : MS (mSet c1 k.toNat) := MS_of hm (fun w hw => mSet_o (Or.inr (by
    have : (mRefs.all fun w => decide (w.1 < 25 ∨ 28 < w.1)) = true := by decide
    simpa using List.all_eq_true.mp this w hw))) (fS.1 146 (by decide) (by decide)) (fS.1 147 (by decide) (by decide))
  have hM2 := MapOK_of hM E3
  have q4 := m224 997 hs hm2 hM2 (mSet_26 c1 k.toNat) hS.2.2.2.1
  rw [E3] at q4
  exact ⟨by rw [m221 _ hI1, inR_t (by omega)], by rw [m173 _ hs hm hn, inR_t (by omega)], q2, fS, E3, E5, hm2, hM2, hS.2.2.2.1, kk, hS.2.2.2.2.1, q4⟩
theorem op_cheat (k m v : Int) : Op 129 237 [vI k, vI m, vI v] := by
  intro s c n hI
  by_cases hkm : ((0 ≤ k ∧ k < c 143 1) ∧ (0 ≤ m ∧ m < c 143 0)) ∧ (0 ≤ v ∧ v ≤ 2)
  case neg =>
    have hs := hI.1.l
    have hc := hI.2.2.2.1
    have hm := hI.2.2.1
    obtain ⟨h7, a7, a8⟩ := hI.2.2.2.2.1.2.2.2.1
    have hn := hI.nM
    have n2 := hn.2
    refine ⟨vI (-1), s, s, c, c, n, ?_, ?_, by omega, hI⟩
    · rw [c129 (hg := gC29 hs c)]
      by_cases w1 : v < 0
      · rw [if_pos w1, c129_14]
      · rw [if_neg w1]
        by_cases w2 : 2 < v
        · rw [if_pos w2, c129_14]
        · rw [if_neg w2, k152_n _ hI (fun w => hkm ⟨w, by omega, by omega⟩)]
          repeat (first | rw [bnd_s] | rw [tI_m] | rw [tL_m] | rw [tA_m] | rw [tV_m] | rw [if_pos (show (0 : Int) = 0 from rfl)] | rw [c129_14])
    · rw [c237 (hg := gC142 hs c)]
      repeat (first | rw [bnd_s] | rw [tI_m] | rw [tL_m] | rw [tA_m] | rw [tV_m] | rw [m221 _ hI] | rw [if_b0])
      by_cases g : 0 ≤ k ∧ k < c 143 1
      · rw [inR_t (by omega), cond_t]
        repeat (first | rw [bnd_s] | rw [tI_m] | rw [tL_m] | rw [tA_m] | rw [tV_m] | rw [m173 _ hs hm hn] | rw [if_b0])
        by_cases g2 : 0 ≤ m ∧ m < c 143 0
        · rw [inR_t (by omega), cond_t]
          repeat (first | rw [bnd_s] | rw [tI_m] | rw [tL_m] | rw [tA_m] | rw [tV_m] | rw [m172] | rw [if_b0])
          rw [inR_f (fun w => hkm ⟨⟨g, g2⟩, w⟩), cond_f, c237_13]
        · rw [inR_f (by omega), cond_f, c237_13]
      · rw [inR_f (by omega), cond_f, c237_13]
  obtain ⟨hkm, hv⟩ := hkm
  obtain ⟨s1, c1, n1, r1, hn1, hI1, e3, e5, hA, hP⟩ := k152 994 hI hkm.1 hkm.2
  have hs := hI1.1.l
  have hc := hI1.2.2.2.1
  have hsg := hI.1.l
  rw [← e3] at hkm
  obtain ⟨⟨k0, k1⟩, m0, m1⟩ := hkm
  obtain ⟨M1, M2, q2, fS, E3, E5, hm2, hM2, ha2, kk, hco, q4⟩ := both hI1 k0 k1 m0 m1
  have hM := hI1.mok m m0 m1
  have p8 := hP.2.2.2.1
  have rb := r3_b hM.2.1.2
  have Inv2 : Inv s1 (mSet c1 k.toNat) n1 := Inv_M hI1 fS (by decide)
  by_cases hz : asN (c1 145 (800 * k.toNat + 3)) (c1 143 (20 + m).toNat) (c1 143 (24 + m).toNat) = 0
  · refine ⟨vI (-1), s1, s1, c1, mSet c1 k.toNat, n1, ?_, ?_, by omega, Inv2⟩
    · rw [c129 (hg := gC29 hsg c)]
      repeat (first | rw [bnd_s] | rw [tI_m] | rw [tL_m] | rw [tA_m] | rw [tV_m] | rw [if_neg (show ¬ v < 0 by omega)] | rw [if_neg (show ¬ 2 < v by omega)] | rw [r1] | rw [if_neg (show ¬ (1 : Int) = 0 by decide)] | rw [fC29 hs _ (by decide)] | rw [pC29 hs _ _ (by decide)] | rw [fC131 hs _ (by decide)] | rw [pC131 hs _ _ (by decide)] | rw [CS_29_3 hc] | rw [p8] | rw [if_pos hz] | rw [c129_14])
    · rw [c237 (hg := gC142 hs c1)]
      repeat (first | rw [bnd_s] | rw [tI_m] | rw [tL_m] | rw [tA_m] | rw [tV_m] | rw [M1] | rw [M2] | rw [if_b0] | rw [cond_t] | rw [m172] | rw [inR_t (show 0 ≤ v ∧ v ≤ 2 from hv)] | rw [q2] | rw [q4] | rw [if_pos hz])
  obtain ⟨c2, x1, xf, x9, x11⟩ := k51 994 hI1 m0 m1 ha2 hP
  have hI2 := xf.inv hI1
  have F3 : c2 143 = c1 143 := funext fun i => xf _ _ (by omega) (by omega) (by omega)
  have F5 : c2 145 = c1 145 := funext fun i => xf _ _ (by omega) (by omega) (by omega)
  have hc2 := hI2.2.2.2.1
  have p8' := (PlayR_of hP xf).2.2.2.1
  rw [F3, F5] at p8'
  obtain ⟨M1, M2, q2, fS, E3, E5, hm2, hM2, -, -, -, q4⟩ := both hI2 k0 (by rw [F3]; exact k1) m0 (by rw [F3]; exact m1)
  rw [F3, F5] at q4
  have z : ∃ b, b = u2 (mSet c2 k.toNat) 142 36 (-1) := ⟨_, rfl⟩
  obtain ⟨b, zb⟩ := z
  have b3 : b 143 = c1 143 := funext fun i => by rw [zb, u2_n (by omega), E3, F3]
  have b5 : b 145 = c1 145 := funext fun i => by rw [zb, u2_n (by omega), E5, F5]
  have hmb : MS b := zb ▸ MS_f hm2 _ (by decide)
  have hMb : MapOK b m := MapOK_of hM b3
  have b27 : b 142 27 = (k.toNat : Int) := by rw [zb, u2_n (by omega), mSet_27]
  have b26 : b 142 26 = b 145 (800 * k.toNat + 3) := by rw [b5, zb, u2_n (by omega), mSet_26, F5]
  obtain ⟨c3, y1, yf, y36, y35⟩ := m236_5 992 hs hmb kk b27 (by rw [b5]; exact hco) hMb b26 (by rw [b5]; exact ha2) (r3 (c1 143 (20 + m).toNat)).toNat 0 b (Fm.rf _ _ _) (by omega) (by rw [b3]; omega) none none
  have cn : cntR b k.toNat m = cntR c1 k.toNat m := funext fun r => by
    unfold cntR; rw [b3, b5]
    exact sumU_cg _ _ (fun i _ _ => by rw [belR_of b3 b5])
  have b36 : b 142 36 = -1 := by rw [zb, u2_e]
  rw [b36, cn, mx_0 (fun j => (cntR_b hM j).1) (by omega) _ (-1)] at y36 y35
  have r236 : Cd 998 236 [vA 142, vI m] (s1, mSet c2 k.toNat) = some ([], (s1, c3)) := by
    rw [c236 (hg := gC142 hs _)]
    repeat (first | rw [bnd_s] | rw [tI_m] | rw [tL_m] | rw [tA_m] | rw [tV_m] | rw [fC142 hs _ (by decide)] | rw [pC142 hs _ _ (by decide)])
    rw [← zb]; exact y1
  have F4 : Fm [152, 153, 154] [25, 26, 27, 28, 35, 36] c2 c3 := by
    refine (fS.mono (by decide) (by decide)).tr (Fm.tr ?_ (yf.mono (by decide) (by decide)))
    rw [zb]
    exact ⟨fun o _ ho => funext fun i => by rw [u2_n (by omega)], fun i hi => by rw [u2_n (fun w => hi (by rw [w.2]; decide))]⟩
  have hI3 := Inv_M hI2 F4 (by decide)
  have q4' := m224 997 hs hI3.2.2.1 (hI3.mok m m0 (by rw [F4.1 143 (by decide) (by decide), F3]; exact m1)) (a := c1 145 (800 * k.toNat + 3)) (by rw [yf.2 26 (by decide), b26, b5]) ha2
  rw [F4.1 143 (by decide) (by decide), F3] at q4'
  refine ⟨vI (if v = 0 then (mx (cntR c1 k.toNat m) (r3 (c1 143 (20 + m).toNat)).toNat 0 (-1) (-1)).1 else if v = 1 then asN (c1 145 (800 * k.toNat + 3)) (c1 143 (20 + m).toNat) (c1 143 (24 + m).toNat) else (mx (cntR c1 k.toNat m) (r3 (c1 143 (20 + m).toNat)).toNat 0 (-1) (-1)).2), s1, s1, c2, c3, n1, ?_, ?_, by omega, hI3⟩
  · rw [c129 (hg := gC29 hsg c)]
    repeat (first | rw [bnd_s] | rw [tI_m] | rw [tL_m] | rw [tA_m] | rw [tV_m] | rw [if_neg (show ¬ v < 0 by omega)] | rw [if_neg (show ¬ 2 < v by omega)] | rw [r1] | rw [if_neg (show ¬ (1 : Int) = 0 by decide)] | rw [fC29 hs _ (by decide)] | rw [pC29 hs _ _ (by decide)] | rw [fC131 hs _ (by decide)] | rw [pC131 hs _ _ (by decide)] | rw [CS_29_3 hc] | rw [p8] | rw [if_neg hz] | rw [x1])
    by_cases v0 : v = 0
    · rw [if_pos v0, if_pos v0]
      repeat (first | rw [bnd_s] | rw [tI_m] | rw [tL_m] | rw [tA_m] | rw [tV_m] | rw [fC29 hs _ (by decide)] | rw [pC29 hs _ _ (by decide)] | rw [fC131 hs _ (by decide)] | rw [pC131 hs _ _ (by decide)] | rw [CS_29_3 hc2] | rw [x9])
    · rw [if_neg v0, if_neg v0]
      by_cases v1 : v = 1
      · rw [if_pos v1, if_pos v1]
        repeat (first | rw [bnd_s] | rw [tI_m] | rw [tL_m] | rw [tA_m] | rw [tV_m] | rw [fC29 hs _ (by decide)] | rw [pC29 hs _ _ (by decide)] | rw [fC131 hs _ (by decide)] | rw [pC131 hs _ _ (by decide)] | rw [CS_29_3 hc2] | rw [p8'])
      · rw [if_neg v1, if_neg v1]
        repeat (first | rw [bnd_s] | rw [tI_m] | rw [tL_m] | rw [tA_m] | rw [tV_m] | rw [fC29 hs _ (by decide)] | rw [pC29 hs _ _ (by decide)] | rw [fC131 hs _ (by decide)] | rw [pC131 hs _ _ (by decide)] | rw [CS_29_3 hc2] | rw [x11])
  · rw [c237 (hg := gC142 hs c2)]
    repeat (first | rw [bnd_s] | rw [tI_m] | rw [tL_m] | rw [tA_m] | rw [tV_m] | rw [M1] | rw [M2] | rw [if_b0] | rw [cond_t] | rw [m172] | rw [inR_t (show 0 ≤ v ∧ v ≤ 2 from hv)] | rw [q2] | rw [q4] | rw [if_neg hz] | rw [r236])
    by_cases v0 : v = 0
    · rw [if_pos v0, if_pos v0]
      repeat (first | rw [bnd_s] | rw [tI_m] | rw [tL_m] | rw [tA_m] | rw [tV_m] | rw [fC142 hs _ (by decide)] | rw [pC142 hs _ _ (by decide)] | rw [y36] | rw [c237_41])
    · rw [if_neg v0, if_neg v0]
      by_cases v1 : v = 1
      · rw [if_pos v1, if_pos v1]
        repeat (first | rw [bnd_s] | rw [tI_m] | rw [tL_m] | rw [tA_m] | rw [tV_m] | rw [q4'] | rw [c237_41])
      · rw [if_neg v1, if_neg v1]
        repeat (first | rw [bnd_s] | rw [tI_m] | rw [tL_m] | rw [tA_m] | rw [tV_m] | rw [fC142 hs _ (by decide)] | rw [pC142 hs _ _ (by decide)] | rw [y35] | rw [c237_41])
