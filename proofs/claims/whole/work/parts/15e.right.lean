/-! right, asked -/
theorem rgI_of {b c : Nat → Nat → Int} (e3 : c 143 = b 143) (e5 : c 145 = b 145) (k : Nat) (m : Int) : rgI c k m = rgI b k m := by
  funext a q; unfold rgI; rw [ansL_of e3, e3, e5]; exact itU_cg _ _ _ (fun i _ _ => stR_of e3 e5 _ _ _ _ _)
theorem op_right (k m v : Int) : Op 128 235 [vI k, vI m, vI v] := by
  intro s c n hI
  by_cases hkm : ((0 ≤ k ∧ k < c 143 1) ∧ (0 ≤ m ∧ m < c 143 0)) ∧ (0 ≤ v ∧ v ≤ 3)
  case neg =>
    have hs := hI.1.l
    have hc := hI.2.2.2.1
    have hm := hI.2.2.1
    obtain ⟨h7, a7, a8⟩ := hI.2.2.2.2.1.2.2.2.1
    have hn := hI.nM
    have n2 := hn.2
    refine ⟨vI (-1), s, s, c, c, n, ?_, ?_, by omega, hI⟩
    · rw [c128 (hg := gC29 hs c)]
      by_cases w1 : v < 0
      · rw [if_pos w1, c128_10]
      · rw [if_neg w1]
        by_cases w2 : 3 < v
        · rw [if_pos w2, c128_10]
        · rw [if_neg w2]
          rw [k152_n _ hI (fun w => hkm ⟨w, ⟨by omega, by omega⟩⟩)]
          repeat (first | rw [bnd_s] | rw [tI_m] | rw [tL_m] | rw [tA_m] | rw [tV_m] | rw [if_pos (show (0 : Int) = 0 from rfl)] | rw [c128_10])
    · rw [c235 (hg := gC142 hs c)]
      repeat (first | rw [bnd_s] | rw [tI_m] | rw [tL_m] | rw [tA_m] | rw [tV_m] | rw [m221 _ hI] | rw [if_b0])
      by_cases g : 0 ≤ k ∧ k < c 143 1
      · rw [inR_t (by omega), cond_t]
        repeat (first | rw [bnd_s] | rw [tI_m] | rw [tL_m] | rw [tA_m] | rw [tV_m] | rw [m173 _ hs hm hn] | rw [if_b0])
        by_cases g2 : 0 ≤ m ∧ m < c 143 0
        · rw [inR_t (by omega), cond_t]
          repeat (first | rw [bnd_s] | rw [tI_m] | rw [tL_m] | rw [tA_m] | rw [tV_m] | rw [m172] | rw [if_b0])
          rw [inR_f (fun w => hkm ⟨⟨g, g2⟩, w⟩), cond_f, c235_13]
        · rw [inR_f (by omega), cond_f, c235_13]
      · rw [inR_f (by omega), cond_f, c235_13]
  obtain ⟨hkm, hv⟩ := hkm
  obtain ⟨s1, c1, n1, r1, hn1, hI1, e3, e5, hA, hP⟩ := k152 994 hI hkm.1 hkm.2
  have hs := hI1.1.l
  have hc := hI1.2.2.2.1
  have hsg := hI.1.l
  rw [← e3] at hkm
  obtain ⟨⟨k0, k1⟩, m0, m1⟩ := hkm
  obtain ⟨M1, M2, q2, fS, E3, E5, hm2, hM2, ha2, kk, hco, q4⟩ := both hI1 k0 k1 m0 m1
  have hM := hI1.mok m m0 m1
  have p8 := hP.2.2.2.1
  have Inv2 : Inv s1 (mSet c1 k.toNat) n1 := Inv_M hI1 fS (by decide)
  have hw := (hI1.sh k0 k1).2.1
  obtain ⟨c2, x1, xf, x2, x3, x4⟩ := k49 994 hI1 m0 m1 ha2 hP hA hw
  have hI2 := xf.inv hI1
  have F3 : c2 143 = c1 143 := funext fun i => xf _ _ (by omega) (by omega) (by omega)
  have F5 : c2 145 = c1 145 := funext fun i => xf _ _ (by omega) (by omega) (by omega)
  have hc2 := hI2.2.2.2.1
  obtain ⟨M1, M2, q2, fS, E3, E5, hm2, hM2, -, -, -, q4⟩ := both hI2 k0 (by rw [F3]; exact k1) m0 (by rw [F3]; exact m1)
  have P2 := MP_set hI2 k0 (by rw [F3]; exact k1) m0 (by rw [F3]; exact m1)
  obtain ⟨c3, y1, yf, yA⟩ := m183 994 hs hm2 hM2
  have z : ∃ b, b = u2 (u2 (u2 c3 142 32 (-1)) 142 33 (-1)) 142 34 (-1) := ⟨_, rfl⟩
  obtain ⟨b, zb⟩ := z
  have bf : Fm [148] [6, 32, 33, 34] (mSet c2 k.toNat) b := by
    rw [zb]
    exact (((yf.mono (by decide) (by decide)).f _ (by decide)).f _ (by decide)).f _ (by decide)
  obtain ⟨P3, b3, b5⟩ := P2.mv bf (by decide)
  have bA : AnsAt b (ansL b m) := by
    rw [ansL_of b3]
    unfold AnsAt at yA ⊢
    have g6 : b 142 6 = c3 142 6 := by rw [zb, u2_n (by omega), u2_n (by omega), u2_n (by omega)]
    have g8 : b 148 = c3 148 := funext fun i => by rw [zb, u2_n (by omega), u2_n (by omega), u2_n (by omega)]
    rw [g6, g8]; exact yA
  have ll := ansL_len P3.1.2.2.2.2.1
  obtain ⟨c4, w1, wf, w2⟩ := m234_16 992 hs P3 bA (ansL b m).length 0 (0, -1, -1, -1) b (Fm.rf _ _ _) ⟨by rw [zb, u2_n (by omega), u2_n (by omega), u2_e], by rw [zb, u2_n (by omega), u2_e], by rw [zb, u2_e]⟩ (by omega) (by omega) (by decide) (by show (0 : Int) + 126 * _ < 2147483648; omega) none none
  have eT : itU (rgI b k.toNat m) (ansL b m).length 0 (0, -1, -1, -1) = rgT c1 k.toNat m := by
    have B3 : b 143 = c1 143 := b3.trans (E3.trans F3)
    have B5 : b 145 = c1 145 := b5.trans (E5.trans F5)
    unfold rgT; rw [rgI_of B3 B5, ansL_of B3]
  rw [eT] at w1 w2
  obtain ⟨w2, w3, w4⟩ := w2
  have r234 : Cd 998 234 [vA 142, vI m] (s1, mSet c2 k.toNat) = some ([vI (rgT c1 k.toNat m).1], (s1, c4)) := by
    rw [c234 (hg := gC142 hs _)]
    repeat (first | rw [bnd_s] | rw [tI_m] | rw [tL_m] | rw [tA_m] | rw [tV_m] | rw [y1] | rw [fC142 hs _ (by decide)] | rw [pC142 hs _ _ (by decide)])
    rw [← zb]; exact w1
  have F4 : Fm [148, 152, 153, 154] [6, 25, 26, 27, 28, 32, 33, 34] c2 c4 := (fS.mono (by decide) (by decide)).tr ((bf.mono (by decide) (by decide)).tr (wf.mono (by decide) (by decide)))
  have hI3 := Inv_M hI2 F4 (by decide)
  refine ⟨vI (if v = 0 then (rgT c1 k.toNat m).1 else if v = 1 then (rgT c1 k.toNat m).2.1 else if v = 2 then (rgT c1 k.toNat m).2.2.1 else (rgT c1 k.toNat m).2.2.2), s1, s1, c2, c4, n1, ?_, ?_, by omega, hI3⟩
  · rw [c128 (hg := gC29 hsg c)]
    repeat (first | rw [bnd_s] | rw [tI_m] | rw [tL_m] | rw [tA_m] | rw [tV_m] | rw [if_neg (show ¬ v < 0 by omega)] | rw [if_neg (show ¬ 3 < v by omega)] | rw [r1] | rw [if_neg (show ¬ (1 : Int) = 0 by decide)] | rw [fC29 hs _ (by decide)] | rw [pC29 hs _ _ (by decide)] | rw [CS_29_3 hc] | rw [x1])
    by_cases v0 : v = 0
    · rw [if_pos v0, if_pos v0]
    · rw [if_neg v0, if_neg v0]
      by_cases v1 : v = 1
      · rw [if_pos v1, if_pos v1]
        repeat (first | rw [bnd_s] | rw [tI_m] | rw [tL_m] | rw [tA_m] | rw [tV_m] | rw [fC29 hs _ (by decide)] | rw [pC29 hs _ _ (by decide)] | rw [fC131 hs _ (by decide)] | rw [pC131 hs _ _ (by decide)] | rw [CS_29_3 hc2] | rw [x2])
      · rw [if_neg v1, if_neg v1]
        by_cases v2 : v = 2
        · rw [if_pos v2, if_pos v2]
          repeat (first | rw [bnd_s] | rw [tI_m] | rw [tL_m] | rw [tA_m] | rw [tV_m] | rw [fC29 hs _ (by decide)] | rw [pC29 hs _ _ (by decide)] | rw [fC131 hs _ (by decide)] | rw [pC131 hs _ _ (by decide)] | rw [CS_29_3 hc2] | rw [x3])
        · rw [if_neg v2, if_neg v2]
          repeat (first | rw [bnd_s] | rw [tI_m] | rw [tL_m] | rw [tA_m] | rw [tV_m] | rw [fC29 hs _ (by decide)] | rw [pC29 hs _ _ (by decide)] | rw [fC131 hs _ (by decide)] | rw [pC131 hs _ _ (by decide)] | rw [CS_29_3 hc2] | rw [x4])
  · rw [c235 (hg := gC142 hs c2)]
    repeat (first | rw [bnd_s] | rw [tI_m] | rw [tL_m] | rw [tA_m] | rw [tV_m] | rw [M1] | rw [M2] | rw [if_b0] | rw [cond_t] | rw [m172] | rw [inR_t (show 0 ≤ v ∧ v ≤ 3 from hv)] | rw [q2] | rw [r234])
    by_cases v0 : v = 0
    · rw [if_pos v0, if_pos v0, c235_40]
    · rw [if_neg v0, if_neg v0]
      by_cases v1 : v = 1
      · rw [if_pos v1, if_pos v1]
        repeat (first | rw [bnd_s] | rw [tI_m] | rw [tL_m] | rw [tA_m] | rw [tV_m] | rw [fC142 hs _ (by decide)] | rw [pC142 hs _ _ (by decide)] | rw [w2] | rw [c235_40])
      · rw [if_neg v1, if_neg v1]
        by_cases v2 : v = 2
        · rw [if_pos v2, if_pos v2]
          repeat (first | rw [bnd_s] | rw [tI_m] | rw [tL_m] | rw [tA_m] | rw [tV_m] | rw [fC142 hs _ (by decide)] | rw [pC142 hs _ _ (by decide)] | rw [w3] | rw [c235_40])
        · rw [if_neg v2, if_neg v2]
          repeat (first | rw [bnd_s] | rw [tI_m] | rw [tL_m] | rw [tA_m] | rw [tV_m] | rw [fC142 hs _ (by decide)] | rw [pC142 hs _ _ (by decide)] | rw [w4] | rw [c235_40])
