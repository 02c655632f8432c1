/-! unlike, asked -/
theorem op_unlike (k m i m' j : Int) : Op 142 267 [vI k, vI m, vI i, vI m', vI j] := by
  intro s c n hI
  have hs := hI.1.l
  have hc := hI.2.2.2.1
  have hm := hI.2.2.1
  have h6 := hI.2.2.2.2.1.1.1
  have hn := hI.nM
  have n2 := hn.2
  by_cases hk : 0 ≤ k ∧ k < c 143 1
  case neg =>
    refine ⟨vI (-1), s, s, c, c, n, ?_, ?_, by omega, hI⟩
    · rw [c142 (hg := gC29 hs c)]
      repeat (first | rw [bnd_s] | rw [tI_m] | rw [tL_m] | rw [tA_m] | rw [tV_m] | rw [fC29 hs _ (by decide)] | rw [pC29 hs _ _ (by decide)] | rw [CS_29_0 hc] | rw [k114 _ hI] | rw [k113 _ hs hc h6 hn] | rw [if_neg hk] | rw [if_neg (show ¬ (-1 : Int) = 0 by decide)] | rw [if_pos (show (-1 : Int) < 0 by decide)] | rw [c142_21])
    · rw [c267 (hg := gC142 hs c)]
      repeat (first | rw [bnd_s] | rw [tI_m] | rw [tL_m] | rw [tA_m] | rw [tV_m] | rw [m221 _ hI] | rw [inR_f (show ¬ (0 ≤ k ∧ k ≤ c 143 1 - 1) by omega)] | rw [if_b0] | rw [cond_f] | rw [c267_32])
  have T1 : Cd 998 221 [vA 142, vI k] (s, c) = some ([vI (b2i true)], (s, c)) := by rw [m221 _ hI, inR_t (by omega)]
  by_cases h1 : 0 ≤ m ∧ m < c 143 0
  case neg =>
    refine ⟨vI (-1), s, s, c, c, n, ?_, ?_, by omega, hI⟩
    · rw [c142 (hg := gC29 hs c)]
      repeat (first | rw [bnd_s] | rw [tI_m] | rw [tL_m] | rw [tA_m] | rw [tV_m] | rw [fC29 hs _ (by decide)] | rw [pC29 hs _ _ (by decide)] | rw [CS_29_0 hc] | rw [k114 _ hI] | rw [k113 _ hs hc h6 hn] | rw [if_pos hk] | rw [if_neg h1] | rw [if_neg (show ¬ ((60 + 2 * k.toNat : Nat) : Int) = 0 by omega)] | rw [if_neg (show ¬ ((60 + 2 * k.toNat : Nat) : Int) < 0 by omega)] | rw [if_neg (show ¬ (-1 : Int) = 0 by decide)] | rw [if_pos (show (-1 : Int) < 0 by decide)] | rw [c142_21])
    · rw [c267 (hg := gC142 hs c)]
      repeat (first | rw [bnd_s] | rw [tI_m] | rw [tL_m] | rw [tA_m] | rw [tV_m] | rw [T1] | rw [m173 _ hs hm hn] | rw [inR_f (show ¬ (0 ≤ m ∧ m ≤ c 143 0 - 1) by omega)] | rw [if_b0] | rw [cond_t] | rw [cond_f] | rw [c267_32])
  have T2 : Cd 998 173 [vA 142, vI m] (s, c) = some ([vI (b2i true)], (s, c)) := by rw [m173 _ hs hm hn, inR_t (by omega)]
  by_cases h2 : 0 ≤ m' ∧ m' < c 143 0
  case neg =>
    refine ⟨vI (-1), s, s, c, c, n, ?_, ?_, by omega, hI⟩
    · rw [c142 (hg := gC29 hs c)]
      repeat (first | rw [bnd_s] | rw [tI_m] | rw [tL_m] | rw [tA_m] | rw [tV_m] | rw [fC29 hs _ (by decide)] | rw [pC29 hs _ _ (by decide)] | rw [CS_29_0 hc] | rw [k114 _ hI] | rw [k113 _ hs hc h6 hn] | rw [if_pos hk] | rw [if_pos h1] | rw [if_neg h2] | rw [if_neg (show ¬ ((60 + 2 * k.toNat : Nat) : Int) = 0 by omega)] | rw [if_neg (show ¬ ((60 + 2 * k.toNat : Nat) : Int) < 0 by omega)] | rw [if_neg (show ¬ ((40 + 5 * m.toNat : Nat) : Int) = 0 by omega)] | rw [if_neg (show ¬ ((40 + 5 * m.toNat : Nat) : Int) < 0 by omega)] | rw [if_neg (show ¬ (-1 : Int) = 0 by decide)] | rw [if_pos (show (-1 : Int) < 0 by decide)] | rw [c142_21])
    · rw [c267 (hg := gC142 hs c)]
      repeat (first | rw [bnd_s] | rw [tI_m] | rw [tL_m] | rw [tA_m] | rw [tV_m] | rw [T1] | rw [T2] | rw [m173 _ hs hm hn] | rw [inR_f (show ¬ (0 ≤ m' ∧ m' ≤ c 143 0 - 1) by omega)] | rw [if_b0] | rw [cond_t] | rw [cond_f] | rw [c267_32])
  have T3 : Cd 998 173 [vA 142, vI m'] (s, c) = some ([vI (b2i true)], (s, c)) := by rw [m173 _ hs hm hn, inR_t (by omega)]
  have hch := chN hs hc (m := m.toNat) (by omega)
  have hch' := chN hs hc (m := m'.toNat) (by omega)
  have b5 := (hI.map (m := m.toNat) (by omega)).1.2
  rw [Int.toNat_of_nonneg h1.1] at b5
  have b5' := (hI.map (m := m'.toNat) (by omega)).1.2
  rw [Int.toNat_of_nonneg h2.1] at b5'
  have hM := hI.mok m h1.1 h1.2
  have hM' := hI.mok m' h2.1 h2.2
  by_cases hb : c 143 (24 + m).toNat = c 143 (24 + m').toNat ∧ c 143 (24 + m).toNat ≠ 0
  case neg =>
    refine ⟨vI (-1), s, s, c, c, n, ?_, ?_, by omega, hI⟩
    · rw [c142 (hg := gC29 hs c)]
      repeat (first | rw [bnd_s] | rw [tI_m] | rw [tL_m] | rw [tA_m] | rw [tV_m] | rw [fC29 hs _ (by decide)] | rw [pC29 hs _ _ (by decide)] | rw [CS_29_0 hc] | rw [k114 _ hI] | rw [k113 _ hs hc h6 hn] | rw [if_pos hk] | rw [if_pos h1] | rw [if_pos h2] | rw [if_neg (show ¬ ((60 + 2 * k.toNat : Nat) : Int) = 0 by omega)] | rw [if_neg (show ¬ ((60 + 2 * k.toNat : Nat) : Int) < 0 by omega)] | rw [if_neg (show ¬ ((40 + 5 * m.toNat : Nat) : Int) = 0 by omega)] | rw [if_neg (show ¬ ((40 + 5 * m.toNat : Nat) : Int) < 0 by omega)] | rw [if_neg (show ¬ ((40 + 5 * m'.toNat : Nat) : Int) = 0 by omega)] | rw [if_neg (show ¬ ((40 + 5 * m'.toNat : Nat) : Int) < 0 by omega)] | rw [gF_g hch.1.1 _ (by decide)] | rw [gF_g hch'.1.1 _ (by decide)] | rw [b5] | rw [b5'])
      by_cases e : c 143 (24 + m).toNat = c 143 (24 + m').toNat
      · rw [if_pos e]
        repeat (first | rw [bnd_s] | rw [tI_m] | rw [tL_m] | rw [tA_m] | rw [tV_m] | rw [gF_g hch.1.1 _ (by decide)] | rw [b5] | rw [if_pos (show c 143 (24 + m).toNat = 0 from Decidable.not_not.mp (fun w => hb ⟨e, w⟩))] | rw [c142_31])
      · rw [if_neg e, c142_31]
    · rw [c267 (hg := gC142 hs c)]
      repeat (first | rw [bnd_s] | rw [tI_m] | rw [tL_m] | rw [tA_m] | rw [tV_m] | rw [T1] | rw [T2] | rw [T3] | rw [if_b0] | rw [cond_t] | rw [fC142 hs _ (by decide)] | rw [pC142 hs _ _ (by decide)] | rw [MS_0 hm] | rw [w32_id (z := 24 + m) (by omega) (by omega)] | rw [w32_id (z := 24 + m') (by omega) (by omega)] | rw [aC143 hs _ (show 0 ≤ 24 + m by omega) (by omega)] | rw [aC143 hs _ (show 0 ≤ 24 + m' by omega) (by omega)])
      by_cases e : c 143 (24 + m).toNat = c 143 (24 + m').toNat
      · rw [if_pos e]
        repeat (first | rw [bnd_s] | rw [tI_m] | rw [tL_m] | rw [tA_m] | rw [tV_m] | rw [fC142 hs _ (by decide)] | rw [pC142 hs _ _ (by decide)] | rw [MS_0 hm] | rw [w32_id (z := 24 + m) (by omega) (by omega)] | rw [aC143 hs _ (show 0 ≤ 24 + m by omega) (by omega)] | rw [if_pos (show c 143 (24 + m).toNat = 0 from Decidable.not_not.mp (fun w => hb ⟨e, w⟩))] | rw [c267_32])
      · rw [if_neg e, c267_32]
  obtain ⟨s1, c1, s2, c2, n3, A1, A2, A3, hI2, E3, E5, AC, AC'⟩ := two13 995 hI h1.1 h1.2 h2.1 h2.2
  have hs2 := hI2.1.l
  have hc2 := hI2.2.2.2.1
  have hm2 := hI2.2.2.1
  have hn2 := hI2.nM
  have ch2 := chN hs2 hc2 (m := m.toNat) (by omega)
  have ch2' := chN hs2 hc2 (m := m'.toNat) (by omega)
  have ll := ansL_len hM
  have ll' := ansL_len hM'
  have q15 := k15 997 ch2 AC (by omega) i
  have q15' := k15 997 ch2' AC' (by omega) j
  have T1 : Cd 998 221 [vA 142, vI k] (s2, c2) = some ([vI (b2i true)], (s2, c2)) := by rw [m221 _ hI2, E3, inR_t (by omega)]
  have T2 : Cd 998 173 [vA 142, vI m] (s2, c2) = some ([vI (b2i true)], (s2, c2)) := by rw [m173 _ hs2 hm2 hn2, E3, inR_t (by omega)]
  have T3 : Cd 998 173 [vA 142, vI m'] (s2, c2) = some ([vI (b2i true)], (s2, c2)) := by rw [m173 _ hs2 hm2 hn2, E3, inR_t (by omega)]
  have M2 : MapOK c2 m := MapOK_of hM E3
  have M2' : MapOK c2 m' := MapOK_of hM' E3
  obtain ⟨c3, y1, yf, yA⟩ := m183 995 hs2 hm2 M2
  rw [ansL_of E3] at yA
  have m3 : MS c3 := yf.ms hm2 (by decide)
  have e3 : c3 143 = c 143 := (yf.1 143 (by decide) (by decide)).trans E3
  have e6 := yA.1
  have e3m := congrFun e3 (24 + m).toNat
  have e3m' := congrFun e3 (24 + m').toNat
  have E3m := congrFun E3 (24 + m).toNat
  have E3m' := congrFun E3 (24 + m').toNat
  have kb := hM.2.2.1
  have MODEL0 : ∀ X, (if b2i (inR i 0 (((ansL c m).length : Int) - 1)) = 0 then some ([vI (-1)], (s2, c3)) else (gA (s2, c3) 0 (c3 142 5) i).bind fun x14 => ((Cd 998 183 [vA 142, vI m'] (s2, c3)).bind toV).bind fun q15 => (gF q15 12 6 142).bind fun x16 => ((Cd 998 172 [vI j, vI 0, vI (w32 (x16 - 1))] q15).bind toI).bind fun q17 => if q17.1 = 0 then some ([vI (-1)], q17.2) else (gF q17.2 12 5 142).bind fun x18 => (gA q17.2 0 x18 j).bind fun x19 => ((Cd 998 222 [vA 142, vI k] q17.2).bind toV).bind fun q20 => (pF q20 12 26 142 0).bind fun h21 => (gF h21 12 0 142).bind fun x22 => (gA h21 0 x22 (24 + m)).bind fun x23 => Rr (Cd 998) 267 87 [some (vA 142), some (vI k), some (vI m), some (vI i), some (vI m'), some (vI j), some (vI x14), some (vI x19), some (vI x23), some (vI 0), some (vI 0), none, none, none, none, none, none] [] h21) = X → Cd 999 267 [vA 142, vI k, vI m, vI i, vI m', vI j] (s2, c2) = X := fun X hX => by
    rw [c267 (hg := gC142 hs2 c2)]
    repeat (first | rw [bnd_s] | rw [tI_m] | rw [tL_m] | rw [tA_m] | rw [tV_m] | rw [T1] | rw [T2] | rw [T3] | rw [if_neg (show ¬ b2i true = 0 by decide)] | rw [fC142 hs2 _ (by decide)] | rw [pC142 hs2 _ _ (by decide)] | rw [MS_0 hm2] | rw [w32_id (z := 24 + m) (by omega) (by omega)] | rw [w32_id (z := 24 + m') (by omega) (by omega)] | rw [aC143 hs2 _ (show 0 ≤ 24 + m by omega) (by omega)] | rw [aC143 hs2 _ (show 0 ≤ 24 + m' by omega) (by omega)] | rw [E3m] | rw [E3m'] | rw [if_pos hb.1] | rw [if_neg hb.2] | rw [y1] | rw [e6] | rw [w32_id (z := ((ansL c m).length : Int) - 1) (by omega) (by omega)] | rw [m172])
    exact hX
  have CLASS0 : ∀ X, (if (if 0 ≤ i ∧ i < ((ansL c m).length : Int) then pkR ((ansL c m).getD i.toNat 0) (c 143 (20 + m).toNat) else -1) = -1 then some ([vI (-1)], (s2, c2)) else if (if 0 ≤ j ∧ j < ((ansL c m').length : Int) then pkR ((ansL c m').getD j.toNat 0) (c 143 (20 + m').toNat) else -1) = -1 then some ([vI (-1)], (s2, c2)) else (gF (s2, c2) 8 1 ((60 + 2 * k.toNat : Nat) : Int)).bind fun x14 => ((Cd 998 162 [vI x14] (s2, c2)).bind toI).bind fun q15 => ((Cd 998 154 [vA ((40 + 5 * m.toNat : Nat) : Int), vI (if 0 ≤ i ∧ i < ((ansL c m).length : Int) then pkR ((ansL c m).getD i.toNat 0) (c 143 (20 + m).toNat) else -1), vA ((40 + 5 * m'.toNat : Nat) : Int), vI (if 0 ≤ j ∧ j < ((ansL c m').length : Int) then pkR ((ansL c m').getD j.toNat 0) (c 143 (20 + m').toNat) else -1), vI q15.1] q15.2).bind toI).bind fun q16 => some ([vI q16.1], q16.2)) = X → Cd 999 142 [vA 29, vI k, vI m, vI i, vI m', vI j] (s, c) = X := fun X hX => by
    rw [c142 (hg := gC29 hs c)]
    repeat (first | rw [bnd_s] | rw [tI_m] | rw [tL_m] | rw [tA_m] | rw [tV_m] | rw [fC29 hs _ (by decide)] | rw [pC29 hs _ _ (by decide)] | rw [CS_29_0 hc] | rw [k114 _ hI] | rw [k113 _ hs hc h6 hn] | rw [if_pos hk] | rw [if_pos h1] | rw [if_pos h2] | rw [if_neg (show ¬ ((60 + 2 * k.toNat : Nat) : Int) = 0 by omega)] | rw [if_neg (show ¬ ((60 + 2 * k.toNat : Nat) : Int) < 0 by omega)] | rw [if_neg (show ¬ ((40 + 5 * m.toNat : Nat) : Int) = 0 by omega)] | rw [if_neg (show ¬ ((40 + 5 * m.toNat : Nat) : Int) < 0 by omega)] | rw [if_neg (show ¬ ((40 + 5 * m'.toNat : Nat) : Int) = 0 by omega)] | rw [if_neg (show ¬ ((40 + 5 * m'.toNat : Nat) : Int) < 0 by omega)] | rw [gF_g hch.1.1 _ (by decide)] | rw [gF_g hch'.1.1 _ (by decide)] | rw [b5] | rw [b5'] | rw [if_pos hb.1] | rw [if_neg hb.2] | rw [A1] | rw [A2] | rw [q15] | rw [q15'] | rw [c142_51])
    exact hX
  by_cases hi : 0 ≤ i ∧ i < (ansL c m).length
  case neg =>
    refine ⟨vI (-1), s2, s2, c2, c3, n3, CLASS0 _ ?_, MODEL0 _ ?_, A3, Inv_M hI2 yf (by decide)⟩
    · rw [if_neg hi, if_pos rfl]
    · rw [inR_f (by omega), if_pos (show b2i false = 0 from rfl)]
  have al := ansL_at hM (i := i.toNat) (by omega)
  have pk := (pk_ok hM.2.1.1 hM.2.1.2 al.1 al.2.1).1
  have e8 : c3 148 i.toNat = (ansL c m).getD i.toNat 0 := yA.2 i.toNat (by omega)
  obtain ⟨c4, z1, zf, zA⟩ := m183 995 hs2 m3 (MapOK_of hM' e3)
  rw [ansL_of e3] at zA
  have m4 : MS c4 := zf.ms m3 (by decide)
  have e4 : c4 143 = c 143 := (zf.1 143 (by decide) (by decide)).trans e3
  have z6 := zA.1
  have F4 : Fm [148] [6] c2 c4 := yf.tr zf
  by_cases hj : 0 ≤ j ∧ j < (ansL c m').length
  case neg =>
    refine ⟨vI (-1), s2, s2, c2, c4, n3, CLASS0 _ ?_, MODEL0 _ ?_, A3, Inv_M hI2 F4 (by decide)⟩
    · rw [if_pos hi, if_neg (by omega), if_neg hj, if_pos rfl]
    · rw [inR_t (by omega), if_neg (by decide)]
      repeat (first | rw [bnd_s] | rw [tI_m] | rw [tL_m] | rw [tA_m] | rw [tV_m] | rw [fC142 hs2 _ (by decide)] | rw [pC142 hs2 _ _ (by decide)] | rw [MS_5 m3] | rw [aC148 hs2 _ hi.1 (by omega)] | rw [z1] | rw [z6] | rw [w32_id (z := ((ansL c m').length : Int) - 1) (by omega) (by omega)] | rw [m172] | rw [inR_f (show ¬ (0 ≤ j ∧ j ≤ ((ansL c m').length : Int) - 1) by omega)] | rw [if_pos (show b2i false = 0 from rfl)])
  have al' := ansL_at hM' (i := j.toNat) (by omega)
  have pk' := (pk_ok hM'.2.1.1 hM'.2.1.2 al'.1 al'.2.1).1
  have e8' : c4 148 j.toNat = (ansL c m').getD j.toNat 0 := zA.2 j.toNat (by omega)
  have hI4 := Inv_M hI2 F4 (by decide)
  have e45 : c4 145 = c 145 := (F4.1 145 (by decide) (by decide)).trans E5
  obtain ⟨M1, -, q2, fS, S3, S5, sm, sM, -, kk, hco, -⟩ := both hI4 (k := k) (m := m) hk.1 (by rw [e4]; exact hk.2) h1.1 (by rw [e4]; exact h1.2)
  have hS := hI.sh hk.1 hk.2
  have hw := hS.2.1
  have z : ∃ b, b = u2 (mSet c4 k.toNat) 142 26 0 := ⟨_, rfl⟩
  obtain ⟨b, zb⟩ := z
  have bf : Fm [] [25, 26, 27, 28] c4 b := by rw [zb]; exact fS.f _ (by decide)
  have B3 : b 143 = c 143 := (bf.1 143 (by decide) (by decide)).trans e4
  have B5 : b 145 = c 145 := (bf.1 145 (by decide) (by decide)).trans e45
  have bm : MS b := zb ▸ MS_f sm _ (by decide)
  have mp : ∀ M, MapOK c M → MPV (txV (c 145) k.toNat (c 145 (800 * k.toNat + 1)) (c 145 (800 * k.toNat + 2)) 0 false) b k.toNat M := fun M hMM => by
    unfold MPV
    rw [txV_1, txV_2, txV_3]
    refine ⟨⟨bm, kk, Or.inl ⟨?_, by rw [B5]; exact hS.2.2.2.2.1, fun p q x y => by rw [jud_f, B5]⟩, trivial, MapOK_of hMM B3, by rw [zb, u2_e]⟩, by decide, ?_, hw, ?_, hS.2.2.1⟩
    · rw [zb, u2_n (by omega), mSet_27]
    · rw [zb, u2_n (by omega), mSet_25, e45]
    · rw [zb, u2_n (by omega), mSet_28, e45]
  obtain ⟨c5, wf, w1⟩ := m267_87 993 hs2 (mp m hM) (mp m' hM') (txV_1 _ _ _ _ _ _) (txV_3 _ _ _ _ _ _) (B := c 143 (24 + m).toNat) (by rw [B3]) (by rw [B3, hb.1]) (by rw [isA_of B3]; exact al.2.2.2) (by rw [isA_of B3]; exact al'.2.2.2) ⟨al.1, al.2.2.1⟩ ⟨al'.1, al'.2.2.1⟩ (some (vI k)) (some (vI i)) (some (vI j)) (c 143 (24 + m).toNat).toNat 0 0 b none none none none none none (by omega) (by omega) (by omega) (by omega) (Fm.rf _ _ _)
  have F5 : Fm [148, 157, 158] [6, 25, 26, 27, 28] c2 c5 := (F4.mono (by decide) (by decide)).tr ((bf.mono (by decide) (by decide)).tr (wf.mono (by decide) (by decide)))
  have q54 := k154_4 994 hI2 (m := m) (m' := m') h1.1 (by rw [E3]; exact h1.2) h2.1 (by rw [E3]; exact h2.2) hw (r := (ansL c m).getD i.toNat 0) (r' := (ansL c m').getD j.toNat 0) (by rw [isA_of E3]; exact al.2.2.2) al.1 (by rw [E3]; exact al.2.1) (by rw [isA_of E3]; exact al'.2.2.2) al'.1 (by rw [E3]; exact al'.2.1) (c 143 (24 + m).toNat).toNat 0 0 none none none (by omega) (by rw [E3]; omega) (by omega) (by omega)
  rw [E3, ← hb.1] at q54
  have sh1 : c2 (60 + 2 * k.toNat) 1 = c 145 (800 * k.toNat + 1) := by
    rw [(hI2.sh hk.1 (by rw [E3]; exact hk.2)).1.1, E5]
  have hsh : SH s2 c2 (60 + 2 * k.toNat) := ((SB_30 hs2 hc2).2.2.2.2 k.toNat (by omega)).2
  refine ⟨vI (0 + ((c 143 (24 + m).toNat).toNat : Int) * (c 143 (24 + m).toNat * (2 * c 145 (800 * k.toNat + 1) * (6 - c 145 (800 * k.toNat + 1))))), s2, s2, c2, c5, n3, CLASS0 _ ?_, MODEL0 _ ?_, A3, Inv_M hI2 F5 (by decide)⟩
  · rw [if_pos hi, if_neg (by omega), if_pos hj, if_neg (by omega)]
    repeat (first | rw [bnd_s] | rw [tI_m] | rw [tL_m] | rw [tA_m] | rw [tV_m] | rw [gF_g hsh.1.1 _ (by decide)] | rw [sh1] | rw [k162] | rw [c154] | rw [q54])
  · rw [inR_t (by omega), if_neg (by decide)]
    have b24 : b 143 (24 + m).toNat = c 143 (24 + m).toNat := by rw [B3]
    repeat (first | rw [bnd_s] | rw [tI_m] | rw [tL_m] | rw [tA_m] | rw [tV_m] | rw [fC142 hs2 _ (by decide)] | rw [pC142 hs2 _ _ (by decide)] | rw [MS_5 m3] | rw [aC148 hs2 _ hi.1 (by omega)] | rw [z1] | rw [z6] | rw [w32_id (z := ((ansL c m').length : Int) - 1) (by omega) (by omega)] | rw [m172] | rw [inR_t (show 0 ≤ j ∧ j ≤ ((ansL c m').length : Int) - 1 by omega)] | rw [if_neg (show ¬ b2i true = 0 by decide)] | rw [MS_5 m4] | rw [aC148 hs2 _ hj.1 (by omega)] | rw [e8] | rw [e8'] | rw [q2] | rw [← zb] | rw [MS_0 bm] | rw [w32_id (z := 24 + m) (by omega) (by omega)] | rw [aC143 hs2 _ (show 0 ≤ 24 + m by omega) (by omega)] | rw [b24])
    exact w1
