/-! the start: the class -/
def RdF (c : Nat → Nat → Int) (o : Nat) : Prop := (c o 0 = ((o + 1 : Nat) : Int) ∧ c o 1 = ((o + 2 : Nat) : Int) ∧ c o 2 = ((o + 3 : Nat) : Int) ∧ c o 3 = ((o + 4 : Nat) : Int) ∧ c o 4 = ((o + 5 : Nat) : Int)) ∧ (c o 5 = 0 ∧ c o 6 = -1 ∧ c o 7 = -1) ∧ c (o + 5) 0 = ((o + 6 : Nat) : Int) ∧ c (o + 5) 1 = ((o + 7 : Nat) : Int) ∧ c (o + 5) 2 = ((o + 8 : Nat) : Int)
def PyF (c : Nat → Nat → Int) (o : Nat) : Prop := c o 0 = ((o + 1 : Nat) : Int) ∧ c o 1 = ((o + 2 : Nat) : Int) ∧ c o 2 = ((o + 3 : Nat) : Int) ∧ c o 3 = ((o + 4 : Nat) : Int) ∧ c o 4 = ((o + 5 : Nat) : Int)
def ClF (c : Nat → Nat → Int) (o : Nat) : Prop := (c o 0 = ((o + 1 : Nat) : Int) ∧ c o 1 = ((o + 47 : Nat) : Int) ∧ c o 2 = ((o + 93 : Nat) : Int) ∧ c o 3 = ((o + 102 : Nat) : Int) ∧ c o 4 = ((o + 108 : Nat) : Int) ∧ c o 5 = ((o + 109 : Nat) : Int) ∧ c o 6 = ((o + 111 : Nat) : Int)) ∧ StF c (o + 1) ∧ StF c (o + 47) ∧ RdF c (o + 93) ∧ PyF c (o + 102) ∧ (∀ k, k < 49 → c (o + 108) k = 238) ∧ c (o + 109) 0 = ((o + 110 : Nat) : Int) ∧ c (o + 111) 0 = ((o + 112 : Nat) : Int)
/-- two are one, unseen -/
def Is (a b : Int) : Prop := a = b
theorem n44' (d : Nat) {s : List (Nat × Nat)} {c : Nat → Nat → Int} {o : Nat} (h0 : 0 < o) (h : s[o]? = some (4, 17)) (hl : s.length = o + 1) : ∃ c', Cd (d + 1) 44 [vA (o : Int)] (s, c) = some ([], (s ++ [(100, 21)] ++ [(100, 21)] ++ [(100, 21)] ++ [(100, 81)] ++ [(100, 189)], c')) ∧ (∀ i k, i < o → c' i k = c i k) ∧ PyF c' o := by
  obtain ⟨cD, rD, fD, p0, p1, p2, p3, p4, -⟩ := n44 d (c := c) h0 h hl
  exact ⟨cD, rD, fD, p0, p1, p2, p3, p4⟩
theorem n66' (d : Nat) {s : List (Nat × Nat)} {c : Nat → Nat → Int} {o : Nat} (h0 : 0 < o) (h : s[o]? = some (6, 14)) (hl : s.length = o + 1) (h5 : c o 5 = 0) : ∃ c', Cd (d + 2) 66 [vA (o : Int)] (s, c) = some ([], (s ++ rdB, c')) ∧ (∀ i k, i < o → c' i k = c i k) ∧ RdF c' o := by
  obtain ⟨cC, rC, fC, aC, bC, dC⟩ := n66 d (c := c) h0 h hl
  exact ⟨cC, rC, fC, aC, ⟨bC.1.trans h5, bC.2⟩, dC⟩
def clB : List (Nat × Nat) := stShp ++ (stShp ++ ((6, 14) :: rdB ++ [(4, 17), (100, 21), (100, 21), (100, 21), (100, 81), (100, 189), (100, 49), (5, 2), (100, 120), (5, 2), (100, 120)]))
theorem ClF_of {c c' : Nat → Nat → Int} {o : Nat} (h : ClF c o) (e : ∀ i k, i < o + 113 → o ≤ i → c' i k = c i k) : ClF c' o := by
  have E : ∀ i k, i < 113 → c' (o + i) k = c (o + i) k := fun i k hi => e _ _ (by omega) (by omega)
  have E0 : ∀ k, c' o k = c o k := fun k => e _ _ (by omega) (by omega)
  have E5 : ∀ k, c' (o + 93 + 5) k = c (o + 93 + 5) k := fun k => e _ _ (by omega) (by omega)
  have sA' := StF_of h.2.1 (fun i k h1 h2 => e i k (by omega) (by omega))
  have sB' := StF_of h.2.2.1 (fun i k h1 h2 => e i k (by omega) (by omega))
  obtain ⟨⟨a0, a1, a2, a3, a4, a5, a6⟩, sA, sB, ⟨⟨r0, r1, r2, r3, r4⟩, ⟨r5, r6, r7⟩, r8, r9, r10⟩, ⟨p0, p1, p2, p3, p4⟩, hk, w0, w1⟩ := h
  exact ⟨⟨by rw [E0]; exact a0, by rw [E0]; exact a1, by rw [E0]; exact a2, by rw [E0]; exact a3, by rw [E0]; exact a4, by rw [E0]; exact a5, by rw [E0]; exact a6⟩, sA', sB', ⟨⟨by rw [E 93 _ (by decide)]; exact r0, by rw [E 93 _ (by decide)]; exact r1, by rw [E 93 _ (by decide)]; exact r2, by rw [E 93 _ (by decide)]; exact r3, by rw [E 93 _ (by decide)]; exact r4⟩, ⟨by rw [E 93 _ (by decide)]; exact r5, by rw [E 93 _ (by decide)]; exact r6, by rw [E 93 _ (by decide)]; exact r7⟩, by rw [E5]; exact r8, by rw [E5]; exact r9, by rw [E5]; exact r10⟩, ⟨by rw [E 102 _ (by decide)]; exact p0, by rw [E 102 _ (by decide)]; exact p1, by rw [E 102 _ (by decide)]; exact p2, by rw [E 102 _ (by decide)]; exact p3, by rw [E 102 _ (by decide)]; exact p4⟩, fun k h => by rw [E 108 _ (by decide)]; exact hk k h, by rw [E 109 _ (by decide)]; exact w0, by rw [E 111 _ (by decide)]; exact w1⟩
set_option maxHeartbeats 4000000 in
theorem n116 (d : Nat) {s : List (Nat × Nat)} {c : Nat → Nat → Int} {o : Nat} (h0 : 0 < o) (h : s[o]? = some (11, 7)) (hl : s.length = o + 1) : ∃ c', Cd (d + 3) 116 [vA (o : Int)] (s, c) = some ([], (s ++ clB, c')) ∧ (∀ i k, i < o → c' i k = c i k) ∧ ClF c' o := by
  have qA : (s ++ [(10, 8)])[o + 1]? = some (10, 8) := at_e hl
  obtain ⟨cA, rA, fA, sA⟩ := n112 d (c := mkC c (o + 1) 10) (o := o + 1) (by omega) qA (by rw [List.length_append, hl]; rfl) (by rw [mkC_e]; rfl) (by rw [mkC_e]; rfl)
  obtain ⟨SA, eA⟩ : ∃ S, S = s ++ [(10, 8)] ++ stShp.tail := ⟨_, rfl⟩
  have lA : SA.length = o + 47 := by rw [eA, List.length_append, List.length_append, hl]; rfl
  have hA : SA[o]? = some (11, 7) := by rw [eA]; exact ap (ap h)
  rw [← eA] at rA
  have gA : ∀ i k, i < o + 1 → cA i k = c i k := fun i k hi => by rw [fA i k hi, mkC_n (by omega)]
  -- the second state
  have qB : (SA ++ [(10, 8)])[o + 47]? = some (10, 8) := at_e lA
  obtain ⟨cB, rB, fB, sB⟩ := n112 d (c := mkC (u2 cA o 0 ((o + 1 : Nat) : Int)) (o + 47) 10) (o := o + 47) (by omega) qB (by rw [List.length_append, lA]; rfl) (by rw [mkC_e]; rfl) (by rw [mkC_e]; rfl)
  obtain ⟨SB, eB⟩ : ∃ S, S = SA ++ [(10, 8)] ++ stShp.tail := ⟨_, rfl⟩
  have lB : SB.length = o + 93 := by rw [eB, List.length_append, List.length_append, lA]; rfl
  have hB : SB[o]? = some (11, 7) := by rw [eB]; exact ap (ap hA)
  rw [← eB] at rB
  have gB : ∀ i k, i < o + 47 → ¬ (i = o ∧ k = 0) → cB i k = cA i k := fun i k hi hn => by rw [fB i k hi, mkC_n (by omega), u2_n hn]
  have xB : Is (cB o 0) (((o + 1 : Nat) : Int)) := by show _ = _; rw [fB _ _ (by omega), mkC_n (by omega), u2_e]
  -- the reader
  have qC : (SB ++ [(6, 14)])[o + 93]? = some (6, 14) := at_e lB
  obtain ⟨cC, rC, fC, rdC⟩ := n66' d (c := mkC (u2 cB o 1 ((o + 47 : Nat) : Int)) (o + 93) 6) (o := o + 93) (by omega) qC (by rw [List.length_append, lB]; rfl) (by rw [mkC_e]; rfl)
  obtain ⟨SC, eC⟩ : ∃ S, S = SB ++ [(6, 14)] ++ rdB := ⟨_, rfl⟩
  have lC : SC.length = o + 102 := by rw [eC, List.length_append, List.length_append, lB]; rfl
  have hC : SC[o]? = some (11, 7) := by rw [eC]; exact ap (ap hB)
  rw [← eC] at rC
  have gC : ∀ i k, i < o + 93 → ¬ (i = o ∧ k = 1) → cC i k = cB i k := fun i k hi hn => by rw [fC i k hi, mkC_n (by omega), u2_n hn]
  have xC : Is (cC o 1) (((o + 47 : Nat) : Int)) := by show _ = _; rw [fC _ _ (by omega), mkC_n (by omega), u2_e]
  -- the play
  have qD : (SC ++ [(4, 17)])[o + 102]? = some (4, 17) := at_e lC
  obtain ⟨cD, rD, fD, plD⟩ := n44' (d + 1) (c := mkC (u2 cC o 2 ((o + 93 : Nat) : Int)) (o + 102) 4) (o := o + 102) (by omega) qD (by rw [List.length_append, lC]; rfl)
  obtain ⟨SD, eD⟩ : ∃ S, S = SC ++ [(4, 17)] ++ [(100, 21)] ++ [(100, 21)] ++ [(100, 21)] ++ [(100, 81)] ++ [(100, 189)] := ⟨_, rfl⟩
  have lD : SD.length = o + 108 := by rw [eD]; simp only [List.length_append, List.length_cons, List.length_nil, lC]
  have hD : SD[o]? = some (11, 7) := by rw [eD]; exact ap (ap (ap (ap (ap (ap hC)))))
  rw [← eD] at rD
  have gD : ∀ i k, i < o + 102 → ¬ (i = o ∧ k = 2) → cD i k = cC i k := fun i k hi hn => by rw [fD i k hi, mkC_n (by omega), u2_n hn]
  have xD : Is (cD o 2) (((o + 93 : Nat) : Int)) := by show _ = _; rw [fD _ _ (by omega), mkC_n (by omega), u2_e]
  -- the row of all
  obtain ⟨cE, rE, fE, xE, -⟩ := al (c := u2 cD o 3 ((o + 102 : Nat) : Int)) (t := 100) (n := 49) (k := 4) hD lD (by decide) (by omega)
  have xE : Is (cE o 4) ((o + 108 : Nat) : Int) := xE
  have gE : ∀ i k, i < o + 108 → ¬ (i = o ∧ (k = 3 ∨ k = 4)) → cE i k = cD i k := fun i k hi hn => by rw [fE i k hi (by omega), u2_n (by omega)]
  have yE : Is (cE o 3) (((o + 102 : Nat) : Int)) := by show _ = _; rw [fE _ _ (by omega) (by omega), u2_e]
  obtain ⟨SE, eE⟩ : ∃ S, S = SD ++ [(100, 49)] := ⟨_, rfl⟩
  have lE : SE.length = o + 109 := by rw [eE, List.length_append, lD]; rfl
  have hE : SE[o]? = some (11, 7) := by rw [eE]; exact ap hD
  have kE : SE[o + 108]? = some (100, 49) := by rw [eE]; exact at_e lD
  rw [← eE] at rE
  obtain ⟨cF, rF, gF', kF⟩ := n116_28 (d + 2) hE kE (by omega) 49 0 cE (by omega) (show _ = _ from xE) (fun k hk => by omega)
  have rF0 : Rr (Cd (d + 2)) 116 28 [some (vA (o : Int)), some (vI 0)] [] (SE, cE) = _ := rF
  -- the two powers
  have qG : (SE ++ [(5, 2)])[o + 109]? = some (5, 2) := at_e lE
  obtain ⟨cG, rG, fG, xG, -⟩ := n62 (d + 1) (c := mkC cF (o + 109) 5) (o := o + 109) (by omega) qG (by rw [List.length_append, lE]; rfl)
  have xG : Is (cG (o + 109) 0) ((o + 109 + 1 : Nat) : Int) := xG
  obtain ⟨SG, eG⟩ : ∃ S, S = SE ++ [(5, 2)] ++ [(100, 120)] := ⟨_, rfl⟩
  have lG : SG.length = o + 111 := by rw [eG, List.length_append, List.length_append, lE]; rfl
  have hG : SG[o]? = some (11, 7) := by rw [eG]; exact ap (ap hE)
  rw [← eG] at rG
  have gG : ∀ i k, i < o + 109 → cG i k = cF i k := fun i k hi => by rw [fG i k hi, mkC_n (by omega)]
  have qH : (SG ++ [(5, 2)])[o + 111]? = some (5, 2) := at_e lG
  obtain ⟨cH, rH, fH, xH, -⟩ := n62 (d + 1) (c := mkC (u2 cG o 5 ((o + 109 : Nat) : Int)) (o + 111) 5) (o := o + 111) (by omega) qH (by rw [List.length_append, lG]; rfl)
  have xH : Is (cH (o + 111) 0) ((o + 111 + 1 : Nat) : Int) := xH
  obtain ⟨SH, eH⟩ : ∃ S, S = SG ++ [(5, 2)] ++ [(100, 120)] := ⟨_, rfl⟩
  have hH : SH[o]? = some (11, 7) := by rw [eH]; exact ap (ap hG)
  rw [← eH] at rH
  have gH : ∀ i k, i < o + 111 → ¬ (i = o ∧ k = 5) → cH i k = cG i k := fun i k hi hn => by rw [fH i k hi, mkC_n (by omega), u2_n hn]
  have yH : Is (cH o 5) (((o + 109 : Nat) : Int)) := by show _ = _; rw [fH _ _ (by omega), mkC_n (by omega), u2_e]
  obtain ⟨cZ, zZ⟩ : ∃ cZ, cZ = u2 cH o 6 ((o + 111 : Nat) : Int) := ⟨_, rfl⟩
  have gZ : ∀ i k, ¬ (i = o ∧ k = 6) → cZ i k = cH i k := fun i k hn => by rw [zZ, u2_n hn]
  -- from the end back
  have bF : ∀ i k, i < o + 109 → ¬ (i = o ∧ (k = 5 ∨ k = 6)) → cZ i k = cF i k := fun i k hi hn => by rw [gZ i k (by omega), gH i k (by omega) (by omega), gG i k hi]
  have bD : ∀ i k, i < o + 108 → ¬ (i = o ∧ 3 ≤ k ∧ k ≤ 6) → cZ i k = cD i k := fun i k hi hn => by rw [bF i k (by omega) (by omega), gF' i k (by omega), gE i k hi (by omega)]
  have bC' : ∀ i k, i < o + 102 → ¬ (i = o ∧ 2 ≤ k ∧ k ≤ 6) → cZ i k = cC i k := fun i k hi hn => by rw [bD i k (by omega) (by omega), gD i k hi (by omega)]
  have bB : ∀ i k, i < o + 93 → ¬ (i = o ∧ 1 ≤ k ∧ k ≤ 6) → cZ i k = cB i k := fun i k hi hn => by rw [bC' i k (by omega) (by omega), gC i k hi (by omega)]
  have bA : ∀ i k, i < o + 47 → ¬ (i = o ∧ k ≤ 6) → cZ i k = cA i k := fun i k hi hn => by rw [bB i k (by omega) (by omega), gB i k hi (by omega)]
  refine ⟨cZ, ?_, fun i k hi => by rw [bA i k (by omega) (by omega), gA i k (by omega)], ⟨?_, ?_, ?_, ?_, ?_, ?_, ?_⟩, ?_, ?_, ?_, ?_, ?_, ?_, ?_⟩
  · have sh : s ++ clB = SH := by
      rw [eH, eG, eE, eD, eC, eB, eA]
      simp [clB, stShp, rdB]
    rw [sh, c116 (d + 2) (hg := (gS_p s c o).trans h), if_pos ⟨by omega, by decide⟩]
    dsimp only
    rw [mk_p, hl, rA, bnd_s, tV_m, bnd_s, pF_g hA _ _ (by decide), bnd_s]
    dsimp only
    rw [mk_p, lA, rB, bnd_s, tV_m, bnd_s, pF_g hB _ _ (by decide), bnd_s]
    dsimp only
    rw [mk_p, lB, rC, bnd_s, tV_m, bnd_s, pF_g hC _ _ (by decide), bnd_s]
    dsimp only
    rw [mk_p, lC, rD, bnd_s, tV_m, bnd_s, pF_g hD _ _ (by decide), bnd_s]
    dsimp only
    rw [rE, bnd_s, rF0, c116_28, gF_g hE _ (by decide), bnd_s, gF' o 4 (by omega), (show cE o 4 = ((o + 108 : Nat) : Int) from xE), gL_g kE (by decide), bnd_s, if_neg (by decide)]
    dsimp only
    rw [mk_p, lE, rG, bnd_s, tV_m, bnd_s, pF_g hG _ _ (by decide), bnd_s]
    dsimp only
    rw [mk_p, lG, rH, bnd_s, tV_m, bnd_s, pF_g hH _ _ (by decide), bnd_s, ← zZ]
  · rw [bB _ _ (by omega) (by omega)]; exact xB
  · rw [bC' _ _ (by omega) (by omega)]; exact xC
  · rw [bD _ _ (by omega) (by omega)]; exact xD
  · rw [bF _ _ (by omega) (by omega), gF' _ _ (by omega)]; exact yE
  · rw [bF _ _ (by omega) (by omega), gF' _ _ (by omega)]; exact xE
  · rw [gZ _ _ (by omega)]; exact yH
  · rw [zZ, u2_e]
  · exact StF_of sA (fun i k h1 h2 => bA i k (by omega) (by omega))
  · exact StF_of sB (fun i k h1 h2 => bB i k (by omega) (by omega))
  · have E : ∀ i k, i < o + 102 → o < i → cZ i k = cC i k := fun i k h1 h2 => bC' i k h1 (by omega)
    obtain ⟨⟨r0, r1, r2, r3, r4⟩, ⟨r5, r6, r7⟩, r8, r9, r10⟩ := rdC
    exact ⟨⟨by rw [E _ _ (by omega) (by omega)]; exact r0, by rw [E _ _ (by omega) (by omega)]; exact r1, by rw [E _ _ (by omega) (by omega)]; exact r2, by rw [E _ _ (by omega) (by omega)]; exact r3, by rw [E _ _ (by omega) (by omega)]; exact r4⟩, ⟨by rw [E _ _ (by omega) (by omega)]; exact r5, by rw [E _ _ (by omega) (by omega)]; exact r6, by rw [E _ _ (by omega) (by omega)]; exact r7⟩, by rw [E _ _ (by omega) (by omega)]; exact r8, by rw [E _ _ (by omega) (by omega)]; exact r9, by rw [E _ _ (by omega) (by omega)]; exact r10⟩
  · obtain ⟨r0, r1, r2, r3, r4⟩ := plD
    have E : ∀ k, cZ (o + 102) k = cD (o + 102) k := fun k => bD _ k (by omega) (by omega)
    exact ⟨by rw [E]; exact r0, by rw [E]; exact r1, by rw [E]; exact r2, by rw [E]; exact r3, by rw [E]; exact r4⟩
  · intro k hk
    rw [bF _ _ (by omega) (by omega)]; exact kF k hk
  · rw [gZ _ _ (by omega), gH _ _ (by omega) (by omega)]; exact xG
  · rw [gZ _ _ (by omega)]; exact xH
