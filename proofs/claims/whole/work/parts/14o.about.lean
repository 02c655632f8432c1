/-! about -/
theorem k114 (d : Nat) {s : List (Nat × Nat)} {c : Nat → Nat → Int} {n : Nat} (hI : Inv s c n) (k : Int) : Cd (d + 1) 114 [vA 30, vI k] (s, c) = some ([vA (if 0 ≤ k ∧ k < c 143 1 then ((60 + 2 * k.toNat : Nat) : Int) else -1)], (s, c)) := by
  have hs := hI.1.l
  have hc := hI.2.2.2.1
  obtain ⟨h7, a7, a8⟩ := hI.2.2.2.2.1.2.2.2.1
  rw [c114 (hg := gC30 hs c)]
  by_cases h : k < 0
  · rw [if_pos h, c114_11, c114_12, if_neg (by decide), if_neg (by omega)]
  · rw [if_neg h, fC30 hs _ (by decide), bnd_s, h7]
    by_cases h2 : k < c 143 1
    · rw [if_pos h2, fC30 hs _ (by decide), bnd_s, CS_30_1 hc, rC32 hs _ (by omega) (by omega), bnd_s, CS_32 hc (by omega), c114_12, if_neg (by omega), if_pos (by omega)]
    · rw [if_neg h2, c114_11, c114_12, if_neg (by decide), if_neg (by omega)]
theorem m221 (d : Nat) {s : List (Nat × Nat)} {c : Nat → Nat → Int} {n : Nat} (hI : Inv s c n) (k : Int) : Cd (d + 2) 221 [vA 142, vI k] (s, c) = some ([vI (b2i (inR k 0 (c 143 1 - 1)))], (s, c)) := by
  have hs := hI.1.l
  have hm := hI.2.2.1
  obtain ⟨h7, a7, a8⟩ := hI.2.2.2.2.1.2.2.2.1
  rw [c221 (hg := gC142 hs c)]
  repeat (first | rw [bnd_s] | rw [tI_m] | rw [tL_m] | rw [tA_m] | rw [tV_m] | rw [fC142 hs _ (by decide)] | rw [pC142 hs _ _ (by decide)] | rw [MS_0 hm] | rw [MS_1 hm] | rw [MS_2 hm] | rw [MS_3 hm] | rw [MS_4 hm] | rw [MS_5 hm] | rw [MS_7 hm] | rw [MS_8 hm] | rw [MS_21 hm] | rw [MS_29 hm] | rw [MS_30 hm] | rw [MS_31 hm] | rw [MS_37 hm] | rw [MS_38 hm] | rw [MS_39 hm] | rw [MS_40 hm] | rw [aC143 hs _ (show 0 ≤ (0 : Int) by decide) (by decide)] | rw [aC143 hs _ (show 0 ≤ (1 : Int) by decide) (by decide)] | rw [aC143 hs _ (show 0 ≤ (2 : Int) by decide) (by decide)] | rw [aC143 hs _ (show 0 ≤ (3 : Int) by decide) (by decide)] | rw [show (0 : Int).toNat = 0 from rfl] | rw [show (1 : Int).toNat = 1 from rfl] | rw [show (2 : Int).toNat = 2 from rfl] | rw [show (3 : Int).toNat = 3 from rfl] | rw [w32_id (z := c 143 1 - 1) (by omega) (by omega)] | rw [m172] | rw [if_pos (b2i_o _)])
def nzOk : Bool := (List.range 128).all fun x => decide (x = 0) || ((List.range 7).any fun l => bt (x : Nat) (l : Nat))
theorem nzOk_ok : nzOk = true := by decide +kernel
theorem bt_z (k : Int) : bt 0 k = false := by unfold bt; simp
theorem anyU_t {f : Int → Bool} : ∀ (n : Nat) (j : Int), anyU f n j = true ↔ ∃ i, j ≤ i ∧ i < j + n ∧ f i = true
  | 0, j => by simp only [anyU]; exact ⟨fun h => absurd h (by decide), fun ⟨i, h1, h2, _⟩ => by omega⟩
  | n + 1, j => by
    simp only [anyU, Bool.or_eq_true]
    rw [anyU_t n (j + 1)]
    constructor
    · rintro (h | ⟨i, h1, h2, h3⟩)
      · exact ⟨j, by omega, by omega, h⟩
      · exact ⟨i, by omega, by omega, h3⟩
    · rintro ⟨i, h1, h2, h3⟩
      by_cases q : i = j
      · exact Or.inl (q ▸ h3)
      · exact Or.inr ⟨i, by omega, by omega, h3⟩
theorem nz {x : Int} (h0 : 0 ≤ x) (h1 : x < 128) : decide (x ≠ 0) = anyU (bt x) 7 0 := by
  rw [Bool.eq_iff_iff, anyU_t, decide_eq_true_eq]
  constructor
  · intro h
    have g := List.all_eq_true.mp nzOk_ok x.toNat (List.mem_range.mpr (by omega))
    rw [decide_eq_false (by omega), Bool.false_or, List.any_eq_true] at g
    obtain ⟨l, hl, g⟩ := g
    rw [Int.toNat_of_nonneg h0] at g
    have := List.mem_range.mp hl
    exact ⟨l, by omega, by omega, g⟩
  · rintro ⟨i, -, -, h⟩ rfl
    rw [bt_z] at h; cases h
def sawN (c : Nat → Nat → Int) (L : Nat) (n : Int) : Bool := anyU (fun l => decide (0 ≤ c 143 (150 + 7 * n + l).toNat)) L 0
theorem m248_2 (d : Nat) {s : List (Nat × Nat)} {c : Nat → Nat → Int} (hs : SpL s) (hm : MS c) {x : Int} (hx : 0 ≤ x) (hx2 : x < 20) {L : Int} (hL : L ≤ 7) : ∀ (n : Nat) (j : Int), 0 ≤ j → j + n = L → Rr (Cd d) 248 2 [some (vA 142), some (vI x), some (vI L), some (vI j)] [] (s, c) = some ([vI (b2i (anyU (fun l => decide (0 ≤ c 143 (150 + 7 * x + l).toNat)) n j))], (s, c))
  | 0, j, h0, h => by rw [c248_2, if_neg (by omega)]; rfl
  | n + 1, j, h0, h => by
    have ih := m248_2 d hs hm hx hx2 hL n (j + 1) (by omega) (by omega)
    rw [c248_2, if_pos (by omega)]
    repeat (first | rw [bnd_s] | rw [tI_m] | rw [tL_m] | rw [tA_m] | rw [tV_m] | rw [fC142 hs _ (by decide)] | rw [pC142 hs _ _ (by decide)] | rw [MS_0 hm] | rw [MS_1 hm] | rw [MS_2 hm] | rw [MS_3 hm] | rw [MS_4 hm] | rw [MS_5 hm] | rw [MS_7 hm] | rw [MS_8 hm] | rw [MS_21 hm] | rw [MS_29 hm] | rw [MS_30 hm] | rw [MS_31 hm] | rw [MS_37 hm] | rw [MS_38 hm] | rw [MS_39 hm] | rw [MS_40 hm] | rw [w32_id (z := 7 * x) (by omega) (by omega)] | rw [w32_id (z := 150 + 7 * x) (by omega) (by omega)] | rw [w32_id (z := 150 + 7 * x + j) (by omega) (by omega)] | rw [aC143 hs _ (show 0 ≤ 150 + 7 * x + j by omega) (by omega)])
    simp only [anyU]
    by_cases g : c 143 (150 + 7 * x + j).toNat < 0
    · rw [if_pos g, decide_eq_false (by omega), w32_id (by omega) (by omega), ih]; rfl
    · rw [if_neg g, decide_eq_true (by omega)]; rfl
theorem m248 (d : Nat) {s : List (Nat × Nat)} {c : Nat → Nat → Int} (hs : SpL s) (hm : MS c) {x : Int} (hx : 0 ≤ x) (hx2 : x < 20) {L : Int} (hL : 0 ≤ L) (hL2 : L ≤ 7) : Cd (d + 1) 248 [vA 142, vI x, vI L] (s, c) = some ([vI (b2i (sawN c L.toNat x))], (s, c)) := by
  rw [c248 (hg := gC142 hs c), m248_2 d hs hm hx hx2 hL2 L.toNat 0 (by omega) (by omega)]; rfl
theorem k109_4 (d : Nat) {s : List (Nat × Nat)} {c : Nat → Nat → Int} (hs : SpL s) (hc : CS c) (ha : SeeRel (c 143) c 30) : ∀ (n : Nat) (j a : Int), 0 ≤ j → j + n = 20 → 0 ≤ a → a ≤ j → Rr (Cd (d + 1)) 109 4 [some (vA 33), some (vI a), some (vI j)] [] (s, c) = some ([vI (a + sumU (fun x => b2i (sawN c 7 x)) n j)], (s, c))
  | 0, j, a, h0, h, h1, h2 => by rw [c109_4, if_neg (by omega)]; simp [sumU]
  | n + 1, j, a, h0, h, h1, h2 => by
    have ih0 := k109_4 d hs hc ha n (j + 1) a (by omega) (by omega) (by omega) (by omega)
    have ih1 := k109_4 d hs hc ha n (j + 1) (a + 1) (by omega) (by omega) (by omega) (by omega)
    have b0 : 0 ≤ c 34 j.toNat ∧ c 34 j.toNat < 128 := (ha j 0 h0 (by omega) (by decide) (by decide)).1
    have e : sawN c 7 j = decide (c 34 j.toNat ≠ 0) := by
      rw [nz b0.1 b0.2]; unfold sawN
      rw [Bool.eq_iff_iff, anyU_t, anyU_t]
      constructor
      · rintro ⟨i, g1, g2, g3⟩
        have : bt (c 34 j.toNat) i = _ := (ha j i h0 (by omega) (by omega) (by omega)).2.2.1
        exact ⟨i, g1, g2, this.trans g3⟩
      · rintro ⟨i, g1, g2, g3⟩
        have : bt (c 34 j.toNat) i = _ := (ha j i h0 (by omega) (by omega) (by omega)).2.2.1
        exact ⟨i, g1, g2, this.symm.trans g3⟩
    rw [c109_4, if_pos (by omega)]
    repeat (first | rw [bnd_s] | rw [tI_m] | rw [tL_m] | rw [tA_m] | rw [tV_m] | rw [fC33 hs _ (by decide)] | rw [pC33 hs _ _ (by decide)] | rw [CS_33_0 hc] | rw [aC34 hs _ h0 (by omega)])
    simp only [sumU]
    rw [e]
    by_cases g : c 34 j.toNat = 0
    · rw [if_pos g, decide_eq_false (by simpa using g), c109_16, show (0 : Int) = b2i false from rfl, k159]
      repeat (first | rw [bnd_s] | rw [tI_m] | rw [tL_m] | rw [tA_m] | rw [tV_m] | rw [b2i_f] | rw [Int.add_zero] | rw [Int.zero_add] | rw [w32_id (z := a) (by omega) (by omega)] | rw [w32_id (z := j + 1) (by omega) (by omega)] | rw [ih0])
    · rw [if_neg g, decide_eq_true g, c109_16, show (1 : Int) = b2i true from rfl, k159]
      repeat (first | rw [bnd_s] | rw [tI_m] | rw [tL_m] | rw [tA_m] | rw [tV_m] | rw [b2i_t] | rw [w32_id (z := a + 1) (by omega) (by omega)] | rw [w32_id (z := j + 1) (by omega) (by omega)] | rw [ih1] | rw [Int.add_assoc])
theorem m281_4 (d : Nat) {s : List (Nat × Nat)} {c : Nat → Nat → Int} (hs : SpL s) (hm : MS c) : ∀ (n : Nat) (j a : Int), 0 ≤ j → j + n = 20 → 0 ≤ a → a ≤ j → Rr (Cd (d + 1)) 281 4 [some (vA 142), some (vI a), some (vI j)] [] (s, c) = some ([vI (a + sumU (fun x => b2i (sawN c 7 x)) n j)], (s, c))
  | 0, j, a, h0, h, h1, h2 => by rw [c281_4, if_neg (by omega)]; simp [sumU]
  | n + 1, j, a, h0, h, h1, h2 => by
    have ih0 := m281_4 d hs hm n (j + 1) a (by omega) (by omega) (by omega) (by omega)
    have ih1 := m281_4 d hs hm n (j + 1) (a + 1) (by omega) (by omega) (by omega) (by omega)
    rw [c281_4, if_pos (by omega)]
    repeat (first | rw [bnd_s] | rw [tI_m] | rw [tL_m] | rw [tA_m] | rw [tV_m] | rw [m248 _ hs hm h0 (by omega) (show (0 : Int) ≤ 7 by decide) (by decide)] | rw [show (7 : Int).toNat = 7 from rfl] | rw [if_b0])
    simp only [sumU]
    cases sawN c 7 j
    · rw [cond_f, c281_16, b2i_f, Int.zero_add, Int.add_zero, w32_id (z := a) (by omega) (by omega), w32_id (z := j + 1) (by omega) (by omega), ih0]
    · rw [cond_t, c281_16, b2i_t, w32_id (z := a + 1) (by omega) (by omega), w32_id (z := j + 1) (by omega) (by omega), ih1, Int.add_assoc]
theorem op_about (v : Int) : Op 149 282 [vI v] := by
  intro s c n hI
  have hs := hI.1.l
  have hc := hI.2.2.2.1
  have hm := hI.2.2.1
  have hn := hI.nM
  have n2 := hn.2
  have n1 := hn.1
  obtain ⟨h7, a7, a8⟩ := hI.2.2.2.2.1.2.2.2.1
  have h6 := hI.2.2.2.2.1.1.1
  obtain ⟨b0, b1, b2, b3⟩ := hI.2.2.2.2.2.2.2.2.2
  obtain ⟨a10, a11, a12, a13⟩ := hI.2.2.2.2.1.2.2.2.2.2
  have c38 : c 38 1 = c 143 3 ∧ c 38 2 = c 143 2 := a13.1
  by_cases h0 : v = 0
  · subst h0
    refine ⟨vI (c 143 0), s, s, c, c, n, ?_, ?_, by omega, hI⟩
    · rw [c149 (hg := gC29 hs c)]
      repeat (first | rw [bnd_s] | rw [tI_m] | rw [tL_m] | rw [tA_m] | rw [tV_m] | rw [fC29 hs _ (by decide)] | rw [pC29 hs _ _ (by decide)] | rw [fC30 hs _ (by decide)] | rw [pC30 hs _ _ (by decide)] | rw [fC38 hs _ (by decide)] | rw [pC38 hs _ _ (by decide)] | rw [fC122 hs _ (by decide)] | rw [pC122 hs _ _ (by decide)] | rw [CS_29_0 hc] | rw [CS_29_2 hc] | rw [CS_30_5 hc] | rw [CS_30_2 hc] | rw [h7] | rw [h6] | rw [b0.1] | rw [c38.1] | rw [c38.2] | rw [if_pos (show (0 : Int) = 0 from rfl)] | rw [if_neg (show ¬ (0 : Int) = 1 by decide)] | rw [if_neg (show ¬ (0 : Int) = 2 by decide)] | rw [if_neg (show ¬ (0 : Int) = 3 by decide)] | rw [if_neg (show ¬ (0 : Int) = 4 by decide)] | rw [if_neg (show ¬ (0 : Int) = 5 by decide)])
    · rw [c282 (hg := gC142 hs c)]
      repeat (first | rw [bnd_s] | rw [tI_m] | rw [tL_m] | rw [tA_m] | rw [tV_m] | rw [fC142 hs _ (by decide)] | rw [pC142 hs _ _ (by decide)] | rw [MS_0 hm] | rw [MS_1 hm] | rw [MS_2 hm] | rw [MS_3 hm] | rw [MS_4 hm] | rw [MS_5 hm] | rw [MS_7 hm] | rw [MS_8 hm] | rw [MS_21 hm] | rw [MS_29 hm] | rw [MS_30 hm] | rw [MS_31 hm] | rw [MS_37 hm] | rw [MS_38 hm] | rw [MS_39 hm] | rw [MS_40 hm] | rw [aC143 hs _ (show 0 ≤ (0 : Int) by decide) (by decide)] | rw [aC143 hs _ (show 0 ≤ (1 : Int) by decide) (by decide)] | rw [aC143 hs _ (show 0 ≤ (2 : Int) by decide) (by decide)] | rw [aC143 hs _ (show 0 ≤ (3 : Int) by decide) (by decide)] | rw [show (0 : Int).toNat = 0 from rfl] | rw [show (1 : Int).toNat = 1 from rfl] | rw [show (2 : Int).toNat = 2 from rfl] | rw [show (3 : Int).toNat = 3 from rfl] | rw [m172] | rw [if_b0] | rw [inR_f (show ¬ ((10 : Int) ≤ 0 ∧ (0 : Int) ≤ 13) by decide)] | rw [inR_f (show ¬ ((20 : Int) ≤ 0 ∧ (0 : Int) ≤ 23) by decide)] | rw [inR_f (show ¬ ((30 : Int) ≤ 0 ∧ (0 : Int) ≤ 57) by decide)] | rw [cond_f] | rw [if_pos (show (0 : Int) = 0 from rfl)] | rw [if_neg (show ¬ (0 : Int) = 1 by decide)] | rw [if_neg (show ¬ (0 : Int) = 2 by decide)] | rw [if_neg (show ¬ (0 : Int) = 3 by decide)] | rw [if_neg (show ¬ (0 : Int) = 4 by decide)] | rw [if_neg (show ¬ (0 : Int) = 5 by decide)])
  by_cases h1 : v = 1
  · subst h1
    refine ⟨vI (c 143 1), s, s, c, c, n, ?_, ?_, by omega, hI⟩
    · rw [c149 (hg := gC29 hs c)]
      repeat (first | rw [bnd_s] | rw [tI_m] | rw [tL_m] | rw [tA_m] | rw [tV_m] | rw [fC29 hs _ (by decide)] | rw [pC29 hs _ _ (by decide)] | rw [fC30 hs _ (by decide)] | rw [pC30 hs _ _ (by decide)] | rw [fC38 hs _ (by decide)] | rw [pC38 hs _ _ (by decide)] | rw [fC122 hs _ (by decide)] | rw [pC122 hs _ _ (by decide)] | rw [CS_29_0 hc] | rw [CS_29_2 hc] | rw [CS_30_5 hc] | rw [CS_30_2 hc] | rw [h7] | rw [h6] | rw [b0.1] | rw [c38.1] | rw [c38.2] | rw [if_pos (show (1 : Int) = 1 from rfl)] | rw [if_neg (show ¬ (1 : Int) = 0 by decide)] | rw [if_neg (show ¬ (1 : Int) = 2 by decide)] | rw [if_neg (show ¬ (1 : Int) = 3 by decide)] | rw [if_neg (show ¬ (1 : Int) = 4 by decide)] | rw [if_neg (show ¬ (1 : Int) = 5 by decide)])
    · rw [c282 (hg := gC142 hs c)]
      repeat (first | rw [bnd_s] | rw [tI_m] | rw [tL_m] | rw [tA_m] | rw [tV_m] | rw [fC142 hs _ (by decide)] | rw [pC142 hs _ _ (by decide)] | rw [MS_0 hm] | rw [MS_1 hm] | rw [MS_2 hm] | rw [MS_3 hm] | rw [MS_4 hm] | rw [MS_5 hm] | rw [MS_7 hm] | rw [MS_8 hm] | rw [MS_21 hm] | rw [MS_29 hm] | rw [MS_30 hm] | rw [MS_31 hm] | rw [MS_37 hm] | rw [MS_38 hm] | rw [MS_39 hm] | rw [MS_40 hm] | rw [aC143 hs _ (show 0 ≤ (0 : Int) by decide) (by decide)] | rw [aC143 hs _ (show 0 ≤ (1 : Int) by decide) (by decide)] | rw [aC143 hs _ (show 0 ≤ (2 : Int) by decide) (by decide)] | rw [aC143 hs _ (show 0 ≤ (3 : Int) by decide) (by decide)] | rw [show (0 : Int).toNat = 0 from rfl] | rw [show (1 : Int).toNat = 1 from rfl] | rw [show (2 : Int).toNat = 2 from rfl] | rw [show (3 : Int).toNat = 3 from rfl] | rw [m172] | rw [if_b0] | rw [inR_f (show ¬ ((10 : Int) ≤ 1 ∧ (1 : Int) ≤ 13) by decide)] | rw [inR_f (show ¬ ((20 : Int) ≤ 1 ∧ (1 : Int) ≤ 23) by decide)] | rw [inR_f (show ¬ ((30 : Int) ≤ 1 ∧ (1 : Int) ≤ 57) by decide)] | rw [cond_f] | rw [if_pos (show (1 : Int) = 1 from rfl)] | rw [if_neg (show ¬ (1 : Int) = 0 by decide)] | rw [if_neg (show ¬ (1 : Int) = 2 by decide)] | rw [if_neg (show ¬ (1 : Int) = 3 by decide)] | rw [if_neg (show ¬ (1 : Int) = 4 by decide)] | rw [if_neg (show ¬ (1 : Int) = 5 by decide)])
  by_cases h2 : v = 2
  · subst h2
    refine ⟨vI (c 143 2), s, s, c, c, n, ?_, ?_, by omega, hI⟩
    · rw [c149 (hg := gC29 hs c)]
      repeat (first | rw [bnd_s] | rw [tI_m] | rw [tL_m] | rw [tA_m] | rw [tV_m] | rw [fC29 hs _ (by decide)] | rw [pC29 hs _ _ (by decide)] | rw [fC30 hs _ (by decide)] | rw [pC30 hs _ _ (by decide)] | rw [fC38 hs _ (by decide)] | rw [pC38 hs _ _ (by decide)] | rw [fC122 hs _ (by decide)] | rw [pC122 hs _ _ (by decide)] | rw [CS_29_0 hc] | rw [CS_29_2 hc] | rw [CS_30_5 hc] | rw [CS_30_2 hc] | rw [h7] | rw [h6] | rw [b0.1] | rw [c38.1] | rw [c38.2] | rw [if_pos (show (2 : Int) = 2 from rfl)] | rw [if_neg (show ¬ (2 : Int) = 0 by decide)] | rw [if_neg (show ¬ (2 : Int) = 1 by decide)] | rw [if_neg (show ¬ (2 : Int) = 3 by decide)] | rw [if_neg (show ¬ (2 : Int) = 4 by decide)] | rw [if_neg (show ¬ (2 : Int) = 5 by decide)])
    · rw [c282 (hg := gC142 hs c)]
      repeat (first | rw [bnd_s] | rw [tI_m] | rw [tL_m] | rw [tA_m] | rw [tV_m] | rw [fC142 hs _ (by decide)] | rw [pC142 hs _ _ (by decide)] | rw [MS_0 hm] | rw [MS_1 hm] | rw [MS_2 hm] | rw [MS_3 hm] | rw [MS_4 hm] | rw [MS_5 hm] | rw [MS_7 hm] | rw [MS_8 hm] | rw [MS_21 hm] | rw [MS_29 hm] | rw [MS_30 hm] | rw [MS_31 hm] | rw [MS_37 hm] | rw [MS_38 hm] | rw [MS_39 hm] | rw [MS_40 hm] | rw [aC143 hs _ (show 0 ≤ (0 : Int) by decide) (by decide)] | rw [aC143 hs _ (show 0 ≤ (1 : Int) by decide) (by decide)] | rw [aC143 hs _ (show 0 ≤ (2 : Int) by decide) (by decide)] | rw [aC143 hs _ (show 0 ≤ (3 : Int) by decide) (by decide)] | rw [show (0 : Int).toNat = 0 from rfl] | rw [show (1 : Int).toNat = 1 from rfl] | rw [show (2 : Int).toNat = 2 from rfl] | rw [show (3 : Int).toNat = 3 from rfl] | rw [m172] | rw [if_b0] | rw [inR_f (show ¬ ((10 : Int) ≤ 2 ∧ (2 : Int) ≤ 13) by decide)] | rw [inR_f (show ¬ ((20 : Int) ≤ 2 ∧ (2 : Int) ≤ 23) by decide)] | rw [inR_f (show ¬ ((30 : Int) ≤ 2 ∧ (2 : Int) ≤ 57) by decide)] | rw [cond_f] | rw [if_pos (show (2 : Int) = 2 from rfl)] | rw [if_neg (show ¬ (2 : Int) = 0 by decide)] | rw [if_neg (show ¬ (2 : Int) = 1 by decide)] | rw [if_neg (show ¬ (2 : Int) = 3 by decide)] | rw [if_neg (show ¬ (2 : Int) = 4 by decide)] | rw [if_neg (show ¬ (2 : Int) = 5 by decide)])
  by_cases h3 : v = 3
  · subst h3
    refine ⟨vI (c 143 3), s, s, c, c, n, ?_, ?_, by omega, hI⟩
    · rw [c149 (hg := gC29 hs c)]
      repeat (first | rw [bnd_s] | rw [tI_m] | rw [tL_m] | rw [tA_m] | rw [tV_m] | rw [fC29 hs _ (by decide)] | rw [pC29 hs _ _ (by decide)] | rw [fC30 hs _ (by decide)] | rw [pC30 hs _ _ (by decide)] | rw [fC38 hs _ (by decide)] | rw [pC38 hs _ _ (by decide)] | rw [fC122 hs _ (by decide)] | rw [pC122 hs _ _ (by decide)] | rw [CS_29_0 hc] | rw [CS_29_2 hc] | rw [CS_30_5 hc] | rw [CS_30_2 hc] | rw [h7] | rw [h6] | rw [b0.1] | rw [c38.1] | rw [c38.2] | rw [if_pos (show (3 : Int) = 3 from rfl)] | rw [if_neg (show ¬ (3 : Int) = 0 by decide)] | rw [if_neg (show ¬ (3 : Int) = 1 by decide)] | rw [if_neg (show ¬ (3 : Int) = 2 by decide)] | rw [if_neg (show ¬ (3 : Int) = 4 by decide)] | rw [if_neg (show ¬ (3 : Int) = 5 by decide)])
    · rw [c282 (hg := gC142 hs c)]
      repeat (first | rw [bnd_s] | rw [tI_m] | rw [tL_m] | rw [tA_m] | rw [tV_m] | rw [fC142 hs _ (by decide)] | rw [pC142 hs _ _ (by decide)] | rw [MS_0 hm] | rw [MS_1 hm] | rw [MS_2 hm] | rw [MS_3 hm] | rw [MS_4 hm] | rw [MS_5 hm] | rw [MS_7 hm] | rw [MS_8 hm] | rw [MS_21 hm] | rw [MS_29 hm] | rw [MS_30 hm] | rw [MS_31 hm] | rw [MS_37 hm] | rw [MS_38 hm] | rw [MS_39 hm] | rw [MS_40 hm] | rw [aC143 hs _ (show 0 ≤ (0 : Int) by decide) (by decide)] | rw [aC143 hs _ (show 0 ≤ (1 : Int) by decide) (by decide)] | rw [aC143 hs _ (show 0 ≤ (2 : Int) by decide) (by decide)] | rw [aC143 hs _ (show 0 ≤ (3 : Int) by decide) (by decide)] | rw [show (0 : Int).toNat = 0 from rfl] | rw [show (1 : Int).toNat = 1 from rfl] | rw [show (2 : Int).toNat = 2 from rfl] | rw [show (3 : Int).toNat = 3 from rfl] | rw [m172] | rw [if_b0] | rw [inR_f (show ¬ ((10 : Int) ≤ 3 ∧ (3 : Int) ≤ 13) by decide)] | rw [inR_f (show ¬ ((20 : Int) ≤ 3 ∧ (3 : Int) ≤ 23) by decide)] | rw [inR_f (show ¬ ((30 : Int) ≤ 3 ∧ (3 : Int) ≤ 57) by decide)] | rw [cond_f] | rw [if_pos (show (3 : Int) = 3 from rfl)] | rw [if_neg (show ¬ (3 : Int) = 0 by decide)] | rw [if_neg (show ¬ (3 : Int) = 1 by decide)] | rw [if_neg (show ¬ (3 : Int) = 2 by decide)] | rw [if_neg (show ¬ (3 : Int) = 4 by decide)] | rw [if_neg (show ¬ (3 : Int) = 5 by decide)])
  by_cases h4 : v = 4
  · subst h4
    refine ⟨vI (c 142 9), s, s, c, c, n, ?_, ?_, by omega, hI⟩
    · rw [c149 (hg := gC29 hs c)]
      repeat (first | rw [bnd_s] | rw [tI_m] | rw [tL_m] | rw [tA_m] | rw [tV_m] | rw [fC29 hs _ (by decide)] | rw [pC29 hs _ _ (by decide)] | rw [fC30 hs _ (by decide)] | rw [pC30 hs _ _ (by decide)] | rw [fC38 hs _ (by decide)] | rw [pC38 hs _ _ (by decide)] | rw [fC122 hs _ (by decide)] | rw [pC122 hs _ _ (by decide)] | rw [CS_29_0 hc] | rw [CS_29_2 hc] | rw [CS_30_5 hc] | rw [CS_30_2 hc] | rw [h7] | rw [h6] | rw [b0.1] | rw [c38.1] | rw [c38.2] | rw [if_pos (show (4 : Int) = 4 from rfl)] | rw [if_neg (show ¬ (4 : Int) = 0 by decide)] | rw [if_neg (show ¬ (4 : Int) = 1 by decide)] | rw [if_neg (show ¬ (4 : Int) = 2 by decide)] | rw [if_neg (show ¬ (4 : Int) = 3 by decide)] | rw [if_neg (show ¬ (4 : Int) = 5 by decide)])
    · rw [c282 (hg := gC142 hs c)]
      repeat (first | rw [bnd_s] | rw [tI_m] | rw [tL_m] | rw [tA_m] | rw [tV_m] | rw [fC142 hs _ (by decide)] | rw [pC142 hs _ _ (by decide)] | rw [MS_0 hm] | rw [MS_1 hm] | rw [MS_2 hm] | rw [MS_3 hm] | rw [MS_4 hm] | rw [MS_5 hm] | rw [MS_7 hm] | rw [MS_8 hm] | rw [MS_21 hm] | rw [MS_29 hm] | rw [MS_30 hm] | rw [MS_31 hm] | rw [MS_37 hm] | rw [MS_38 hm] | rw [MS_39 hm] | rw [MS_40 hm] | rw [aC143 hs _ (show 0 ≤ (0 : Int) by decide) (by decide)] | rw [aC143 hs _ (show 0 ≤ (1 : Int) by decide) (by decide)] | rw [aC143 hs _ (show 0 ≤ (2 : Int) by decide) (by decide)] | rw [aC143 hs _ (show 0 ≤ (3 : Int) by decide) (by decide)] | rw [show (0 : Int).toNat = 0 from rfl] | rw [show (1 : Int).toNat = 1 from rfl] | rw [show (2 : Int).toNat = 2 from rfl] | rw [show (3 : Int).toNat = 3 from rfl] | rw [m172] | rw [if_b0] | rw [inR_f (show ¬ ((10 : Int) ≤ 4 ∧ (4 : Int) ≤ 13) by decide)] | rw [inR_f (show ¬ ((20 : Int) ≤ 4 ∧ (4 : Int) ≤ 23) by decide)] | rw [inR_f (show ¬ ((30 : Int) ≤ 4 ∧ (4 : Int) ≤ 57) by decide)] | rw [cond_f] | rw [if_pos (show (4 : Int) = 4 from rfl)] | rw [if_neg (show ¬ (4 : Int) = 0 by decide)] | rw [if_neg (show ¬ (4 : Int) = 1 by decide)] | rw [if_neg (show ¬ (4 : Int) = 2 by decide)] | rw [if_neg (show ¬ (4 : Int) = 3 by decide)] | rw [if_neg (show ¬ (4 : Int) = 5 by decide)])
  by_cases h5 : v = 5
  · subst h5
    refine ⟨vI (sumU (fun x => b2i (sawN c 7 x)) 20 0), s, s, c, c, n, ?_, ?_, by omega, hI⟩
    · rw [c149 (hg := gC29 hs c)]
      repeat (first | rw [bnd_s] | rw [tI_m] | rw [tL_m] | rw [tA_m] | rw [tV_m] | rw [fC29 hs _ (by decide)] | rw [pC29 hs _ _ (by decide)] | rw [fC30 hs _ (by decide)] | rw [pC30 hs _ _ (by decide)] | rw [fC38 hs _ (by decide)] | rw [pC38 hs _ _ (by decide)] | rw [fC122 hs _ (by decide)] | rw [pC122 hs _ _ (by decide)] | rw [CS_29_0 hc] | rw [CS_29_2 hc] | rw [CS_30_5 hc] | rw [CS_30_2 hc] | rw [h7] | rw [h6] | rw [b0.1] | rw [c38.1] | rw [c38.2] | rw [if_pos (show (5 : Int) = 5 from rfl)] | rw [if_neg (show ¬ (5 : Int) = 0 by decide)] | rw [if_neg (show ¬ (5 : Int) = 1 by decide)] | rw [if_neg (show ¬ (5 : Int) = 2 by decide)] | rw [if_neg (show ¬ (5 : Int) = 3 by decide)] | rw [if_neg (show ¬ (5 : Int) = 4 by decide)] | rw [c109 (hg := gC33 hs _)] | rw [k109_4 _ hs hc a10 20 0 0 (by decide) (by decide) (by decide) (by decide)] | rw [Int.zero_add])
    · rw [c282 (hg := gC142 hs c)]
      repeat (first | rw [bnd_s] | rw [tI_m] | rw [tL_m] | rw [tA_m] | rw [tV_m] | rw [fC142 hs _ (by decide)] | rw [pC142 hs _ _ (by decide)] | rw [MS_0 hm] | rw [MS_1 hm] | rw [MS_2 hm] | rw [MS_3 hm] | rw [MS_4 hm] | rw [MS_5 hm] | rw [MS_7 hm] | rw [MS_8 hm] | rw [MS_21 hm] | rw [MS_29 hm] | rw [MS_30 hm] | rw [MS_31 hm] | rw [MS_37 hm] | rw [MS_38 hm] | rw [MS_39 hm] | rw [MS_40 hm] | rw [aC143 hs _ (show 0 ≤ (0 : Int) by decide) (by decide)] | rw [aC143 hs _ (show 0 ≤ (1 : Int) by decide) (by decide)] | rw [aC143 hs _ (show 0 ≤ (2 : Int) by decide) (by decide)] | rw [aC143 hs _ (show 0 ≤ (3 : Int) by decide) (by decide)] | rw [show (0 : Int).toNat = 0 from rfl] | rw [show (1 : Int).toNat = 1 from rfl] | rw [show (2 : Int).toNat = 2 from rfl] | rw [show (3 : Int).toNat = 3 from rfl] | rw [m172] | rw [if_b0] | rw [inR_f (show ¬ ((10 : Int) ≤ 5 ∧ (5 : Int) ≤ 13) by decide)] | rw [inR_f (show ¬ ((20 : Int) ≤ 5 ∧ (5 : Int) ≤ 23) by decide)] | rw [inR_f (show ¬ ((30 : Int) ≤ 5 ∧ (5 : Int) ≤ 57) by decide)] | rw [cond_f] | rw [if_pos (show (5 : Int) = 5 from rfl)] | rw [if_neg (show ¬ (5 : Int) = 0 by decide)] | rw [if_neg (show ¬ (5 : Int) = 1 by decide)] | rw [if_neg (show ¬ (5 : Int) = 2 by decide)] | rw [if_neg (show ¬ (5 : Int) = 3 by decide)] | rw [if_neg (show ¬ (5 : Int) = 4 by decide)] | rw [c281 (hg := gC142 hs _)] | rw [m281_4 _ hs hm 20 0 0 (by decide) (by decide) (by decide) (by decide)] | rw [Int.zero_add])
  by_cases h6' : v < 10 ∨ 59 < v
  · refine ⟨vI (-1), s, s, c, c, n, ?_, ?_, by omega, hI⟩
    · rw [c149 (hg := gC29 hs c)]
      repeat (first | rw [if_neg h0] | rw [if_neg h1] | rw [if_neg h2] | rw [if_neg h3] | rw [if_neg h4] | rw [if_neg h5])
      by_cases q : v < 10
      · rw [if_pos q, c149_35]
      · rw [if_neg q, if_pos (by omega), c149_35]
    · rw [c282 (hg := gC142 hs c)]
      repeat (first | rw [bnd_s] | rw [tI_m] | rw [tL_m] | rw [tA_m] | rw [tV_m] | rw [fC142 hs _ (by decide)] | rw [pC142 hs _ _ (by decide)] | rw [MS_0 hm] | rw [MS_1 hm] | rw [MS_2 hm] | rw [MS_3 hm] | rw [MS_4 hm] | rw [MS_5 hm] | rw [MS_7 hm] | rw [MS_8 hm] | rw [MS_21 hm] | rw [MS_29 hm] | rw [MS_30 hm] | rw [MS_31 hm] | rw [MS_37 hm] | rw [MS_38 hm] | rw [MS_39 hm] | rw [MS_40 hm] | rw [aC143 hs _ (show 0 ≤ (0 : Int) by decide) (by decide)] | rw [aC143 hs _ (show 0 ≤ (1 : Int) by decide) (by decide)] | rw [aC143 hs _ (show 0 ≤ (2 : Int) by decide) (by decide)] | rw [aC143 hs _ (show 0 ≤ (3 : Int) by decide) (by decide)] | rw [show (0 : Int).toNat = 0 from rfl] | rw [show (1 : Int).toNat = 1 from rfl] | rw [show (2 : Int).toNat = 2 from rfl] | rw [show (3 : Int).toNat = 3 from rfl] | rw [m172] | rw [if_b0] | rw [inR_f (by omega)] | rw [cond_f] | rw [if_neg h0] | rw [if_neg h1] | rw [if_neg h2] | rw [if_neg h3] | rw [if_neg h4] | rw [if_neg h5])
  by_cases g1 : v < 20
  · have e1 : v / 10 = 1 := by omega
    have e2 : v % 10 = v - 10 := by omega
    by_cases q : v - 10 < c 143 0
    · have hr := hI.map (m := (v - 10).toNat) (by omega)
      have hch := chN hs hc (m := (v - 10).toNat) (by omega)
      rw [Int.toNat_of_nonneg (by omega)] at hr
      have hv := hr.1.1
      refine ⟨vI (c 143 (20 + (v - 10)).toNat), s, s, c, c, n, ?_, ?_, by omega, hI⟩
      · rw [c149 (hg := gC29 hs c)]
        repeat (first | rw [if_neg h0] | rw [if_neg h1] | rw [if_neg h2] | rw [if_neg h3] | rw [if_neg h4] | rw [if_neg h5] | rw [if_neg (show ¬ v < 10 by omega)] | rw [if_neg (show ¬ 59 < v by omega)] | rw [idiv_n (x := v) (y := 10) (by omega) (by omega) (by decide) (by decide)] | rw [irem_n (x := v) (y := 10) (by omega) (by omega) (by decide) (by decide)] | rw [e1] | rw [e2] | rw [if_pos (show v < 30 by omega)])
        rw [c150 (hg := gC29 hs c)]
        repeat (first | rw [bnd_s] | rw [tI_m] | rw [tL_m] | rw [tA_m] | rw [tV_m] | rw [fC29 hs _ (by decide)] | rw [pC29 hs _ _ (by decide)] | rw [CS_29_0 hc] | rw [k113 _ hs hc h6 hn] | rw [if_pos (show 0 ≤ v - 10 ∧ v - 10 < c 143 0 by omega)] | rw [if_neg (show ¬ ((40 + 5 * (v - 10).toNat : Nat) : Int) = 0 by omega)] | rw [if_neg (show ¬ ((40 + 5 * (v - 10).toNat : Nat) : Int) < 0 by omega)] | rw [if_pos (show (1 : Int) = 1 from rfl)] | rw [gF_g hch.1.1 _ (by decide)] | rw [hv] | rw [c150_17] | rw [c149_57])
      · rw [c282 (hg := gC142 hs c)]
        repeat (first | rw [bnd_s] | rw [tI_m] | rw [tL_m] | rw [tA_m] | rw [tV_m] | rw [fC142 hs _ (by decide)] | rw [pC142 hs _ _ (by decide)] | rw [MS_0 hm] | rw [MS_1 hm] | rw [MS_2 hm] | rw [MS_3 hm] | rw [MS_4 hm] | rw [MS_5 hm] | rw [MS_7 hm] | rw [MS_8 hm] | rw [MS_21 hm] | rw [MS_29 hm] | rw [MS_30 hm] | rw [MS_31 hm] | rw [MS_37 hm] | rw [MS_38 hm] | rw [MS_39 hm] | rw [MS_40 hm] | rw [aC143 hs _ (show 0 ≤ (0 : Int) by decide) (by decide)] | rw [aC143 hs _ (show 0 ≤ (1 : Int) by decide) (by decide)] | rw [aC143 hs _ (show 0 ≤ (2 : Int) by decide) (by decide)] | rw [aC143 hs _ (show 0 ≤ (3 : Int) by decide) (by decide)] | rw [show (0 : Int).toNat = 0 from rfl] | rw [show (1 : Int).toNat = 1 from rfl] | rw [show (2 : Int).toNat = 2 from rfl] | rw [show (3 : Int).toNat = 3 from rfl] | rw [m172] | rw [if_b0] | rw [inR_t (show (10 : Int) ≤ v ∧ v ≤ 13 by omega)] | rw [cond_t] | rw [w32_id (z := v - 10) (by omega) (by omega)] | rw [m173 _ hs hm hn] | rw [inR_t (show 0 ≤ v - 10 ∧ v - 10 ≤ c 143 0 - 1 by omega)] | rw [w32_id (z := 20 + v) (by omega) (by omega)] | rw [w32_id (z := 20 + v - 10) (by omega) (by omega)] | rw [aC143 hs _ (show 0 ≤ 20 + v - 10 by omega) (by omega)] | rw [show (20 + v - 10).toNat = (20 + (v - 10)).toNat by omega] | rw [c282_21])
    · refine ⟨vI (-1), s, s, c, c, n, ?_, ?_, by omega, hI⟩
      · rw [c149 (hg := gC29 hs c)]
        repeat (first | rw [if_neg h0] | rw [if_neg h1] | rw [if_neg h2] | rw [if_neg h3] | rw [if_neg h4] | rw [if_neg h5] | rw [if_neg (show ¬ v < 10 by omega)] | rw [if_neg (show ¬ 59 < v by omega)] | rw [idiv_n (x := v) (y := 10) (by omega) (by omega) (by decide) (by decide)] | rw [irem_n (x := v) (y := 10) (by omega) (by omega) (by decide) (by decide)] | rw [e1] | rw [e2] | rw [if_pos (show v < 30 by omega)])
        rw [c150 (hg := gC29 hs c)]
        repeat (first | rw [bnd_s] | rw [tI_m] | rw [tL_m] | rw [tA_m] | rw [tV_m] | rw [fC29 hs _ (by decide)] | rw [pC29 hs _ _ (by decide)] | rw [CS_29_0 hc] | rw [k113 _ hs hc h6 hn] | rw [if_neg (show ¬ (0 ≤ v - 10 ∧ v - 10 < c 143 0) by omega)] | rw [if_neg (show ¬ (-1 : Int) = 0 by decide)] | rw [if_pos (show (-1 : Int) < 0 by decide)] | rw [c149_57])
      · rw [c282 (hg := gC142 hs c)]
        by_cases w : v ≤ 13
        · skip
          repeat (first | rw [bnd_s] | rw [tI_m] | rw [tL_m] | rw [tA_m] | rw [tV_m] | rw [fC142 hs _ (by decide)] | rw [pC142 hs _ _ (by decide)] | rw [MS_0 hm] | rw [MS_1 hm] | rw [MS_2 hm] | rw [MS_3 hm] | rw [MS_4 hm] | rw [MS_5 hm] | rw [MS_7 hm] | rw [MS_8 hm] | rw [MS_21 hm] | rw [MS_29 hm] | rw [MS_30 hm] | rw [MS_31 hm] | rw [MS_37 hm] | rw [MS_38 hm] | rw [MS_39 hm] | rw [MS_40 hm] | rw [aC143 hs _ (show 0 ≤ (0 : Int) by decide) (by decide)] | rw [aC143 hs _ (show 0 ≤ (1 : Int) by decide) (by decide)] | rw [aC143 hs _ (show 0 ≤ (2 : Int) by decide) (by decide)] | rw [aC143 hs _ (show 0 ≤ (3 : Int) by decide) (by decide)] | rw [show (0 : Int).toNat = 0 from rfl] | rw [show (1 : Int).toNat = 1 from rfl] | rw [show (2 : Int).toNat = 2 from rfl] | rw [show (3 : Int).toNat = 3 from rfl] | rw [m172] | rw [if_b0] | rw [inR_t (show (10 : Int) ≤ v ∧ v ≤ 13 by omega)] | rw [cond_t] | rw [w32_id (z := v - 10) (by omega) (by omega)] | rw [m173 _ hs hm hn] | rw [inR_f (show ¬ (0 ≤ v - 10 ∧ v - 10 ≤ c 143 0 - 1) by omega)] | rw [cond_f] | rw [c282_21])
        · skip
          repeat (first | rw [bnd_s] | rw [tI_m] | rw [tL_m] | rw [tA_m] | rw [tV_m] | rw [fC142 hs _ (by decide)] | rw [pC142 hs _ _ (by decide)] | rw [MS_0 hm] | rw [MS_1 hm] | rw [MS_2 hm] | rw [MS_3 hm] | rw [MS_4 hm] | rw [MS_5 hm] | rw [MS_7 hm] | rw [MS_8 hm] | rw [MS_21 hm] | rw [MS_29 hm] | rw [MS_30 hm] | rw [MS_31 hm] | rw [MS_37 hm] | rw [MS_38 hm] | rw [MS_39 hm] | rw [MS_40 hm] | rw [aC143 hs _ (show 0 ≤ (0 : Int) by decide) (by decide)] | rw [aC143 hs _ (show 0 ≤ (1 : Int) by decide) (by decide)] | rw [aC143 hs _ (show 0 ≤ (2 : Int) by decide) (by decide)] | rw [aC143 hs _ (show 0 ≤ (3 : Int) by decide) (by decide)] | rw [show (0 : Int).toNat = 0 from rfl] | rw [show (1 : Int).toNat = 1 from rfl] | rw [show (2 : Int).toNat = 2 from rfl] | rw [show (3 : Int).toNat = 3 from rfl] | rw [m172] | rw [if_b0] | rw [inR_f (by omega)] | rw [cond_f] | rw [if_neg h0] | rw [if_neg h1] | rw [if_neg h2] | rw [if_neg h3] | rw [if_neg h4] | rw [if_neg h5])
  by_cases g2 : v < 30
  · have e1 : v / 10 = 2 := by omega
    have e2 : v % 10 = v - 20 := by omega
    by_cases q : v - 20 < c 143 0
    · have hr := hI.map (m := (v - 20).toNat) (by omega)
      have hch := chN hs hc (m := (v - 20).toNat) (by omega)
      rw [Int.toNat_of_nonneg (by omega)] at hr
      have hv := hr.1.2
      refine ⟨vI (c 143 (24 + (v - 20)).toNat), s, s, c, c, n, ?_, ?_, by omega, hI⟩
      · rw [c149 (hg := gC29 hs c)]
        repeat (first | rw [if_neg h0] | rw [if_neg h1] | rw [if_neg h2] | rw [if_neg h3] | rw [if_neg h4] | rw [if_neg h5] | rw [if_neg (show ¬ v < 10 by omega)] | rw [if_neg (show ¬ 59 < v by omega)] | rw [idiv_n (x := v) (y := 10) (by omega) (by omega) (by decide) (by decide)] | rw [irem_n (x := v) (y := 10) (by omega) (by omega) (by decide) (by decide)] | rw [e1] | rw [e2] | rw [if_pos (show v < 30 by omega)])
        rw [c150 (hg := gC29 hs c)]
        repeat (first | rw [bnd_s] | rw [tI_m] | rw [tL_m] | rw [tA_m] | rw [tV_m] | rw [fC29 hs _ (by decide)] | rw [pC29 hs _ _ (by decide)] | rw [CS_29_0 hc] | rw [k113 _ hs hc h6 hn] | rw [if_pos (show 0 ≤ v - 20 ∧ v - 20 < c 143 0 by omega)] | rw [if_neg (show ¬ ((40 + 5 * (v - 20).toNat : Nat) : Int) = 0 by omega)] | rw [if_neg (show ¬ ((40 + 5 * (v - 20).toNat : Nat) : Int) < 0 by omega)] | rw [if_neg (show ¬ (2 : Int) = 1 by decide)] | rw [gF_g hch.1.1 _ (by decide)] | rw [hv] | rw [c150_17] | rw [c149_57])
      · rw [c282 (hg := gC142 hs c)]
        repeat (first | rw [bnd_s] | rw [tI_m] | rw [tL_m] | rw [tA_m] | rw [tV_m] | rw [fC142 hs _ (by decide)] | rw [pC142 hs _ _ (by decide)] | rw [MS_0 hm] | rw [MS_1 hm] | rw [MS_2 hm] | rw [MS_3 hm] | rw [MS_4 hm] | rw [MS_5 hm] | rw [MS_7 hm] | rw [MS_8 hm] | rw [MS_21 hm] | rw [MS_29 hm] | rw [MS_30 hm] | rw [MS_31 hm] | rw [MS_37 hm] | rw [MS_38 hm] | rw [MS_39 hm] | rw [MS_40 hm] | rw [aC143 hs _ (show 0 ≤ (0 : Int) by decide) (by decide)] | rw [aC143 hs _ (show 0 ≤ (1 : Int) by decide) (by decide)] | rw [aC143 hs _ (show 0 ≤ (2 : Int) by decide) (by decide)] | rw [aC143 hs _ (show 0 ≤ (3 : Int) by decide) (by decide)] | rw [show (0 : Int).toNat = 0 from rfl] | rw [show (1 : Int).toNat = 1 from rfl] | rw [show (2 : Int).toNat = 2 from rfl] | rw [show (3 : Int).toNat = 3 from rfl] | rw [m172] | rw [if_b0] | rw [inR_t (show (20 : Int) ≤ v ∧ v ≤ 23 by omega)] | rw [cond_t] | rw [inR_f (show ¬ ((10 : Int) ≤ v ∧ v ≤ 13) by omega)] | rw [cond_f] | rw [w32_id (z := v - 20) (by omega) (by omega)] | rw [m173 _ hs hm hn] | rw [inR_t (show 0 ≤ v - 20 ∧ v - 20 ≤ c 143 0 - 1 by omega)] | rw [w32_id (z := 24 + v) (by omega) (by omega)] | rw [w32_id (z := 24 + v - 20) (by omega) (by omega)] | rw [aC143 hs _ (show 0 ≤ 24 + v - 20 by omega) (by omega)] | rw [show (24 + v - 20).toNat = (24 + (v - 20)).toNat by omega] | rw [c282_43])
    · refine ⟨vI (-1), s, s, c, c, n, ?_, ?_, by omega, hI⟩
      · rw [c149 (hg := gC29 hs c)]
        repeat (first | rw [if_neg h0] | rw [if_neg h1] | rw [if_neg h2] | rw [if_neg h3] | rw [if_neg h4] | rw [if_neg h5] | rw [if_neg (show ¬ v < 10 by omega)] | rw [if_neg (show ¬ 59 < v by omega)] | rw [idiv_n (x := v) (y := 10) (by omega) (by omega) (by decide) (by decide)] | rw [irem_n (x := v) (y := 10) (by omega) (by omega) (by decide) (by decide)] | rw [e1] | rw [e2] | rw [if_pos (show v < 30 by omega)])
        rw [c150 (hg := gC29 hs c)]
        repeat (first | rw [bnd_s] | rw [tI_m] | rw [tL_m] | rw [tA_m] | rw [tV_m] | rw [fC29 hs _ (by decide)] | rw [pC29 hs _ _ (by decide)] | rw [CS_29_0 hc] | rw [k113 _ hs hc h6 hn] | rw [if_neg (show ¬ (0 ≤ v - 20 ∧ v - 20 < c 143 0) by omega)] | rw [if_neg (show ¬ (-1 : Int) = 0 by decide)] | rw [if_pos (show (-1 : Int) < 0 by decide)] | rw [c149_57])
      · rw [c282 (hg := gC142 hs c)]
        by_cases w : v ≤ 23
        · skip
          repeat (first | rw [bnd_s] | rw [tI_m] | rw [tL_m] | rw [tA_m] | rw [tV_m] | rw [fC142 hs _ (by decide)] | rw [pC142 hs _ _ (by decide)] | rw [MS_0 hm] | rw [MS_1 hm] | rw [MS_2 hm] | rw [MS_3 hm] | rw [MS_4 hm] | rw [MS_5 hm] | rw [MS_7 hm] | rw [MS_8 hm] | rw [MS_21 hm] | rw [MS_29 hm] | rw [MS_30 hm] | rw [MS_31 hm] | rw [MS_37 hm] | rw [MS_38 hm] | rw [MS_39 hm] | rw [MS_40 hm] | rw [aC143 hs _ (show 0 ≤ (0 : Int) by decide) (by decide)] | rw [aC143 hs _ (show 0 ≤ (1 : Int) by decide) (by decide)] | rw [aC143 hs _ (show 0 ≤ (2 : Int) by decide) (by decide)] | rw [aC143 hs _ (show 0 ≤ (3 : Int) by decide) (by decide)] | rw [show (0 : Int).toNat = 0 from rfl] | rw [show (1 : Int).toNat = 1 from rfl] | rw [show (2 : Int).toNat = 2 from rfl] | rw [show (3 : Int).toNat = 3 from rfl] | rw [m172] | rw [if_b0] | rw [inR_t (show (20 : Int) ≤ v ∧ v ≤ 23 by omega)] | rw [cond_t] | rw [inR_f (show ¬ ((10 : Int) ≤ v ∧ v ≤ 13) by omega)] | rw [cond_f] | rw [w32_id (z := v - 20) (by omega) (by omega)] | rw [m173 _ hs hm hn] | rw [inR_f (show ¬ (0 ≤ v - 20 ∧ v - 20 ≤ c 143 0 - 1) by omega)] | rw [cond_f] | rw [c282_43])
        · skip
          repeat (first | rw [bnd_s] | rw [tI_m] | rw [tL_m] | rw [tA_m] | rw [tV_m] | rw [fC142 hs _ (by decide)] | rw [pC142 hs _ _ (by decide)] | rw [MS_0 hm] | rw [MS_1 hm] | rw [MS_2 hm] | rw [MS_3 hm] | rw [MS_4 hm] | rw [MS_5 hm] | rw [MS_7 hm] | rw [MS_8 hm] | rw [MS_21 hm] | rw [MS_29 hm] | rw [MS_30 hm] | rw [MS_31 hm] | rw [MS_37 hm] | rw [MS_38 hm] | rw [MS_39 hm] | rw [MS_40 hm] | rw [aC143 hs _ (show 0 ≤ (0 : Int) by decide) (by decide)] | rw [aC143 hs _ (show 0 ≤ (1 : Int) by decide) (by decide)] | rw [aC143 hs _ (show 0 ≤ (2 : Int) by decide) (by decide)] | rw [aC143 hs _ (show 0 ≤ (3 : Int) by decide) (by decide)] | rw [show (0 : Int).toNat = 0 from rfl] | rw [show (1 : Int).toNat = 1 from rfl] | rw [show (2 : Int).toNat = 2 from rfl] | rw [show (3 : Int).toNat = 3 from rfl] | rw [m172] | rw [if_b0] | rw [inR_f (by omega)] | rw [cond_f] | rw [if_neg h0] | rw [if_neg h1] | rw [if_neg h2] | rw [if_neg h3] | rw [if_neg h4] | rw [if_neg h5])
  by_cases g3 : v < 40
  · have e1 : v / 10 = 3 := by omega
    have e2 : v % 10 = v - 30 := by omega
    by_cases q : v - 30 < c 143 1
    · have hr := hI.2.2.2.2.1.2.2.2.2.1 (v - 30).toNat (by omega)
      have hh := ((SB_30 hs hc).2.2.2.2 (v - 30).toNat (by omega)).2
      have hv : c (60 + 2 * (v - 30).toNat) 1 = c 145 (800 * (v - 30).toNat + 1) := hr.1.1
      refine ⟨vI (c 145 (800 * (v - 30).toNat + 1)), s, s, c, c, n, ?_, ?_, by omega, hI⟩
      · rw [c149 (hg := gC29 hs c)]
        repeat (first | rw [if_neg h0] | rw [if_neg h1] | rw [if_neg h2] | rw [if_neg h3] | rw [if_neg h4] | rw [if_neg h5] | rw [if_neg (show ¬ v < 10 by omega)] | rw [if_neg (show ¬ 59 < v by omega)] | rw [idiv_n (x := v) (y := 10) (by omega) (by omega) (by decide) (by decide)] | rw [irem_n (x := v) (y := 10) (by omega) (by omega) (by decide) (by decide)] | rw [e1] | rw [e2] | rw [if_neg (show ¬ v < 30 by omega)])
        rw [c151 (hg := gC29 hs c)]
        repeat (first | rw [bnd_s] | rw [tI_m] | rw [tL_m] | rw [tA_m] | rw [tV_m] | rw [fC29 hs _ (by decide)] | rw [pC29 hs _ _ (by decide)] | rw [CS_29_0 hc] | rw [k114 _ hI] | rw [if_pos (show 0 ≤ v - 30 ∧ v - 30 < c 143 1 by omega)] | rw [if_neg (show ¬ ((60 + 2 * (v - 30).toNat : Nat) : Int) = 0 by omega)] | rw [if_neg (show ¬ ((60 + 2 * (v - 30).toNat : Nat) : Int) < 0 by omega)] | rw [if_pos (show (3 : Int) = 3 from rfl)] | rw [if_neg (show ¬ (3 : Int) = 4 by decide)] | rw [if_neg (show ¬ (3 : Int) = 5 by decide)] | rw [gF_g hh.1.1 _ (by decide)] | rw [hv] | rw [c149_57])
      · rw [c282 (hg := gC142 hs c)]
        repeat (first | rw [bnd_s] | rw [tI_m] | rw [tL_m] | rw [tA_m] | rw [tV_m] | rw [fC142 hs _ (by decide)] | rw [pC142 hs _ _ (by decide)] | rw [MS_0 hm] | rw [MS_1 hm] | rw [MS_2 hm] | rw [MS_3 hm] | rw [MS_4 hm] | rw [MS_5 hm] | rw [MS_7 hm] | rw [MS_8 hm] | rw [MS_21 hm] | rw [MS_29 hm] | rw [MS_30 hm] | rw [MS_31 hm] | rw [MS_37 hm] | rw [MS_38 hm] | rw [MS_39 hm] | rw [MS_40 hm] | rw [aC143 hs _ (show 0 ≤ (0 : Int) by decide) (by decide)] | rw [aC143 hs _ (show 0 ≤ (1 : Int) by decide) (by decide)] | rw [aC143 hs _ (show 0 ≤ (2 : Int) by decide) (by decide)] | rw [aC143 hs _ (show 0 ≤ (3 : Int) by decide) (by decide)] | rw [show (0 : Int).toNat = 0 from rfl] | rw [show (1 : Int).toNat = 1 from rfl] | rw [show (2 : Int).toNat = 2 from rfl] | rw [show (3 : Int).toNat = 3 from rfl] | rw [m172] | rw [if_b0] | rw [inR_f (show ¬ ((10 : Int) ≤ v ∧ v ≤ 13) by omega)] | rw [inR_f (show ¬ ((20 : Int) ≤ v ∧ v ≤ 23) by omega)] | rw [inR_t (show (30 : Int) ≤ v ∧ v ≤ 57 by omega)] | rw [cond_f] | rw [cond_t] | rw [idiv_n (x := v) (y := 10) (by omega) (by omega) (by decide) (by decide)] | rw [irem_n (x := v) (y := 10) (by omega) (by omega) (by decide) (by decide)] | rw [e1] | rw [e2] | rw [if_pos (show v - 30 < 8 by omega)] | rw [m221 _ hI] | rw [inR_t (show 0 ≤ v - 30 ∧ v - 30 ≤ c 143 1 - 1 by omega)] | rw [w32_id (z := 800 * (v - 30)) (by omega) (by omega)] | rw [w32_id (z := 800 * (v - 30) + 3) (by omega) (by omega)] | rw [w32_id (z := 800 * (v - 30) + 3 - 2) (by omega) (by omega)] | rw [aC145 hs _ (show 0 ≤ 800 * (v - 30) + 3 - 2 by omega) (by omega)] | rw [show (800 * (v - 30) + 3 - 2).toNat = 800 * (v - 30).toNat + 1 by omega] | rw [c282_76])
    · refine ⟨vI (-1), s, s, c, c, n, ?_, ?_, by omega, hI⟩
      · rw [c149 (hg := gC29 hs c)]
        repeat (first | rw [if_neg h0] | rw [if_neg h1] | rw [if_neg h2] | rw [if_neg h3] | rw [if_neg h4] | rw [if_neg h5] | rw [if_neg (show ¬ v < 10 by omega)] | rw [if_neg (show ¬ 59 < v by omega)] | rw [idiv_n (x := v) (y := 10) (by omega) (by omega) (by decide) (by decide)] | rw [irem_n (x := v) (y := 10) (by omega) (by omega) (by decide) (by decide)] | rw [e1] | rw [e2] | rw [if_neg (show ¬ v < 30 by omega)])
        rw [c151 (hg := gC29 hs c)]
        repeat (first | rw [bnd_s] | rw [tI_m] | rw [tL_m] | rw [tA_m] | rw [tV_m] | rw [fC29 hs _ (by decide)] | rw [pC29 hs _ _ (by decide)] | rw [CS_29_0 hc] | rw [k114 _ hI] | rw [if_neg (show ¬ (0 ≤ v - 30 ∧ v - 30 < c 143 1) by omega)] | rw [if_neg (show ¬ (-1 : Int) = 0 by decide)] | rw [if_pos (show (-1 : Int) < 0 by decide)] | rw [c149_57])
      · rw [c282 (hg := gC142 hs c)]
        by_cases w : v ≤ 57
        · by_cases w2 : v - 30 < 8
          · skip
            repeat (first | rw [bnd_s] | rw [tI_m] | rw [tL_m] | rw [tA_m] | rw [tV_m] | rw [fC142 hs _ (by decide)] | rw [pC142 hs _ _ (by decide)] | rw [MS_0 hm] | rw [MS_1 hm] | rw [MS_2 hm] | rw [MS_3 hm] | rw [MS_4 hm] | rw [MS_5 hm] | rw [MS_7 hm] | rw [MS_8 hm] | rw [MS_21 hm] | rw [MS_29 hm] | rw [MS_30 hm] | rw [MS_31 hm] | rw [MS_37 hm] | rw [MS_38 hm] | rw [MS_39 hm] | rw [MS_40 hm] | rw [aC143 hs _ (show 0 ≤ (0 : Int) by decide) (by decide)] | rw [aC143 hs _ (show 0 ≤ (1 : Int) by decide) (by decide)] | rw [aC143 hs _ (show 0 ≤ (2 : Int) by decide) (by decide)] | rw [aC143 hs _ (show 0 ≤ (3 : Int) by decide) (by decide)] | rw [show (0 : Int).toNat = 0 from rfl] | rw [show (1 : Int).toNat = 1 from rfl] | rw [show (2 : Int).toNat = 2 from rfl] | rw [show (3 : Int).toNat = 3 from rfl] | rw [m172] | rw [if_b0] | rw [inR_f (show ¬ ((10 : Int) ≤ v ∧ v ≤ 13) by omega)] | rw [inR_f (show ¬ ((20 : Int) ≤ v ∧ v ≤ 23) by omega)] | rw [inR_t (show (30 : Int) ≤ v ∧ v ≤ 57 by omega)] | rw [cond_f] | rw [cond_t] | rw [idiv_n (x := v) (y := 10) (by omega) (by omega) (by decide) (by decide)] | rw [irem_n (x := v) (y := 10) (by omega) (by omega) (by decide) (by decide)] | rw [e1] | rw [e2] | rw [if_pos w2] | rw [m221 _ hI] | rw [inR_f (show ¬ (0 ≤ v - 30 ∧ v - 30 ≤ c 143 1 - 1) by omega)] | rw [c282_75] | rw [c282_76])
          · skip
            repeat (first | rw [bnd_s] | rw [tI_m] | rw [tL_m] | rw [tA_m] | rw [tV_m] | rw [fC142 hs _ (by decide)] | rw [pC142 hs _ _ (by decide)] | rw [MS_0 hm] | rw [MS_1 hm] | rw [MS_2 hm] | rw [MS_3 hm] | rw [MS_4 hm] | rw [MS_5 hm] | rw [MS_7 hm] | rw [MS_8 hm] | rw [MS_21 hm] | rw [MS_29 hm] | rw [MS_30 hm] | rw [MS_31 hm] | rw [MS_37 hm] | rw [MS_38 hm] | rw [MS_39 hm] | rw [MS_40 hm] | rw [aC143 hs _ (show 0 ≤ (0 : Int) by decide) (by decide)] | rw [aC143 hs _ (show 0 ≤ (1 : Int) by decide) (by decide)] | rw [aC143 hs _ (show 0 ≤ (2 : Int) by decide) (by decide)] | rw [aC143 hs _ (show 0 ≤ (3 : Int) by decide) (by decide)] | rw [show (0 : Int).toNat = 0 from rfl] | rw [show (1 : Int).toNat = 1 from rfl] | rw [show (2 : Int).toNat = 2 from rfl] | rw [show (3 : Int).toNat = 3 from rfl] | rw [m172] | rw [if_b0] | rw [inR_f (show ¬ ((10 : Int) ≤ v ∧ v ≤ 13) by omega)] | rw [inR_f (show ¬ ((20 : Int) ≤ v ∧ v ≤ 23) by omega)] | rw [inR_t (show (30 : Int) ≤ v ∧ v ≤ 57 by omega)] | rw [cond_f] | rw [cond_t] | rw [idiv_n (x := v) (y := 10) (by omega) (by omega) (by decide) (by decide)] | rw [irem_n (x := v) (y := 10) (by omega) (by omega) (by decide) (by decide)] | rw [e1] | rw [e2] | rw [if_neg w2] | rw [c282_75] | rw [c282_76])
        · skip
          repeat (first | rw [bnd_s] | rw [tI_m] | rw [tL_m] | rw [tA_m] | rw [tV_m] | rw [fC142 hs _ (by decide)] | rw [pC142 hs _ _ (by decide)] | rw [MS_0 hm] | rw [MS_1 hm] | rw [MS_2 hm] | rw [MS_3 hm] | rw [MS_4 hm] | rw [MS_5 hm] | rw [MS_7 hm] | rw [MS_8 hm] | rw [MS_21 hm] | rw [MS_29 hm] | rw [MS_30 hm] | rw [MS_31 hm] | rw [MS_37 hm] | rw [MS_38 hm] | rw [MS_39 hm] | rw [MS_40 hm] | rw [aC143 hs _ (show 0 ≤ (0 : Int) by decide) (by decide)] | rw [aC143 hs _ (show 0 ≤ (1 : Int) by decide) (by decide)] | rw [aC143 hs _ (show 0 ≤ (2 : Int) by decide) (by decide)] | rw [aC143 hs _ (show 0 ≤ (3 : Int) by decide) (by decide)] | rw [show (0 : Int).toNat = 0 from rfl] | rw [show (1 : Int).toNat = 1 from rfl] | rw [show (2 : Int).toNat = 2 from rfl] | rw [show (3 : Int).toNat = 3 from rfl] | rw [m172] | rw [if_b0] | rw [inR_f (by omega)] | rw [cond_f] | rw [if_neg h0] | rw [if_neg h1] | rw [if_neg h2] | rw [if_neg h3] | rw [if_neg h4] | rw [if_neg h5])
  by_cases g4 : v < 50
  · have e1 : v / 10 = 4 := by omega
    have e2 : v % 10 = v - 40 := by omega
    by_cases q : v - 40 < c 143 1
    · have hr := hI.2.2.2.2.1.2.2.2.2.1 (v - 40).toNat (by omega)
      have hh := ((SB_30 hs hc).2.2.2.2 (v - 40).toNat (by omega)).2
      have hv : c (60 + 2 * (v - 40).toNat) 3 = c 145 (800 * (v - 40).toNat + 2) := hr.1.2.2
      refine ⟨vI (c 145 (800 * (v - 40).toNat + 2)), s, s, c, c, n, ?_, ?_, by omega, hI⟩
      · rw [c149 (hg := gC29 hs c)]
        repeat (first | rw [if_neg h0] | rw [if_neg h1] | rw [if_neg h2] | rw [if_neg h3] | rw [if_neg h4] | rw [if_neg h5] | rw [if_neg (show ¬ v < 10 by omega)] | rw [if_neg (show ¬ 59 < v by omega)] | rw [idiv_n (x := v) (y := 10) (by omega) (by omega) (by decide) (by decide)] | rw [irem_n (x := v) (y := 10) (by omega) (by omega) (by decide) (by decide)] | rw [e1] | rw [e2] | rw [if_neg (show ¬ v < 30 by omega)])
        rw [c151 (hg := gC29 hs c)]
        repeat (first | rw [bnd_s] | rw [tI_m] | rw [tL_m] | rw [tA_m] | rw [tV_m] | rw [fC29 hs _ (by decide)] | rw [pC29 hs _ _ (by decide)] | rw [CS_29_0 hc] | rw [k114 _ hI] | rw [if_pos (show 0 ≤ v - 40 ∧ v - 40 < c 143 1 by omega)] | rw [if_neg (show ¬ ((60 + 2 * (v - 40).toNat : Nat) : Int) = 0 by omega)] | rw [if_neg (show ¬ ((60 + 2 * (v - 40).toNat : Nat) : Int) < 0 by omega)] | rw [if_pos (show (4 : Int) = 4 from rfl)] | rw [if_neg (show ¬ (4 : Int) = 3 by decide)] | rw [if_neg (show ¬ (4 : Int) = 5 by decide)] | rw [gF_g hh.1.1 _ (by decide)] | rw [hv] | rw [c149_57])
        rcases hr.2.2.1 with z | z
        · rw [z, show (0 : Int) = b2i false from rfl, k159]
          repeat (first | rw [bnd_s] | rw [tI_m] | rw [tL_m] | rw [tA_m] | rw [tV_m] | rw [c149_57])
        · rw [z, show (1 : Int) = b2i true from rfl, k159]
          repeat (first | rw [bnd_s] | rw [tI_m] | rw [tL_m] | rw [tA_m] | rw [tV_m] | rw [c149_57])
      · rw [c282 (hg := gC142 hs c)]
        repeat (first | rw [bnd_s] | rw [tI_m] | rw [tL_m] | rw [tA_m] | rw [tV_m] | rw [fC142 hs _ (by decide)] | rw [pC142 hs _ _ (by decide)] | rw [MS_0 hm] | rw [MS_1 hm] | rw [MS_2 hm] | rw [MS_3 hm] | rw [MS_4 hm] | rw [MS_5 hm] | rw [MS_7 hm] | rw [MS_8 hm] | rw [MS_21 hm] | rw [MS_29 hm] | rw [MS_30 hm] | rw [MS_31 hm] | rw [MS_37 hm] | rw [MS_38 hm] | rw [MS_39 hm] | rw [MS_40 hm] | rw [aC143 hs _ (show 0 ≤ (0 : Int) by decide) (by decide)] | rw [aC143 hs _ (show 0 ≤ (1 : Int) by decide) (by decide)] | rw [aC143 hs _ (show 0 ≤ (2 : Int) by decide) (by decide)] | rw [aC143 hs _ (show 0 ≤ (3 : Int) by decide) (by decide)] | rw [show (0 : Int).toNat = 0 from rfl] | rw [show (1 : Int).toNat = 1 from rfl] | rw [show (2 : Int).toNat = 2 from rfl] | rw [show (3 : Int).toNat = 3 from rfl] | rw [m172] | rw [if_b0] | rw [inR_f (show ¬ ((10 : Int) ≤ v ∧ v ≤ 13) by omega)] | rw [inR_f (show ¬ ((20 : Int) ≤ v ∧ v ≤ 23) by omega)] | rw [inR_t (show (30 : Int) ≤ v ∧ v ≤ 57 by omega)] | rw [cond_f] | rw [cond_t] | rw [idiv_n (x := v) (y := 10) (by omega) (by omega) (by decide) (by decide)] | rw [irem_n (x := v) (y := 10) (by omega) (by omega) (by decide) (by decide)] | rw [e1] | rw [e2] | rw [if_pos (show v - 40 < 8 by omega)] | rw [m221 _ hI] | rw [inR_t (show 0 ≤ v - 40 ∧ v - 40 ≤ c 143 1 - 1 by omega)] | rw [w32_id (z := 800 * (v - 40)) (by omega) (by omega)] | rw [w32_id (z := 800 * (v - 40) + 4) (by omega) (by omega)] | rw [w32_id (z := 800 * (v - 40) + 4 - 2) (by omega) (by omega)] | rw [aC145 hs _ (show 0 ≤ 800 * (v - 40) + 4 - 2 by omega) (by omega)] | rw [show (800 * (v - 40) + 4 - 2).toNat = 800 * (v - 40).toNat + 2 by omega] | rw [c282_76])
    · refine ⟨vI (-1), s, s, c, c, n, ?_, ?_, by omega, hI⟩
      · rw [c149 (hg := gC29 hs c)]
        repeat (first | rw [if_neg h0] | rw [if_neg h1] | rw [if_neg h2] | rw [if_neg h3] | rw [if_neg h4] | rw [if_neg h5] | rw [if_neg (show ¬ v < 10 by omega)] | rw [if_neg (show ¬ 59 < v by omega)] | rw [idiv_n (x := v) (y := 10) (by omega) (by omega) (by decide) (by decide)] | rw [irem_n (x := v) (y := 10) (by omega) (by omega) (by decide) (by decide)] | rw [e1] | rw [e2] | rw [if_neg (show ¬ v < 30 by omega)])
        rw [c151 (hg := gC29 hs c)]
        repeat (first | rw [bnd_s] | rw [tI_m] | rw [tL_m] | rw [tA_m] | rw [tV_m] | rw [fC29 hs _ (by decide)] | rw [pC29 hs _ _ (by decide)] | rw [CS_29_0 hc] | rw [k114 _ hI] | rw [if_neg (show ¬ (0 ≤ v - 40 ∧ v - 40 < c 143 1) by omega)] | rw [if_neg (show ¬ (-1 : Int) = 0 by decide)] | rw [if_pos (show (-1 : Int) < 0 by decide)] | rw [c149_57])
      · rw [c282 (hg := gC142 hs c)]
        by_cases w : v ≤ 57
        · by_cases w2 : v - 40 < 8
          · skip
            repeat (first | rw [bnd_s] | rw [tI_m] | rw [tL_m] | rw [tA_m] | rw [tV_m] | rw [fC142 hs _ (by decide)] | rw [pC142 hs _ _ (by decide)] | rw [MS_0 hm] | rw [MS_1 hm] | rw [MS_2 hm] | rw [MS_3 hm] | rw [MS_4 hm] | rw [MS_5 hm] | rw [MS_7 hm] | rw [MS_8 hm] | rw [MS_21 hm] | rw [MS_29 hm] | rw [MS_30 hm] | rw [MS_31 hm] | rw [MS_37 hm] | rw [MS_38 hm] | rw [MS_39 hm] | rw [MS_40 hm] | rw [aC143 hs _ (show 0 ≤ (0 : Int) by decide) (by decide)] | rw [aC143 hs _ (show 0 ≤ (1 : Int) by decide) (by decide)] | rw [aC143 hs _ (show 0 ≤ (2 : Int) by decide) (by decide)] | rw [aC143 hs _ (show 0 ≤ (3 : Int) by decide) (by decide)] | rw [show (0 : Int).toNat = 0 from rfl] | rw [show (1 : Int).toNat = 1 from rfl] | rw [show (2 : Int).toNat = 2 from rfl] | rw [show (3 : Int).toNat = 3 from rfl] | rw [m172] | rw [if_b0] | rw [inR_f (show ¬ ((10 : Int) ≤ v ∧ v ≤ 13) by omega)] | rw [inR_f (show ¬ ((20 : Int) ≤ v ∧ v ≤ 23) by omega)] | rw [inR_t (show (30 : Int) ≤ v ∧ v ≤ 57 by omega)] | rw [cond_f] | rw [cond_t] | rw [idiv_n (x := v) (y := 10) (by omega) (by omega) (by decide) (by decide)] | rw [irem_n (x := v) (y := 10) (by omega) (by omega) (by decide) (by decide)] | rw [e1] | rw [e2] | rw [if_pos w2] | rw [m221 _ hI] | rw [inR_f (show ¬ (0 ≤ v - 40 ∧ v - 40 ≤ c 143 1 - 1) by omega)] | rw [c282_75] | rw [c282_76])
          · skip
            repeat (first | rw [bnd_s] | rw [tI_m] | rw [tL_m] | rw [tA_m] | rw [tV_m] | rw [fC142 hs _ (by decide)] | rw [pC142 hs _ _ (by decide)] | rw [MS_0 hm] | rw [MS_1 hm] | rw [MS_2 hm] | rw [MS_3 hm] | rw [MS_4 hm] | rw [MS_5 hm] | rw [MS_7 hm] | rw [MS_8 hm] | rw [MS_21 hm] | rw [MS_29 hm] | rw [MS_30 hm] | rw [MS_31 hm] | rw [MS_37 hm] | rw [MS_38 hm] | rw [MS_39 hm] | rw [MS_40 hm] | rw [aC143 hs _ (show 0 ≤ (0 : Int) by decide) (by decide)] | rw [aC143 hs _ (show 0 ≤ (1 : Int) by decide) (by decide)] | rw [aC143 hs _ (show 0 ≤ (2 : Int) by decide) (by decide)] | rw [aC143 hs _ (show 0 ≤ (3 : Int) by decide) (by decide)] | rw [show (0 : Int).toNat = 0 from rfl] | rw [show (1 : Int).toNat = 1 from rfl] | rw [show (2 : Int).toNat = 2 from rfl] | rw [show (3 : Int).toNat = 3 from rfl] | rw [m172] | rw [if_b0] | rw [inR_f (show ¬ ((10 : Int) ≤ v ∧ v ≤ 13) by omega)] | rw [inR_f (show ¬ ((20 : Int) ≤ v ∧ v ≤ 23) by omega)] | rw [inR_t (show (30 : Int) ≤ v ∧ v ≤ 57 by omega)] | rw [cond_f] | rw [cond_t] | rw [idiv_n (x := v) (y := 10) (by omega) (by omega) (by decide) (by decide)] | rw [irem_n (x := v) (y := 10) (by omega) (by omega) (by decide) (by decide)] | rw [e1] | rw [e2] | rw [if_neg w2] | rw [c282_75] | rw [c282_76])
        · skip
          repeat (first | rw [bnd_s] | rw [tI_m] | rw [tL_m] | rw [tA_m] | rw [tV_m] | rw [fC142 hs _ (by decide)] | rw [pC142 hs _ _ (by decide)] | rw [MS_0 hm] | rw [MS_1 hm] | rw [MS_2 hm] | rw [MS_3 hm] | rw [MS_4 hm] | rw [MS_5 hm] | rw [MS_7 hm] | rw [MS_8 hm] | rw [MS_21 hm] | rw [MS_29 hm] | rw [MS_30 hm] | rw [MS_31 hm] | rw [MS_37 hm] | rw [MS_38 hm] | rw [MS_39 hm] | rw [MS_40 hm] | rw [aC143 hs _ (show 0 ≤ (0 : Int) by decide) (by decide)] | rw [aC143 hs _ (show 0 ≤ (1 : Int) by decide) (by decide)] | rw [aC143 hs _ (show 0 ≤ (2 : Int) by decide) (by decide)] | rw [aC143 hs _ (show 0 ≤ (3 : Int) by decide) (by decide)] | rw [show (0 : Int).toNat = 0 from rfl] | rw [show (1 : Int).toNat = 1 from rfl] | rw [show (2 : Int).toNat = 2 from rfl] | rw [show (3 : Int).toNat = 3 from rfl] | rw [m172] | rw [if_b0] | rw [inR_f (by omega)] | rw [cond_f] | rw [if_neg h0] | rw [if_neg h1] | rw [if_neg h2] | rw [if_neg h3] | rw [if_neg h4] | rw [if_neg h5])
  have g5 : v < 60 := by omega
  · have e1 : v / 10 = 5 := by omega
    have e2 : v % 10 = v - 50 := by omega
    by_cases q : v - 50 < c 143 1
    · have hr := hI.2.2.2.2.1.2.2.2.2.1 (v - 50).toNat (by omega)
      have hh := ((SB_30 hs hc).2.2.2.2 (v - 50).toNat (by omega)).2
      have hv : c (60 + 2 * (v - 50).toNat) 2 = c 145 (800 * (v - 50).toNat + 3) := hr.1.2.1
      refine ⟨vI (c 145 (800 * (v - 50).toNat + 3)), s, s, c, c, n, ?_, ?_, by omega, hI⟩
      · rw [c149 (hg := gC29 hs c)]
        repeat (first | rw [if_neg h0] | rw [if_neg h1] | rw [if_neg h2] | rw [if_neg h3] | rw [if_neg h4] | rw [if_neg h5] | rw [if_neg (show ¬ v < 10 by omega)] | rw [if_neg (show ¬ 59 < v by omega)] | rw [idiv_n (x := v) (y := 10) (by omega) (by omega) (by decide) (by decide)] | rw [irem_n (x := v) (y := 10) (by omega) (by omega) (by decide) (by decide)] | rw [e1] | rw [e2] | rw [if_neg (show ¬ v < 30 by omega)])
        rw [c151 (hg := gC29 hs c)]
        repeat (first | rw [bnd_s] | rw [tI_m] | rw [tL_m] | rw [tA_m] | rw [tV_m] | rw [fC29 hs _ (by decide)] | rw [pC29 hs _ _ (by decide)] | rw [CS_29_0 hc] | rw [k114 _ hI] | rw [if_pos (show 0 ≤ v - 50 ∧ v - 50 < c 143 1 by omega)] | rw [if_neg (show ¬ ((60 + 2 * (v - 50).toNat : Nat) : Int) = 0 by omega)] | rw [if_neg (show ¬ ((60 + 2 * (v - 50).toNat : Nat) : Int) < 0 by omega)] | rw [if_pos (show (5 : Int) = 5 from rfl)] | rw [if_neg (show ¬ (5 : Int) = 3 by decide)] | rw [if_neg (show ¬ (5 : Int) = 4 by decide)] | rw [gF_g hh.1.1 _ (by decide)] | rw [hv] | rw [c149_57])
      · rw [c282 (hg := gC142 hs c)]
        repeat (first | rw [bnd_s] | rw [tI_m] | rw [tL_m] | rw [tA_m] | rw [tV_m] | rw [fC142 hs _ (by decide)] | rw [pC142 hs _ _ (by decide)] | rw [MS_0 hm] | rw [MS_1 hm] | rw [MS_2 hm] | rw [MS_3 hm] | rw [MS_4 hm] | rw [MS_5 hm] | rw [MS_7 hm] | rw [MS_8 hm] | rw [MS_21 hm] | rw [MS_29 hm] | rw [MS_30 hm] | rw [MS_31 hm] | rw [MS_37 hm] | rw [MS_38 hm] | rw [MS_39 hm] | rw [MS_40 hm] | rw [aC143 hs _ (show 0 ≤ (0 : Int) by decide) (by decide)] | rw [aC143 hs _ (show 0 ≤ (1 : Int) by decide) (by decide)] | rw [aC143 hs _ (show 0 ≤ (2 : Int) by decide) (by decide)] | rw [aC143 hs _ (show 0 ≤ (3 : Int) by decide) (by decide)] | rw [show (0 : Int).toNat = 0 from rfl] | rw [show (1 : Int).toNat = 1 from rfl] | rw [show (2 : Int).toNat = 2 from rfl] | rw [show (3 : Int).toNat = 3 from rfl] | rw [m172] | rw [if_b0] | rw [inR_f (show ¬ ((10 : Int) ≤ v ∧ v ≤ 13) by omega)] | rw [inR_f (show ¬ ((20 : Int) ≤ v ∧ v ≤ 23) by omega)] | rw [inR_t (show (30 : Int) ≤ v ∧ v ≤ 57 by omega)] | rw [cond_f] | rw [cond_t] | rw [idiv_n (x := v) (y := 10) (by omega) (by omega) (by decide) (by decide)] | rw [irem_n (x := v) (y := 10) (by omega) (by omega) (by decide) (by decide)] | rw [e1] | rw [e2] | rw [if_pos (show v - 50 < 8 by omega)] | rw [m221 _ hI] | rw [inR_t (show 0 ≤ v - 50 ∧ v - 50 ≤ c 143 1 - 1 by omega)] | rw [w32_id (z := 800 * (v - 50)) (by omega) (by omega)] | rw [w32_id (z := 800 * (v - 50) + 5) (by omega) (by omega)] | rw [w32_id (z := 800 * (v - 50) + 5 - 2) (by omega) (by omega)] | rw [aC145 hs _ (show 0 ≤ 800 * (v - 50) + 5 - 2 by omega) (by omega)] | rw [show (800 * (v - 50) + 5 - 2).toNat = 800 * (v - 50).toNat + 3 by omega] | rw [c282_76])
    · refine ⟨vI (-1), s, s, c, c, n, ?_, ?_, by omega, hI⟩
      · rw [c149 (hg := gC29 hs c)]
        repeat (first | rw [if_neg h0] | rw [if_neg h1] | rw [if_neg h2] | rw [if_neg h3] | rw [if_neg h4] | rw [if_neg h5] | rw [if_neg (show ¬ v < 10 by omega)] | rw [if_neg (show ¬ 59 < v by omega)] | rw [idiv_n (x := v) (y := 10) (by omega) (by omega) (by decide) (by decide)] | rw [irem_n (x := v) (y := 10) (by omega) (by omega) (by decide) (by decide)] | rw [e1] | rw [e2] | rw [if_neg (show ¬ v < 30 by omega)])
        rw [c151 (hg := gC29 hs c)]
        repeat (first | rw [bnd_s] | rw [tI_m] | rw [tL_m] | rw [tA_m] | rw [tV_m] | rw [fC29 hs _ (by decide)] | rw [pC29 hs _ _ (by decide)] | rw [CS_29_0 hc] | rw [k114 _ hI] | rw [if_neg (show ¬ (0 ≤ v - 50 ∧ v - 50 < c 143 1) by omega)] | rw [if_neg (show ¬ (-1 : Int) = 0 by decide)] | rw [if_pos (show (-1 : Int) < 0 by decide)] | rw [c149_57])
      · rw [c282 (hg := gC142 hs c)]
        by_cases w : v ≤ 57
        · by_cases w2 : v - 50 < 8
          · skip
            repeat (first | rw [bnd_s] | rw [tI_m] | rw [tL_m] | rw [tA_m] | rw [tV_m] | rw [fC142 hs _ (by decide)] | rw [pC142 hs _ _ (by decide)] | rw [MS_0 hm] | rw [MS_1 hm] | rw [MS_2 hm] | rw [MS_3 hm] | rw [MS_4 hm] | rw [MS_5 hm] | rw [MS_7 hm] | rw [MS_8 hm] | rw [MS_21 hm] | rw [MS_29 hm] | rw [MS_30 hm] | rw [MS_31 hm] | rw [MS_37 hm] | rw [MS_38 hm] | rw [MS_39 hm] | rw [MS_40 hm] | rw [aC143 hs _ (show 0 ≤ (0 : Int) by decide) (by decide)] | rw [aC143 hs _ (show 0 ≤ (1 : Int) by decide) (by decide)] | rw [aC143 hs _ (show 0 ≤ (2 : Int) by decide) (by decide)] | rw [aC143 hs _ (show 0 ≤ (3 : Int) by decide) (by decide)] | rw [show (0 : Int).toNat = 0 from rfl] | rw [show (1 : Int).toNat = 1 from rfl] | rw [show (2 : Int).toNat = 2 from rfl] | rw [show (3 : Int).toNat = 3 from rfl] | rw [m172] | rw [if_b0] | rw [inR_f (show ¬ ((10 : Int) ≤ v ∧ v ≤ 13) by omega)] | rw [inR_f (show ¬ ((20 : Int) ≤ v ∧ v ≤ 23) by omega)] | rw [inR_t (show (30 : Int) ≤ v ∧ v ≤ 57 by omega)] | rw [cond_f] | rw [cond_t] | rw [idiv_n (x := v) (y := 10) (by omega) (by omega) (by decide) (by decide)] | rw [irem_n (x := v) (y := 10) (by omega) (by omega) (by decide) (by decide)] | rw [e1] | rw [e2] | rw [if_pos w2] | rw [m221 _ hI] | rw [inR_f (show ¬ (0 ≤ v - 50 ∧ v - 50 ≤ c 143 1 - 1) by omega)] | rw [c282_75] | rw [c282_76])
          · skip
            repeat (first | rw [bnd_s] | rw [tI_m] | rw [tL_m] | rw [tA_m] | rw [tV_m] | rw [fC142 hs _ (by decide)] | rw [pC142 hs _ _ (by decide)] | rw [MS_0 hm] | rw [MS_1 hm] | rw [MS_2 hm] | rw [MS_3 hm] | rw [MS_4 hm] | rw [MS_5 hm] | rw [MS_7 hm] | rw [MS_8 hm] | rw [MS_21 hm] | rw [MS_29 hm] | rw [MS_30 hm] | rw [MS_31 hm] | rw [MS_37 hm] | rw [MS_38 hm] | rw [MS_39 hm] | rw [MS_40 hm] | rw [aC143 hs _ (show 0 ≤ (0 : Int) by decide) (by decide)] | rw [aC143 hs _ (show 0 ≤ (1 : Int) by decide) (by decide)] | rw [aC143 hs _ (show 0 ≤ (2 : Int) by decide) (by decide)] | rw [aC143 hs _ (show 0 ≤ (3 : Int) by decide) (by decide)] | rw [show (0 : Int).toNat = 0 from rfl] | rw [show (1 : Int).toNat = 1 from rfl] | rw [show (2 : Int).toNat = 2 from rfl] | rw [show (3 : Int).toNat = 3 from rfl] | rw [m172] | rw [if_b0] | rw [inR_f (show ¬ ((10 : Int) ≤ v ∧ v ≤ 13) by omega)] | rw [inR_f (show ¬ ((20 : Int) ≤ v ∧ v ≤ 23) by omega)] | rw [inR_t (show (30 : Int) ≤ v ∧ v ≤ 57 by omega)] | rw [cond_f] | rw [cond_t] | rw [idiv_n (x := v) (y := 10) (by omega) (by omega) (by decide) (by decide)] | rw [irem_n (x := v) (y := 10) (by omega) (by omega) (by decide) (by decide)] | rw [e1] | rw [e2] | rw [if_neg w2] | rw [c282_75] | rw [c282_76])
        · skip
          repeat (first | rw [bnd_s] | rw [tI_m] | rw [tL_m] | rw [tA_m] | rw [tV_m] | rw [fC142 hs _ (by decide)] | rw [pC142 hs _ _ (by decide)] | rw [MS_0 hm] | rw [MS_1 hm] | rw [MS_2 hm] | rw [MS_3 hm] | rw [MS_4 hm] | rw [MS_5 hm] | rw [MS_7 hm] | rw [MS_8 hm] | rw [MS_21 hm] | rw [MS_29 hm] | rw [MS_30 hm] | rw [MS_31 hm] | rw [MS_37 hm] | rw [MS_38 hm] | rw [MS_39 hm] | rw [MS_40 hm] | rw [aC143 hs _ (show 0 ≤ (0 : Int) by decide) (by decide)] | rw [aC143 hs _ (show 0 ≤ (1 : Int) by decide) (by decide)] | rw [aC143 hs _ (show 0 ≤ (2 : Int) by decide) (by decide)] | rw [aC143 hs _ (show 0 ≤ (3 : Int) by decide) (by decide)] | rw [show (0 : Int).toNat = 0 from rfl] | rw [show (1 : Int).toNat = 1 from rfl] | rw [show (2 : Int).toNat = 2 from rfl] | rw [show (3 : Int).toNat = 3 from rfl] | rw [m172] | rw [if_b0] | rw [inR_f (by omega)] | rw [cond_f] | rw [if_neg h0] | rw [if_neg h1] | rw [if_neg h2] | rw [if_neg h3] | rw [if_neg h4] | rw [if_neg h5])
