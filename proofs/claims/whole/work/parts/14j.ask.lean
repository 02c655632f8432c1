/-! asking, and what was pulled -/
theorem m255_4 (d : Nat) {s : List (Nat × Nat)} {c : Nat → Nat → Int} (hs : SpL s) (hm : MS c) (hb : ∀ l : Int, 0 ≤ l → l < 7 → 0 ≤ c 143 (310 + l).toNat ∧ c 143 (310 + l).toNat ≤ 1) : ∀ (n : Nat) (j a : Int), 0 ≤ j → j + n = 7 → 0 ≤ a → a ≤ j → Rr (Cd d) 255 4 [some (vA 142), some (vI a), some (vI j)] [] (s, c) = some ([vI (a + sumU (fun l => c 143 (310 + l).toNat) n j)], (s, c))
  | 0, j, a, h0, h, ha, ha2 => by rw [c255_4, if_neg (by omega)]; simp [sumU]
  | n + 1, j, a, h0, h, ha, ha2 => by
    have b := hb j h0 (by omega)
    have ih := m255_4 d hs hm hb n (j + 1) (a + c 143 (310 + j).toNat) (by omega) (by omega) (by omega) (by omega)
    rw [c255_4, if_pos (by omega)]
    repeat (first | rw [bnd_s] | rw [tI_m] | rw [tL_m] | rw [tA_m] | rw [tV_m] | rw [fC142 hs _ (by decide)] | rw [pC142 hs _ _ (by decide)] | rw [MS_0 hm] | rw [MS_1 hm] | rw [MS_2 hm] | rw [MS_3 hm] | rw [MS_4 hm] | rw [MS_5 hm] | rw [MS_7 hm] | rw [MS_8 hm] | rw [MS_21 hm] | rw [MS_29 hm] | rw [MS_30 hm] | rw [MS_31 hm] | rw [MS_37 hm] | rw [MS_38 hm] | rw [MS_39 hm] | rw [MS_40 hm] | rw [w32_m (by omega) (by omega)] | rw [w32_al] | rw [w32_ar] | rw [w32_sl] | rw [w32_sr] | rw [w32_ml] | rw [w32_mr] | rw [w32_a3] | rw [w32_b3] | rw [w32_c3] | rw [w32_d3] | rw [w32_id (by omega) (by omega)] | rw [aC143 hs _ (show 0 ≤ 310 + j by omega) (by omega)])
    rw [ih]; simp only [sumU]; rw [Int.add_assoc]
theorem m255 (d : Nat) {s : List (Nat × Nat)} {c : Nat → Nat → Int} (hs : SpL s) (hm : MS c) (hb : ∀ l : Int, 0 ≤ l → l < 7 → 0 ≤ c 143 (310 + l).toNat ∧ c 143 (310 + l).toNat ≤ 1) : Cd (d + 1) 255 [vA 142] (s, c) = some ([vI (sumU (fun l => c 143 (310 + l).toNat) 7 0)], (s, c)) := by
  rw [c255 (hg := gC142 hs c), m255_4 d hs hm hb 7 0 0 (by omega) (by omega) (by omega) (by omega), Int.zero_add]
theorem bt_hi {x k : Int} (h0 : 0 ≤ x) (h1 : x < 128) (hk : 7 ≤ k) : bt x k = false := by
  unfold bt
  exact Nat.testBit_lt_two_pow (Nat.lt_of_lt_of_le (show x.toNat < 2 ^ 7 by omega) (Nat.pow_le_pow_right (by decide) (by omega)))
theorem pop_s {x : Int} (h0 : 0 ≤ x) (h1 : x < 128) : pop x = sumU (fun l => b2i (bt x l)) 7 0 := by
  unfold pop
  rw [bt_hi h0 h1 (by decide : (7 : Int) ≤ 7), bt_hi h0 h1 (by decide : (7 : Int) ≤ 8)]
  simp only [sumU, b2i_f]
  have e : ∀ k : Int, (0 : Int) + 1 = 1 ∧ (1 : Int) + 1 = 2 ∧ (2 : Int) + 1 = 3 ∧ (3 : Int) + 1 = 4 ∧ (4 : Int) + 1 = 5 ∧ (5 : Int) + 1 = 6 := fun _ => by decide
  obtain ⟨e1, e2, e3, e4, e5, e6⟩ := e 0
  rw [e1, e2, e3, e4, e5, e6]
  omega
theorem op_ask (v : Int) : Op 136 256 [vI v] := by
  intro s c n hI
  have hs := hI.1.l
  have hc := hI.2.2.2.1
  have hm := hI.2.2.1
  have n2 := hI.nM.2
  have n1 := hI.nM.1
  have hmok := hI.mok
  obtain ⟨a10, a11, a12, a13⟩ := hI.2.2.2.2.1.2.2.2.2.2
  rcases a11 with ⟨b4, bm⟩ | ⟨b4, b5, bm, bp, bs, bl⟩
  · have bm : c 36 0 = -1 := bm
    have r1 : Cd 999 136 [vA 29, vI v] (s, c) = some ([vI (-1)], (s, c)) := by
      rw [c136 (hg := gC29 hs c)]
      repeat (first | rw [bnd_s] | rw [tI_m] | rw [tL_m] | rw [tA_m] | rw [tV_m] | rw [fC29 hs _ (by decide)] | rw [pC29 hs _ _ (by decide)] | rw [fC30 hs _ (by decide)] | rw [pC30 hs _ _ (by decide)] | rw [fC36 hs _ (by decide)] | rw [pC36 hs _ _ (by decide)] | rw [CS_29_0 hc] | rw [CS_30_3 hc] | rw [bm] | rw [k113 _ hs hc hI.2.2.2.2.1.1.1 hI.nM] | rw [if_neg (show ¬ (0 ≤ (-1 : Int) ∧ (-1 : Int) < c 143 0) by omega)] | rw [if_neg (show ¬ (-1 : Int) = 0 by decide)] | rw [if_pos (show (-1 : Int) < 0 by decide)] | rw [c136_16])
    have r2 : Cd 999 256 [vA 142, vI v] (s, c) = some ([vI (-1)], (s, c)) := by
      rw [c256 (hg := gC142 hs c)]
      repeat (first | rw [bnd_s] | rw [tI_m] | rw [tL_m] | rw [tA_m] | rw [tV_m] | rw [fC142 hs _ (by decide)] | rw [pC142 hs _ _ (by decide)] | rw [MS_0 hm] | rw [MS_1 hm] | rw [MS_2 hm] | rw [MS_3 hm] | rw [MS_4 hm] | rw [MS_5 hm] | rw [MS_7 hm] | rw [MS_8 hm] | rw [MS_21 hm] | rw [MS_29 hm] | rw [MS_30 hm] | rw [MS_31 hm] | rw [MS_37 hm] | rw [MS_38 hm] | rw [MS_39 hm] | rw [MS_40 hm] | rw [aC143 hs _ (by decide) (by decide)] | rw [show (0 : Int).toNat = 0 from rfl] | rw [show (1 : Int).toNat = 1 from rfl] | rw [show (2 : Int).toNat = 2 from rfl] | rw [show (3 : Int).toNat = 3 from rfl] | rw [show (4 : Int).toNat = 4 from rfl] | rw [show (5 : Int).toNat = 5 from rfl] | rw [if_pos b4] | rw [c256_20])
    exact ⟨_, s, s, c, c, n, r1, r2, by omega, hI⟩
  have bm : c 36 0 = c 143 5 := bm
  have bp : 0 ≤ c 36 1 ∧ c 36 1 < 16384 := bp
  have bs : 0 ≤ c 36 2 ∧ c 36 2 < 128 := bs
  have bl : ∀ l : Int, 0 ≤ l → l < 7 → c 143 (310 + l).toNat = b2i (bt (c 36 2) l) ∧ (l < c 143 (20 + c 143 5).toNat → (0 ≤ c 143 (300 + l).toNat ∧ c 143 (300 + l).toNat ≤ 2) ∧ pin (c 36 1) l = c 143 (300 + l).toNat) ∧ (c 143 (20 + c 143 5).toNat ≤ l → bt (c 36 2) l = false) := bl
  have hr := hI.map (m := (c 143 5).toNat) (by omega)
  have hch := chN hs hc (m := (c 143 5).toNat) (by omega)
  rw [Int.toNat_of_nonneg b5.1] at hr
  have hk := hmok _ b5.1 b5.2
  generalize hM : c 143 5 = M at *
  obtain ⟨⟨e4, e5⟩, ⟨k2, k3⟩, ⟨k4, k5⟩, k6, k7⟩ := hr
  by_cases h1 : 0 ≤ v
  · by_cases h2 : v < c 143 (24 + M).toNat
    · have g := k6 v h1 h2
      generalize hX : c 143 (30 + 30 * M + 2 * v).toNat = X at *
      generalize hY : c 143 (30 + 30 * M + 2 * v + 1).toNat = Y at *
      have sx := sh1 g.2.1.1 (show X < 7 by omega)
      have sy := sh1 g.2.2.1.1 (show Y < 7 by omega)
      have o1 := ior_b sx.1.1 sx.1.2 sy.1.1 sy.1.2
      have o2 := ior_b bs.1 bs.2 o1.1 o1.2
      have ob : ∀ l : Int, 0 ≤ l → l < 7 → bt (ior (c 36 2) (ior (ishl 1 X) (ishl 1 Y))) l = (bt (c 36 2) l || (decide (l = X) || decide (l = Y))) := fun l hl hl2 => by rw [bt_ior bs.1 (by omega) o1.1 (by omega), bt_ior sx.1.1 (by omega) sy.1.1 (by omega), sx.2 l hl hl2, sy.2 l hl hl2]
      have r1 : Cd 999 136 [vA 29, vI v] (s, c) = some ([vI (pop (ior (c 36 2) (ior (ishl 1 X) (ishl 1 Y))))], (s, u2 c 36 2 (ior (c 36 2) (ior (ishl 1 X) (ishl 1 Y))))) := by
        rw [c136 (hg := gC29 hs c)]
        repeat (first | rw [bnd_s] | rw [tI_m] | rw [tL_m] | rw [tA_m] | rw [tV_m] | rw [fC29 hs _ (by decide)] | rw [pC29 hs _ _ (by decide)] | rw [fC30 hs _ (by decide)] | rw [pC30 hs _ _ (by decide)] | rw [fC36 hs _ (by decide)] | rw [pC36 hs _ _ (by decide)] | rw [CS_29_0 hc] | rw [CS_30_3 hc] | rw [bm] | rw [k113 _ hs hc hI.2.2.2.2.1.1.1 hI.nM] | rw [if_pos (show 0 ≤ M ∧ M < c 143 0 from b5)] | rw [if_neg (show ¬ ((40 + 5 * M.toNat : Nat) : Int) = 0 by omega)] | rw [if_neg (show ¬ ((40 + 5 * M.toNat : Nat) : Int) < 0 by omega)] | rw [gF_g hch.1.1 _ (by decide)] | rw [hch.2.1] | rw [hch.2.2.1] | rw [gA_g (a := 0) hch.1.2.1 _ (by omega) (by omega)] | rw [gA_g (a := 0) hch.1.2.2.1 _ (by omega) (by omega)] | rw [u2_e] | rw [u2_n (by omega)] | rw [e5] | rw [if_neg (show ¬ v < 0 by omega)] | rw [if_pos h2] | rw [g.1.1] | rw [g.1.2] | rw [c3 (hg := gC36 hs _)] | rw [j284 _ _ o2.1 (by omega)])
      have hm1 : MS (u2 c 36 2 (ior (c 36 2) (ior (ishl 1 X) (ishl 1 Y)))) := MS_a hm _ (by decide)
      have q1 : ∀ o k, ¬ (o = 36 ∧ k = 2) → (u2 c 36 2 (ior (c 36 2) (ior (ishl 1 X) (ishl 1 Y)))) o k = c o k := fun o k ho => u2_n ho
      have q2 : (u2 c 36 2 (ior (c 36 2) (ior (ishl 1 X) (ishl 1 Y)))) 36 2 = ior (c 36 2) (ior (ishl 1 X) (ishl 1 Y)) := u2_e _ _ _ _
      generalize hS : ior (c 36 2) (ior (ishl 1 X) (ishl 1 Y)) = S at *
      generalize (u2 c 36 2 S) = c1 at *
      have e143 : ∀ k, c1 143 k = c 143 k := fun k => q1 _ _ (by omega)
      have hk1 := MapOK_of hk (funext e143)
      have hm2 : MS (u2 c1 143 (310 + X).toNat 1) := MS_a hm1 _ (by decide)
      have hm3 : MS (u2 (u2 c1 143 (310 + X).toNat 1) 143 (310 + Y).toNat 1) := MS_a hm2 _ (by decide)
      have s3 : ∀ l : Int, 0 ≤ l → l < 7 → (u2 (u2 c1 143 (310 + X).toNat 1) 143 (310 + Y).toNat 1) 143 (310 + l).toNat = b2i (bt S l) := fun l hl hl2 => by
        rw [ob l hl hl2]
        by_cases y : l = Y
        · subst y; rw [u2_e, decide_eq_true rfl, Bool.or_true, Bool.or_true]; rfl
        · rw [u2_n (by omega), decide_eq_false y, Bool.or_false]
          by_cases x : l = X
          · subst x; rw [u2_e, decide_eq_true rfl, Bool.or_true]; rfl
          · rw [u2_n (by omega), decide_eq_false x, Bool.or_false, e143]; exact (bl l hl hl2).1
      have r2 : Cd 999 256 [vA 142, vI v] (s, c1) = some ([vI (pop S)], (s, u2 (u2 c1 143 (310 + X).toNat 1) 143 (310 + Y).toNat 1)) := by
        rw [c256 (hg := gC142 hs c1), pop_s o2.1 o2.2, ← sumU_cg 7 0 (fun l h1 h2 => s3 l h1 (by omega))]
        repeat (first | rw [bnd_s] | rw [tI_m] | rw [tL_m] | rw [tA_m] | rw [tV_m] | rw [fC142 hs _ (by decide)] | rw [pC142 hs _ _ (by decide)] | rw [MS_0 hm1] | rw [MS_0 hm2] | rw [MS_0 hm3] | rw [aC143 hs _ (by decide) (by decide)] | rw [show (0 : Int).toNat = 0 from rfl] | rw [show (1 : Int).toNat = 1 from rfl] | rw [show (2 : Int).toNat = 2 from rfl] | rw [show (3 : Int).toNat = 3 from rfl] | rw [show (4 : Int).toNat = 4 from rfl] | rw [show (5 : Int).toNat = 5 from rfl] | rw [u2_n (k' := 5) (by omega)] | rw [e143] | rw [hM] | rw [b4] | rw [hX] | rw [hY] | rw [if_neg (show ¬ (1 : Int) = 0 by decide)] | rw [w32_id (z := 24 + M) (by omega) (by omega)] | rw [aC143 hs _ (show 0 ≤ 24 + M by omega) (by omega)] | rw [w32_id (by omega) (by omega)] | rw [m172] | rw [if_b0] | rw [decide_eq_true (by omega)] | rw [decide_eq_false (by omega)] | rw [inR_t (by omega)] | rw [inR_f (by omega)] | rw [cond_t] | rw [cond_f] | rw [m176 _ hs hm1 b5.1 (by omega) h1 (by omega)] | rw [m177 _ hs hm2 b5.1 (by omega) h1 (by omega)] | rw [qC143 hs _ _ (show 0 ≤ 310 + X by omega) (by omega)] | rw [qC143 hs _ _ (show 0 ≤ 310 + Y by omega) (by omega)] | rw [u2_n (k' := (30 + 30 * M + 2 * v + 1).toNat) (by omega)] | rw [m255 _ hs hm3 (fun l h1 h2 => by rw [s3 l h1 h2]; exact b2i_b _)])
      refine ⟨_, s, s, c1, _, n, r1, r2, by omega, ?_⟩
      have fc : ∀ o k, o ≠ 143 → ¬ (o = 36 ∧ k = 2) → (u2 (u2 c1 143 (310 + X).toNat 1) 143 (310 + Y).toNat 1) o k = c o k := fun o k x1 x2 => by rw [u2_n (by omega), u2_n (by omega), q1 _ _ x2]
      have fo : ∀ k, ¬ (310 ≤ k ∧ k < 317) → (u2 (u2 c1 143 (310 + X).toNat 1) 143 (310 + Y).toNat 1) 143 k = c 143 k := fun k x1 => by rw [u2_n (by omega), u2_n (by omega), e143]
      have fs : (u2 (u2 c1 143 (310 + X).toNat 1) 143 (310 + Y).toNat 1) 36 2 = S := by rw [u2_n (by omega), u2_n (by omega), q2]
      generalize (u2 (u2 c1 143 (310 + X).toNat 1) 143 (310 + Y).toNat 1) = c2 at *
      refine Inv_set hI (fun o k x1 x2 => fc o k x2 (by omega)) (fc 38 0 (by omega) (by omega)) (fun k hk => fo k (by omega)) (SeeRel_of a10 (fun k x1 x2 => fo k (by omega)) (funext fun k => fc _ _ (by omega) (by omega)) (funext fun k => fc _ _ (by omega) (by omega))) (Or.inr ⟨?_, ?_, ?_, ?_, ?_, fun l hl hl2 => ?_⟩) (LockRel_of a12 (fun k x1 x2 => fo k (by omega)) (funext fun k => fc _ _ (by omega) (by omega))) (RidRel_of a13 (fo 2 (by omega)) (fo 3 (by omega)) (fun k x1 x2 => fo k (by omega)) (funext fun k => fc _ _ (by omega) (by omega)) (funext fun k => fc _ _ (by omega) (by omega)))
      · rw [fo 4 (by omega)]; exact b4
      · rw [fo 5 (by omega), fo 0 (by omega), hM]; exact b5
      · show c2 36 0 = _; rw [fc 36 0 (by omega) (by omega), fo 5 (by omega), hM]; exact bm
      · show 0 ≤ c2 36 1 ∧ c2 36 1 < 16384; rw [fc 36 1 (by omega) (by omega)]; exact bp
      · show 0 ≤ c2 36 2 ∧ c2 36 2 < 128; rw [fs]; exact o2
      · show _ = b2i (bt (c2 36 2) l) ∧ (_ → _ ∧ pin (c2 36 1) l = _) ∧ (_ → bt (c2 36 2) l = false)
        rw [fs, fc 36 1 (by omega) (by omega), fo 5 (by omega), hM, fo (20 + M).toNat (by omega), fo (300 + l).toNat (by omega), s3 l hl hl2]
        exact ⟨rfl, (bl l hl hl2).2.1, fun x => by rw [ob l hl hl2, (bl l hl hl2).2.2 x, decide_eq_false (by omega), decide_eq_false (by omega)]; rfl⟩
    · have r1 : Cd 999 136 [vA 29, vI v] (s, c) = some ([vI (-1)], (s, c)) := by
        rw [c136 (hg := gC29 hs c)]
        repeat (first | rw [bnd_s] | rw [tI_m] | rw [tL_m] | rw [tA_m] | rw [tV_m] | rw [fC29 hs _ (by decide)] | rw [pC29 hs _ _ (by decide)] | rw [fC30 hs _ (by decide)] | rw [pC30 hs _ _ (by decide)] | rw [fC36 hs _ (by decide)] | rw [pC36 hs _ _ (by decide)] | rw [CS_29_0 hc] | rw [CS_30_3 hc] | rw [bm] | rw [k113 _ hs hc hI.2.2.2.2.1.1.1 hI.nM] | rw [if_pos (show 0 ≤ M ∧ M < c 143 0 from b5)] | rw [if_neg (show ¬ ((40 + 5 * M.toNat : Nat) : Int) = 0 by omega)] | rw [if_neg (show ¬ ((40 + 5 * M.toNat : Nat) : Int) < 0 by omega)] | rw [gF_g hch.1.1 _ (by decide)] | rw [hch.2.1] | rw [hch.2.2.1] | rw [gA_g (a := 0) hch.1.2.1 _ (by omega) (by omega)] | rw [gA_g (a := 0) hch.1.2.2.1 _ (by omega) (by omega)] | rw [e5] | rw [if_pos (by omega)] | rw [if_neg (by omega)] | rw [c136_16])
      have r2 : Cd 999 256 [vA 142, vI v] (s, c) = some ([vI (-1)], (s, c)) := by
        rw [c256 (hg := gC142 hs c)]
        repeat (first | rw [bnd_s] | rw [tI_m] | rw [tL_m] | rw [tA_m] | rw [tV_m] | rw [fC142 hs _ (by decide)] | rw [pC142 hs _ _ (by decide)] | rw [MS_0 hm] | rw [MS_1 hm] | rw [MS_2 hm] | rw [MS_3 hm] | rw [MS_4 hm] | rw [MS_5 hm] | rw [MS_7 hm] | rw [MS_8 hm] | rw [MS_21 hm] | rw [MS_29 hm] | rw [MS_30 hm] | rw [MS_31 hm] | rw [MS_37 hm] | rw [MS_38 hm] | rw [MS_39 hm] | rw [MS_40 hm] | rw [aC143 hs _ (by decide) (by decide)] | rw [show (0 : Int).toNat = 0 from rfl] | rw [show (1 : Int).toNat = 1 from rfl] | rw [show (2 : Int).toNat = 2 from rfl] | rw [show (3 : Int).toNat = 3 from rfl] | rw [show (4 : Int).toNat = 4 from rfl] | rw [show (5 : Int).toNat = 5 from rfl] | rw [hM] | rw [b4] | rw [if_neg (show ¬ (1 : Int) = 0 by decide)] | rw [w32_id (z := 24 + M) (by omega) (by omega)] | rw [aC143 hs _ (show 0 ≤ 24 + M by omega) (by omega)] | rw [w32_id (by omega) (by omega)] | rw [m172] | rw [if_b0] | rw [decide_eq_true (by omega)] | rw [decide_eq_false (by omega)] | rw [inR_t (by omega)] | rw [inR_f (by omega)] | rw [cond_t] | rw [cond_f] | rw [c256_20])
      exact ⟨_, s, s, c, c, n, r1, r2, by omega, hI⟩
  · have r1 : Cd 999 136 [vA 29, vI v] (s, c) = some ([vI (-1)], (s, c)) := by
      rw [c136 (hg := gC29 hs c)]
      repeat (first | rw [bnd_s] | rw [tI_m] | rw [tL_m] | rw [tA_m] | rw [tV_m] | rw [fC29 hs _ (by decide)] | rw [pC29 hs _ _ (by decide)] | rw [fC30 hs _ (by decide)] | rw [pC30 hs _ _ (by decide)] | rw [fC36 hs _ (by decide)] | rw [pC36 hs _ _ (by decide)] | rw [CS_29_0 hc] | rw [CS_30_3 hc] | rw [bm] | rw [k113 _ hs hc hI.2.2.2.2.1.1.1 hI.nM] | rw [if_pos (show 0 ≤ M ∧ M < c 143 0 from b5)] | rw [if_neg (show ¬ ((40 + 5 * M.toNat : Nat) : Int) = 0 by omega)] | rw [if_neg (show ¬ ((40 + 5 * M.toNat : Nat) : Int) < 0 by omega)] | rw [gF_g hch.1.1 _ (by decide)] | rw [hch.2.1] | rw [hch.2.2.1] | rw [gA_g (a := 0) hch.1.2.1 _ (by omega) (by omega)] | rw [gA_g (a := 0) hch.1.2.2.1 _ (by omega) (by omega)] | rw [e5] | rw [if_pos (by omega)] | rw [if_neg (by omega)] | rw [c136_16])
    have r2 : Cd 999 256 [vA 142, vI v] (s, c) = some ([vI (-1)], (s, c)) := by
      rw [c256 (hg := gC142 hs c)]
      repeat (first | rw [bnd_s] | rw [tI_m] | rw [tL_m] | rw [tA_m] | rw [tV_m] | rw [fC142 hs _ (by decide)] | rw [pC142 hs _ _ (by decide)] | rw [MS_0 hm] | rw [MS_1 hm] | rw [MS_2 hm] | rw [MS_3 hm] | rw [MS_4 hm] | rw [MS_5 hm] | rw [MS_7 hm] | rw [MS_8 hm] | rw [MS_21 hm] | rw [MS_29 hm] | rw [MS_30 hm] | rw [MS_31 hm] | rw [MS_37 hm] | rw [MS_38 hm] | rw [MS_39 hm] | rw [MS_40 hm] | rw [aC143 hs _ (by decide) (by decide)] | rw [show (0 : Int).toNat = 0 from rfl] | rw [show (1 : Int).toNat = 1 from rfl] | rw [show (2 : Int).toNat = 2 from rfl] | rw [show (3 : Int).toNat = 3 from rfl] | rw [show (4 : Int).toNat = 4 from rfl] | rw [show (5 : Int).toNat = 5 from rfl] | rw [hM] | rw [b4] | rw [if_neg (show ¬ (1 : Int) = 0 by decide)] | rw [w32_id (z := 24 + M) (by omega) (by omega)] | rw [aC143 hs _ (show 0 ≤ 24 + M by omega) (by omega)] | rw [w32_id (by omega) (by omega)] | rw [m172] | rw [if_b0] | rw [decide_eq_true (by omega)] | rw [decide_eq_false (by omega)] | rw [inR_t (by omega)] | rw [inR_f (by omega)] | rw [cond_t] | rw [cond_f] | rw [c256_20])
    exact ⟨_, s, s, c, c, n, r1, r2, by omega, hI⟩
def sawOk : Bool := (List.range 6).all fun i => (List.range 128).all fun x => !((List.range 7).all fun l => decide (l < i + 2) || !bt (x : Nat) (l : Nat)) || decide ((x : Nat) = w32 (ishl 1 ((i + 2 : Nat) : Int) - 1)) == decide (((i + 2 : Nat) : Int) ≤ sumU (fun l => b2i (bt (x : Nat) l)) 7 0)
theorem sawOk_ok : sawOk = true := by decide +kernel
theorem saw {N x : Int} (h0 : 2 ≤ N) (h1 : N ≤ 7) (hx : 0 ≤ x) (hx2 : x < 128) (hb : ∀ l : Int, 0 ≤ l → l < 7 → N ≤ l → bt x l = false) : (x = w32 (ishl 1 N - 1)) ↔ N ≤ sumU (fun l => b2i (bt x l)) 7 0 := by
  have h := List.all_eq_true.mp (List.all_eq_true.mp sawOk_ok (N - 2).toNat (List.mem_range.mpr (by omega))) x.toNat (List.mem_range.mpr (by omega))
  rw [show (((N - 2).toNat + 2 : Nat) : Int) = N by omega, Int.toNat_of_nonneg hx] at h
  have g : ((List.range 7).all fun l => decide (l < (N - 2).toNat + 2) || !bt x (l : Nat)) = true := by
    refine List.all_eq_true.mpr (fun l hl => ?_)
    have := List.mem_range.mp hl
    by_cases hn : N ≤ (l : Int)
    · rw [hb l (by omega) (by omega) hn]; simp
    · rw [decide_eq_true (by omega)]; rfl
  rw [g] at h
  simp only [Bool.not_true, Bool.false_or, beq_iff_eq] at h
  exact decide_eq_decide.mp h
theorem m257_23 (d : Nat) {s : List (Nat × Nat)} {c : Nat → Nat → Int} (hs : SpL s) (hm : MS c) {m : Int} (hk : MapOK c m) {p : Int} (hp : ∀ l : Int, 0 ≤ l → l < c 143 (20 + m).toNat → pin p l = c 143 (300 + l).toNat) : ∀ (n : Nat) (j : Int), 0 ≤ j → j + n = c 143 (24 + m).toNat → Rr (Cd (d + 1)) 257 23 [some (vA 142), some (vI m), some (vI j)] [] (s, c) = some ([vI (b2i (allU (fun b => decide (pin p (c 143 (30 + 30 * m + 2 * b).toNat) ≠ pin p (c 143 (30 + 30 * m + 2 * b + 1).toNat))) n j))], (s, c))
  | 0, j, h0, h => by
    obtain ⟨⟨k0, k1⟩, ⟨k2, k3⟩, ⟨k4, k5⟩, k6⟩ := hk
    rw [c257_23]
    repeat (first | rw [bnd_s] | rw [tI_m] | rw [tL_m] | rw [tA_m] | rw [tV_m] | rw [fC142 hs _ (by decide)] | rw [pC142 hs _ _ (by decide)] | rw [MS_0 hm] | rw [MS_1 hm] | rw [MS_2 hm] | rw [MS_3 hm] | rw [MS_4 hm] | rw [MS_5 hm] | rw [MS_7 hm] | rw [MS_8 hm] | rw [MS_21 hm] | rw [MS_29 hm] | rw [MS_30 hm] | rw [MS_31 hm] | rw [MS_37 hm] | rw [MS_38 hm] | rw [MS_39 hm] | rw [MS_40 hm] | rw [w32_m (by omega) (by omega)] | rw [w32_al] | rw [w32_ar] | rw [w32_sl] | rw [w32_sr] | rw [w32_ml] | rw [w32_mr] | rw [w32_a3] | rw [w32_b3] | rw [w32_c3] | rw [w32_d3] | rw [w32_id (by omega) (by omega)] | rw [aC143 hs _ (show 0 ≤ 24 + m by omega) (by omega)] | rw [if_pos (by omega)] | rw [if_neg (by omega)])
    all_goals rfl
  | n + 1, j, h0, h => by
    have ih := m257_23 d hs hm hk hp n (j + 1) (by omega) (by omega)
    obtain ⟨⟨k0, k1⟩, ⟨k2, k3⟩, ⟨k4, k5⟩, k6⟩ := hk
    have g := k6 j h0 (by omega)
    have p1 := hp _ g.1.1 g.1.2
    have p2 := hp _ g.2.1 g.2.2
    rw [c257_23]
    generalize hX : c 143 (30 + 30 * m + 2 * j).toNat = X at *
    generalize hY : c 143 (30 + 30 * m + 2 * j + 1).toNat = Y at *
    repeat (first | rw [bnd_s] | rw [tI_m] | rw [tL_m] | rw [tA_m] | rw [tV_m] | rw [fC142 hs _ (by decide)] | rw [pC142 hs _ _ (by decide)] | rw [MS_0 hm] | rw [MS_1 hm] | rw [MS_2 hm] | rw [MS_3 hm] | rw [MS_4 hm] | rw [MS_5 hm] | rw [MS_7 hm] | rw [MS_8 hm] | rw [MS_21 hm] | rw [MS_29 hm] | rw [MS_30 hm] | rw [MS_31 hm] | rw [MS_37 hm] | rw [MS_38 hm] | rw [MS_39 hm] | rw [MS_40 hm] | rw [m176 _ hs hm k0 k1 h0 (by omega)] | rw [m177 _ hs hm k0 k1 h0 (by omega)] | rw [hX] | rw [hY] | rw [w32_id (z := 24 + m) (by omega) (by omega)] | rw [w32_id (z := 300 + X) (by omega) (by omega)] | rw [w32_id (z := 300 + Y) (by omega) (by omega)] | rw [aC143 hs _ (show 0 ≤ 24 + m by omega) (by omega)] | rw [aC143 hs _ (show 0 ≤ 300 + X by omega) (by omega)] | rw [aC143 hs _ (show 0 ≤ 300 + Y by omega) (by omega)] | rw [if_pos (show j < c 143 (24 + m).toNat by omega)])
    simp only [allU]
    rw [hX, hY, ← p1, ← p2]
    by_cases e : pin p X = pin p Y
    · rw [if_pos e, decide_eq_false (by simpa using e)]; rfl
    · rw [if_neg e, decide_eq_true e, w32_id (by omega) (by omega), ih]; rfl
theorem op_pulled (v : Int) : Op 137 258 [vI v] := by
  intro s c n hI
  have hs := hI.1.l
  have hc := hI.2.2.2.1
  have hm := hI.2.2.1
  have n2 := hI.nM.2
  have n1 := hI.nM.1
  have hmok := hI.mok
  obtain ⟨a10, a11, a12, a13⟩ := hI.2.2.2.2.1.2.2.2.2.2
  rcases a11 with ⟨b4, bm⟩ | ⟨b4, b5, bm, bp, bs, bl⟩
  · have bm : c 36 0 = -1 := bm
    refine ⟨vI (if v = -1 then 0 else -1), s, s, c, c, n, ?_, ?_, by omega, hI⟩
    · rw [c137 (hg := gC29 hs c)]
      by_cases hv : v = -1
      · rw [if_pos hv]
        repeat (first | rw [bnd_s] | rw [tI_m] | rw [tL_m] | rw [tA_m] | rw [tV_m] | rw [fC29 hs _ (by decide)] | rw [pC29 hs _ _ (by decide)] | rw [fC30 hs _ (by decide)] | rw [pC30 hs _ _ (by decide)] | rw [fC36 hs _ (by decide)] | rw [pC36 hs _ _ (by decide)] | rw [CS_29_0 hc] | rw [CS_30_3 hc] | rw [bm] | rw [k113 _ hs hc hI.2.2.2.2.1.1.1 hI.nM] | rw [if_neg (show ¬ (0 ≤ (-1 : Int) ∧ (-1 : Int) < c 143 0) by omega)] | rw [if_pos hv] | rw [if_neg (show ¬ (-1 : Int) = 0 by decide)] | rw [if_pos (show (-1 : Int) < 0 by decide)] | rw [c137_29] | rw [c137_30])
        rw [show (0 : Int) = b2i false from rfl, k159]; rfl
      · rw [if_neg hv]
        repeat (first | rw [bnd_s] | rw [tI_m] | rw [tL_m] | rw [tA_m] | rw [tV_m] | rw [fC29 hs _ (by decide)] | rw [pC29 hs _ _ (by decide)] | rw [fC30 hs _ (by decide)] | rw [pC30 hs _ _ (by decide)] | rw [fC36 hs _ (by decide)] | rw [pC36 hs _ _ (by decide)] | rw [CS_29_0 hc] | rw [CS_30_3 hc] | rw [bm] | rw [k113 _ hs hc hI.2.2.2.2.1.1.1 hI.nM] | rw [if_neg (show ¬ (0 ≤ (-1 : Int) ∧ (-1 : Int) < c 143 0) by omega)] | rw [if_neg hv] | rw [if_neg (show ¬ (-1 : Int) = 0 by decide)] | rw [if_pos (show (-1 : Int) < 0 by decide)] | rw [c137_40])
    · rw [c258 (hg := gC142 hs c)]
      by_cases hv : v = -1
      · rw [if_pos hv, if_pos hv, c257 (hg := gC142 hs c)]
        repeat (first | rw [bnd_s] | rw [tI_m] | rw [tL_m] | rw [tA_m] | rw [tV_m] | rw [fC142 hs _ (by decide)] | rw [pC142 hs _ _ (by decide)] | rw [MS_0 hm] | rw [MS_1 hm] | rw [MS_2 hm] | rw [MS_3 hm] | rw [MS_4 hm] | rw [MS_5 hm] | rw [MS_7 hm] | rw [MS_8 hm] | rw [MS_21 hm] | rw [MS_29 hm] | rw [MS_30 hm] | rw [MS_31 hm] | rw [MS_37 hm] | rw [MS_38 hm] | rw [MS_39 hm] | rw [MS_40 hm] | rw [aC143 hs _ (by decide) (by decide)] | rw [show (0 : Int).toNat = 0 from rfl] | rw [show (1 : Int).toNat = 1 from rfl] | rw [show (2 : Int).toNat = 2 from rfl] | rw [show (3 : Int).toNat = 3 from rfl] | rw [show (4 : Int).toNat = 4 from rfl] | rw [show (5 : Int).toNat = 5 from rfl] | rw [b4] | rw [if_pos (show (0 : Int) = 0 from rfl)] | rw [c257_19] | rw [c258_9])
      · rw [if_neg hv, if_neg hv]
        repeat (first | rw [bnd_s] | rw [tI_m] | rw [tL_m] | rw [tA_m] | rw [tV_m] | rw [fC142 hs _ (by decide)] | rw [pC142 hs _ _ (by decide)] | rw [MS_0 hm] | rw [MS_1 hm] | rw [MS_2 hm] | rw [MS_3 hm] | rw [MS_4 hm] | rw [MS_5 hm] | rw [MS_7 hm] | rw [MS_8 hm] | rw [MS_21 hm] | rw [MS_29 hm] | rw [MS_30 hm] | rw [MS_31 hm] | rw [MS_37 hm] | rw [MS_38 hm] | rw [MS_39 hm] | rw [MS_40 hm] | rw [aC143 hs _ (by decide) (by decide)] | rw [show (0 : Int).toNat = 0 from rfl] | rw [show (1 : Int).toNat = 1 from rfl] | rw [show (2 : Int).toNat = 2 from rfl] | rw [show (3 : Int).toNat = 3 from rfl] | rw [show (4 : Int).toNat = 4 from rfl] | rw [show (5 : Int).toNat = 5 from rfl] | rw [b4] | rw [if_neg (show ¬ (0 : Int) = 1 by decide)] | rw [c258_36] | rw [c258_37])
  have bm : c 36 0 = c 143 5 := bm
  have bp : 0 ≤ c 36 1 ∧ c 36 1 < 16384 := bp
  have bs : 0 ≤ c 36 2 ∧ c 36 2 < 128 := bs
  have bl : ∀ l : Int, 0 ≤ l → l < 7 → c 143 (310 + l).toNat = b2i (bt (c 36 2) l) ∧ (l < c 143 (20 + c 143 5).toNat → (0 ≤ c 143 (300 + l).toNat ∧ c 143 (300 + l).toNat ≤ 2) ∧ pin (c 36 1) l = c 143 (300 + l).toNat) ∧ (c 143 (20 + c 143 5).toNat ≤ l → bt (c 36 2) l = false) := bl
  have hr := hI.map (m := (c 143 5).toNat) (by omega)
  have hch := chN hs hc (m := (c 143 5).toNat) (by omega)
  rw [Int.toNat_of_nonneg b5.1] at hr
  have hk := hmok _ b5.1 b5.2
  have k2 := hk.2.1.1
  have k3 := hk.2.1.2
  have k4 := hk.2.2.1.1
  generalize hM : c 143 5 = M at *
  have e4 := hr.1.1
  have hsum : ∀ l : Int, 0 ≤ l → l < 7 → 0 ≤ c 143 (310 + l).toNat ∧ c 143 (310 + l).toNat ≤ 1 := fun l h1 h2 => by rw [(bl l h1 h2).1]; exact b2i_b _
  have es : sumU (fun l => c 143 (310 + l).toNat) 7 0 = sumU (fun l => b2i (bt (c 36 2) l)) 7 0 := sumU_cg 7 0 (fun l h1 h2 => (bl l h1 (by omega)).1)
  have sw := saw k2 k3 bs.1 bs.2 (fun l h1 h2 h3 => (bl l h1 h2).2.2 h3)
  rw [← es] at sw
  by_cases hv : v = -1
  · refine ⟨vI (b2i (decide (c 143 (20 + M).toNat ≤ sumU (fun l => c 143 (310 + l).toNat) 7 0) && isP c M (c 36 1))), s, s, c, c, n, ?_, ?_, by omega, hI⟩
    · rw [c137 (hg := gC29 hs c)]
      by_cases hS : c 36 2 = w32 (ishl 1 (c 143 (20 + M).toNat) - 1)
      · rw [decide_eq_true (sw.mp hS), Bool.true_and]
        repeat (first | rw [bnd_s] | rw [tI_m] | rw [tL_m] | rw [tA_m] | rw [tV_m] | rw [fC29 hs _ (by decide)] | rw [pC29 hs _ _ (by decide)] | rw [fC30 hs _ (by decide)] | rw [pC30 hs _ _ (by decide)] | rw [fC36 hs _ (by decide)] | rw [pC36 hs _ _ (by decide)] | rw [CS_29_0 hc] | rw [CS_30_3 hc] | rw [bm] | rw [k113 _ hs hc hI.2.2.2.2.1.1.1 hI.nM] | rw [if_pos (show 0 ≤ M ∧ M < c 143 0 from b5)] | rw [if_neg (show ¬ ((40 + 5 * M.toNat : Nat) : Int) = 0 by omega)] | rw [if_neg (show ¬ ((40 + 5 * M.toNat : Nat) : Int) < 0 by omega)] | rw [if_pos hv] | rw [gF_g hch.1.1 _ (by decide)] | rw [e4] | rw [c4 (hg := gC36 hs _)] | rw [if_pos hS] | rw [c4_11] | rw [if_pos (show (1 : Int) = 0 ∨ (1 : Int) = 1 from Or.inr rfl)] | rw [if_neg (show ¬ (1 : Int) = 0 by decide)] | rw [k12 _ hch hr] | rw [if_b0])
        cases isP c M (c 36 1)
        · rw [cond_f, c137_29, c137_30, show (0 : Int) = b2i false from rfl, k159]; rfl
        · rw [cond_t, c137_30, show (1 : Int) = b2i true from rfl, k159]; rfl
      · rw [decide_eq_false (fun g => hS (sw.mpr g)), Bool.false_and]
        repeat (first | rw [bnd_s] | rw [tI_m] | rw [tL_m] | rw [tA_m] | rw [tV_m] | rw [fC29 hs _ (by decide)] | rw [pC29 hs _ _ (by decide)] | rw [fC30 hs _ (by decide)] | rw [pC30 hs _ _ (by decide)] | rw [fC36 hs _ (by decide)] | rw [pC36 hs _ _ (by decide)] | rw [CS_29_0 hc] | rw [CS_30_3 hc] | rw [bm] | rw [k113 _ hs hc hI.2.2.2.2.1.1.1 hI.nM] | rw [if_pos (show 0 ≤ M ∧ M < c 143 0 from b5)] | rw [if_neg (show ¬ ((40 + 5 * M.toNat : Nat) : Int) = 0 by omega)] | rw [if_neg (show ¬ ((40 + 5 * M.toNat : Nat) : Int) < 0 by omega)] | rw [if_pos hv] | rw [gF_g hch.1.1 _ (by decide)] | rw [e4] | rw [c4 (hg := gC36 hs _)] | rw [if_neg hS] | rw [c4_11] | rw [if_pos (show (0 : Int) = 0 ∨ (0 : Int) = 1 from Or.inl rfl)] | rw [if_pos (show (0 : Int) = 0 from rfl)] | rw [c137_29] | rw [c137_30])
        rw [show (0 : Int) = b2i false from rfl, k159]; rfl
    · rw [c258 (hg := gC142 hs c), if_pos hv, c257 (hg := gC142 hs c)]
      by_cases hS : c 143 (20 + M).toNat ≤ sumU (fun l => c 143 (310 + l).toNat) 7 0
      · rw [decide_eq_true hS, Bool.true_and]
        have g := m257_23 996 hs hm hk (p := c 36 1) (fun l h1 h2 => ((bl l h1 (by omega)).2.1 h2).2) _ 0 (by omega) (show (0 : Int) + ((c 143 (24 + M).toNat).toNat : Nat) = _ by omega)
        repeat (first | rw [bnd_s] | rw [tI_m] | rw [tL_m] | rw [tA_m] | rw [tV_m] | rw [fC142 hs _ (by decide)] | rw [pC142 hs _ _ (by decide)] | rw [MS_0 hm] | rw [MS_1 hm] | rw [MS_2 hm] | rw [MS_3 hm] | rw [MS_4 hm] | rw [MS_5 hm] | rw [MS_7 hm] | rw [MS_8 hm] | rw [MS_21 hm] | rw [MS_29 hm] | rw [MS_30 hm] | rw [MS_31 hm] | rw [MS_37 hm] | rw [MS_38 hm] | rw [MS_39 hm] | rw [MS_40 hm] | rw [aC143 hs _ (by decide) (by decide)] | rw [show (0 : Int).toNat = 0 from rfl] | rw [show (1 : Int).toNat = 1 from rfl] | rw [show (2 : Int).toNat = 2 from rfl] | rw [show (3 : Int).toNat = 3 from rfl] | rw [show (4 : Int).toNat = 4 from rfl] | rw [show (5 : Int).toNat = 5 from rfl] | rw [hM] | rw [b4] | rw [if_neg (show ¬ (1 : Int) = 0 by decide)] | rw [m255 _ hs hm hsum] | rw [w32_id (z := 20 + M) (by omega) (by omega)] | rw [aC143 hs _ (show 0 ≤ 20 + M by omega) (by omega)] | rw [if_neg (show ¬ sumU (fun l => c 143 (310 + l).toNat) 7 0 < c 143 (20 + M).toNat by omega)] | rw [g] | rw [if_b0])
        rw [show isP c M (c 36 1) = allU (fun b => decide (pin (c 36 1) (c 143 (30 + 30 * M + 2 * b).toNat) ≠ pin (c 36 1) (c 143 (30 + 30 * M + 2 * b + 1).toNat))) (c 143 (24 + M).toNat).toNat 0 from rfl]
        cases allU (fun b => decide (pin (c 36 1) (c 143 (30 + 30 * M + 2 * b).toNat) ≠ pin (c 36 1) (c 143 (30 + 30 * M + 2 * b + 1).toNat))) (c 143 (24 + M).toNat).toNat 0
        · rw [cond_f, c258_9]; rfl
        · rw [cond_t, c258_9]; rfl
      · rw [decide_eq_false hS, Bool.false_and]
        repeat (first | rw [bnd_s] | rw [tI_m] | rw [tL_m] | rw [tA_m] | rw [tV_m] | rw [fC142 hs _ (by decide)] | rw [pC142 hs _ _ (by decide)] | rw [MS_0 hm] | rw [MS_1 hm] | rw [MS_2 hm] | rw [MS_3 hm] | rw [MS_4 hm] | rw [MS_5 hm] | rw [MS_7 hm] | rw [MS_8 hm] | rw [MS_21 hm] | rw [MS_29 hm] | rw [MS_30 hm] | rw [MS_31 hm] | rw [MS_37 hm] | rw [MS_38 hm] | rw [MS_39 hm] | rw [MS_40 hm] | rw [aC143 hs _ (by decide) (by decide)] | rw [show (0 : Int).toNat = 0 from rfl] | rw [show (1 : Int).toNat = 1 from rfl] | rw [show (2 : Int).toNat = 2 from rfl] | rw [show (3 : Int).toNat = 3 from rfl] | rw [show (4 : Int).toNat = 4 from rfl] | rw [show (5 : Int).toNat = 5 from rfl] | rw [hM] | rw [b4] | rw [if_neg (show ¬ (1 : Int) = 0 by decide)] | rw [m255 _ hs hm hsum] | rw [w32_id (z := 20 + M) (by omega) (by omega)] | rw [aC143 hs _ (show 0 ≤ 20 + M by omega) (by omega)] | rw [if_pos (show sumU (fun l => c 143 (310 + l).toNat) 7 0 < c 143 (20 + M).toNat by omega)] | rw [c257_19] | rw [if_pos (show (0 : Int) = 0 from rfl)] | rw [c258_9])
        all_goals rfl
  · by_cases h1 : 0 ≤ v ∧ v < c 143 (20 + M).toNat
    · have b := bl v h1.1 (by omega)
      refine ⟨vI (bif bt (c 36 2) v then c 143 (300 + v).toNat else -1), s, s, c, c, n, ?_, ?_, by omega, hI⟩
      · rw [c137 (hg := gC29 hs c)]
        repeat (first | rw [bnd_s] | rw [tI_m] | rw [tL_m] | rw [tA_m] | rw [tV_m] | rw [fC29 hs _ (by decide)] | rw [pC29 hs _ _ (by decide)] | rw [fC30 hs _ (by decide)] | rw [pC30 hs _ _ (by decide)] | rw [fC36 hs _ (by decide)] | rw [pC36 hs _ _ (by decide)] | rw [CS_29_0 hc] | rw [CS_30_3 hc] | rw [bm] | rw [k113 _ hs hc hI.2.2.2.2.1.1.1 hI.nM] | rw [if_pos (show 0 ≤ M ∧ M < c 143 0 from b5)] | rw [if_neg (show ¬ ((40 + 5 * M.toNat : Nat) : Int) = 0 by omega)] | rw [if_neg (show ¬ ((40 + 5 * M.toNat : Nat) : Int) < 0 by omega)] | rw [if_neg hv] | rw [gF_g hch.1.1 _ (by decide)] | rw [e4] | rw [if_neg (show ¬ v < 0 by omega)] | rw [if_pos h1.2] | rw [c5 (hg := gC36 hs _)] | rw [k169 _ _ bs.1 (by omega) h1.1 (by omega)] | rw [if_b0])
        cases bt (c 36 2) v
        · rw [cond_f, cond_f, c5_11]; rfl
        · rw [cond_t, cond_t]
          repeat (first | rw [bnd_s] | rw [tI_m] | rw [tL_m] | rw [tA_m] | rw [tV_m] | rw [fC36 hs _ (by decide)] | rw [pC36 hs _ _ (by decide)] | rw [k165] | rw [c5_11])
          rw [(b.2.1 h1.2).2]
      · rw [c258 (hg := gC142 hs c)]
        repeat (first | rw [bnd_s] | rw [tI_m] | rw [tL_m] | rw [tA_m] | rw [tV_m] | rw [fC142 hs _ (by decide)] | rw [pC142 hs _ _ (by decide)] | rw [MS_0 hm] | rw [MS_1 hm] | rw [MS_2 hm] | rw [MS_3 hm] | rw [MS_4 hm] | rw [MS_5 hm] | rw [MS_7 hm] | rw [MS_8 hm] | rw [MS_21 hm] | rw [MS_29 hm] | rw [MS_30 hm] | rw [MS_31 hm] | rw [MS_37 hm] | rw [MS_38 hm] | rw [MS_39 hm] | rw [MS_40 hm] | rw [aC143 hs _ (by decide) (by decide)] | rw [show (0 : Int).toNat = 0 from rfl] | rw [show (1 : Int).toNat = 1 from rfl] | rw [show (2 : Int).toNat = 2 from rfl] | rw [show (3 : Int).toNat = 3 from rfl] | rw [show (4 : Int).toNat = 4 from rfl] | rw [show (5 : Int).toNat = 5 from rfl] | rw [if_neg hv] | rw [b4] | rw [if_pos (show (1 : Int) = 1 from rfl)] | rw [m172] | rw [if_b0] | rw [decide_eq_true (by omega)] | rw [decide_eq_false (by omega)] | rw [inR_t (by omega)] | rw [inR_f (by omega)] | rw [cond_t] | rw [cond_f] | rw [w32_id (z := 310 + v) (by omega) (by omega)] | rw [aC143 hs _ (show 0 ≤ 310 + v by omega) (by omega)] | rw [b.1] | rw [if_b1])
        cases bt (c 36 2) v
        · rw [cond_f, cond_f, c258_36, c258_37]
        · rw [cond_t, cond_t]
          repeat (first | rw [bnd_s] | rw [tI_m] | rw [tL_m] | rw [tA_m] | rw [tV_m] | rw [fC142 hs _ (by decide)] | rw [pC142 hs _ _ (by decide)] | rw [MS_0 hm] | rw [MS_1 hm] | rw [MS_2 hm] | rw [MS_3 hm] | rw [MS_4 hm] | rw [MS_5 hm] | rw [MS_7 hm] | rw [MS_8 hm] | rw [MS_21 hm] | rw [MS_29 hm] | rw [MS_30 hm] | rw [MS_31 hm] | rw [MS_37 hm] | rw [MS_38 hm] | rw [MS_39 hm] | rw [MS_40 hm] | rw [w32_id (z := 300 + v) (by omega) (by omega)] | rw [aC143 hs _ (show 0 ≤ 300 + v by omega) (by omega)] | rw [c258_37])
    · refine ⟨vI (-1), s, s, c, c, n, ?_, ?_, by omega, hI⟩
      · rw [c137 (hg := gC29 hs c)]
        repeat (first | rw [bnd_s] | rw [tI_m] | rw [tL_m] | rw [tA_m] | rw [tV_m] | rw [fC29 hs _ (by decide)] | rw [pC29 hs _ _ (by decide)] | rw [fC30 hs _ (by decide)] | rw [pC30 hs _ _ (by decide)] | rw [fC36 hs _ (by decide)] | rw [pC36 hs _ _ (by decide)] | rw [CS_29_0 hc] | rw [CS_30_3 hc] | rw [bm] | rw [k113 _ hs hc hI.2.2.2.2.1.1.1 hI.nM] | rw [if_pos (show 0 ≤ M ∧ M < c 143 0 from b5)] | rw [if_neg (show ¬ ((40 + 5 * M.toNat : Nat) : Int) = 0 by omega)] | rw [if_neg (show ¬ ((40 + 5 * M.toNat : Nat) : Int) < 0 by omega)] | rw [if_neg hv])
        by_cases h2 : v < 0
        · rw [if_pos h2, c137_40]
        · rw [if_neg h2]
          repeat (first | rw [bnd_s] | rw [tI_m] | rw [tL_m] | rw [tA_m] | rw [tV_m] | rw [fC29 hs _ (by decide)] | rw [pC29 hs _ _ (by decide)] | rw [fC30 hs _ (by decide)] | rw [pC30 hs _ _ (by decide)] | rw [fC36 hs _ (by decide)] | rw [pC36 hs _ _ (by decide)] | rw [CS_29_0 hc] | rw [CS_30_3 hc] | rw [bm] | rw [k113 _ hs hc hI.2.2.2.2.1.1.1 hI.nM] | rw [if_pos (show 0 ≤ M ∧ M < c 143 0 from b5)] | rw [if_neg (show ¬ ((40 + 5 * M.toNat : Nat) : Int) = 0 by omega)] | rw [if_neg (show ¬ ((40 + 5 * M.toNat : Nat) : Int) < 0 by omega)] | rw [gF_g hch.1.1 _ (by decide)] | rw [e4] | rw [if_neg (show ¬ v < c 143 (20 + M).toNat by omega)] | rw [c137_40])
      · rw [c258 (hg := gC142 hs c)]
        by_cases h2 : 0 ≤ v ∧ v ≤ 6
        · have b := bl v h2.1 (by omega)
          have b3 := b.2.2 (by omega)
          repeat (first | rw [bnd_s] | rw [tI_m] | rw [tL_m] | rw [tA_m] | rw [tV_m] | rw [fC142 hs _ (by decide)] | rw [pC142 hs _ _ (by decide)] | rw [MS_0 hm] | rw [MS_1 hm] | rw [MS_2 hm] | rw [MS_3 hm] | rw [MS_4 hm] | rw [MS_5 hm] | rw [MS_7 hm] | rw [MS_8 hm] | rw [MS_21 hm] | rw [MS_29 hm] | rw [MS_30 hm] | rw [MS_31 hm] | rw [MS_37 hm] | rw [MS_38 hm] | rw [MS_39 hm] | rw [MS_40 hm] | rw [aC143 hs _ (by decide) (by decide)] | rw [show (0 : Int).toNat = 0 from rfl] | rw [show (1 : Int).toNat = 1 from rfl] | rw [show (2 : Int).toNat = 2 from rfl] | rw [show (3 : Int).toNat = 3 from rfl] | rw [show (4 : Int).toNat = 4 from rfl] | rw [show (5 : Int).toNat = 5 from rfl] | rw [if_neg hv] | rw [b4] | rw [if_pos (show (1 : Int) = 1 from rfl)] | rw [m172] | rw [if_b0] | rw [inR_t h2] | rw [cond_t] | rw [w32_id (z := 310 + v) (by omega) (by omega)] | rw [aC143 hs _ (show 0 ≤ 310 + v by omega) (by omega)] | rw [b.1] | rw [b3] | rw [if_b1] | rw [cond_f] | rw [c258_36] | rw [c258_37])
        · skip
          repeat (first | rw [bnd_s] | rw [tI_m] | rw [tL_m] | rw [tA_m] | rw [tV_m] | rw [fC142 hs _ (by decide)] | rw [pC142 hs _ _ (by decide)] | rw [MS_0 hm] | rw [MS_1 hm] | rw [MS_2 hm] | rw [MS_3 hm] | rw [MS_4 hm] | rw [MS_5 hm] | rw [MS_7 hm] | rw [MS_8 hm] | rw [MS_21 hm] | rw [MS_29 hm] | rw [MS_30 hm] | rw [MS_31 hm] | rw [MS_37 hm] | rw [MS_38 hm] | rw [MS_39 hm] | rw [MS_40 hm] | rw [aC143 hs _ (by decide) (by decide)] | rw [show (0 : Int).toNat = 0 from rfl] | rw [show (1 : Int).toNat = 1 from rfl] | rw [show (2 : Int).toNat = 2 from rfl] | rw [show (3 : Int).toNat = 3 from rfl] | rw [show (4 : Int).toNat = 4 from rfl] | rw [show (5 : Int).toNat = 5 from rfl] | rw [if_neg hv] | rw [b4] | rw [if_pos (show (1 : Int) = 1 from rfl)] | rw [m172] | rw [if_b0] | rw [inR_f h2] | rw [cond_f] | rw [c258_36] | rw [c258_37])
