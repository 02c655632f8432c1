/-! rows of the riddle; sightings -/
def isS (L x : Int) : Bool := decide (x ≠ 0 ∧ -L ≤ x ∧ x ≤ L)
theorem isS_t {L x : Int} (h : x ≠ 0 ∧ -L ≤ x ∧ x ≤ L) : isS L x = true := decide_eq_true h
theorem isS_f {L x : Int} (h : ¬ (x ≠ 0 ∧ -L ≤ x ∧ x ≤ L)) : isS L x = false := decide_eq_false h
theorem k93 (d : Nat) {s : List (Nat × Nat)} {c : Nat → Nat → Int} (hs : SpL s) (h1 : 1 ≤ c 38 1) (h3 : c 38 1 ≤ 3) (x : Int) : Cd (d + 1) 93 [vA 38, vI x] (s, c) = some ([vI (b2i (isS (c 38 1) x))], (s, c)) := by
  rw [c93 (hg := gC38 hs c)]
  by_cases g0 : x = 0
  · rw [isS_f (by omega), if_pos g0, c93_13, c93_14, if_pos (by decide)]; rfl
  · rw [if_neg g0, fC38 hs _ (by decide), bnd_s, w32_id (by omega) (by omega)]
    by_cases g1 : x < -(c 38 1)
    · rw [isS_f (by omega), if_pos g1, c93_13, c93_14, if_pos (by decide)]; rfl
    · rw [if_neg g1]
      repeat (first | rw [fC38 hs _ (by decide)] | rw [bnd_s])
      by_cases g2 : c 38 1 < x
      · rw [isS_f (by omega), if_pos g2, c93_13, c93_14, if_pos (by decide)]; rfl
      · rw [isS_t (by omega), if_neg g2, c93_14, if_pos (by decide)]; rfl
theorem m269 (d : Nat) {s : List (Nat × Nat)} {c : Nat → Nat → Int} (hs : SpL s) (hm : MS c) (h1 : 1 ≤ c 143 3) (h3 : c 143 3 ≤ 3) (x : Int) : Cd (d + 2) 269 [vA 142, vI x] (s, c) = some ([vI (b2i (isS (c 143 3) x))], (s, c)) := by
  rw [c269 (hg := gC142 hs c)]
  by_cases g0 : x = 0
  · rw [isS_f (by omega), if_pos g0, c269_16, c269_17, if_pos (by decide)]; rfl
  · rw [if_neg g0]
    repeat (first | rw [bnd_s] | rw [tI_m] | rw [tL_m] | rw [tA_m] | rw [tV_m] | rw [fC142 hs _ (by decide)] | rw [pC142 hs _ _ (by decide)] | rw [MS_0 hm] | rw [MS_1 hm] | rw [MS_2 hm] | rw [MS_3 hm] | rw [MS_4 hm] | rw [MS_5 hm] | rw [MS_7 hm] | rw [MS_8 hm] | rw [MS_21 hm] | rw [MS_29 hm] | rw [MS_30 hm] | rw [MS_31 hm] | rw [MS_37 hm] | rw [MS_38 hm] | rw [MS_39 hm] | rw [MS_40 hm] | rw [aC143 hs _ (by decide) (by decide)] | rw [show (0 : Int).toNat = 0 from rfl] | rw [show (1 : Int).toNat = 1 from rfl] | rw [show (2 : Int).toNat = 2 from rfl] | rw [show (3 : Int).toNat = 3 from rfl] | rw [show (4 : Int).toNat = 4 from rfl] | rw [show (5 : Int).toNat = 5 from rfl] | rw [show (10 : Int).toNat = 10 from rfl] | rw [show (11 : Int).toNat = 11 from rfl] | rw [show (12 : Int).toNat = 12 from rfl] | rw [show (13 : Int).toNat = 13 from rfl] | rw [show (14 : Int).toNat = 14 from rfl] | rw [w32_id (by omega) (by omega)] | rw [m172] | rw [if_b0])
    by_cases g1 : -(c 143 3) ≤ x ∧ x ≤ c 143 3
    · rw [inR_t g1, cond_t, isS_t ⟨g0, g1⟩, c269_17, if_pos (by decide)]; rfl
    · rw [inR_f g1, cond_f, isS_f (by omega), c269_16, c269_17, if_pos (by decide)]; rfl
theorem op_row (a b e : Int) : Op 144 270 [vI a, vI b, vI e] := by
  intro s c n hI
  have hs := hI.1.l
  have hc := hI.2.2.2.1
  have hm := hI.2.2.1
  have n2 := hI.nM.2
  obtain ⟨a10, a11, a12, a13⟩ := hI.2.2.2.2.1.2.2.2.2.2
  have a13' := a13
  obtain ⟨⟨e1, e2⟩, ⟨l1, l3⟩, ⟨r0, r3'⟩, hsg⟩ := a13'
  have e1 : c 38 1 = c 143 3 := e1
  have e2 : c 38 2 = c 143 2 := e2
  have k93' : ∀ x, Cd 997 93 [vA 38, vI x] (s, c) = some ([vI (b2i (isS (c 143 3) x))], (s, c)) := fun x => by
    have := k93 996 hs (c := c) (by omega) (by omega) x
    rw [e1] at this; exact this
  by_cases h0 : c 143 2 < 3
  · by_cases h1 : a ≠ 0 ∧ -(c 143 3) ≤ a ∧ a ≤ c 143 3
    · by_cases h2 : b ≠ 0 ∧ -(c 143 3) ≤ b ∧ b ≤ c 143 3
      · by_cases h3 : e ≠ 0 ∧ -(c 143 3) ≤ e ∧ e ≤ c 143 3
        · have r1 : Cd 999 144 [vA 29, vI a, vI b, vI e] (s, c) = some ([vI (c 143 2)], (s, (u2 (u2 (u2 (u2 c 39 (c 143 2 * 3).toNat a) 39 (c 143 2 * 3 + 1).toNat b) 39 (c 143 2 * 3 + 2).toNat e) 38 2 (c 143 2 + 1)))) := by
            rw [c144 (hg := gC29 hs c)]
            repeat (first | rw [bnd_s] | rw [tI_m] | rw [tL_m] | rw [tA_m] | rw [tV_m] | rw [fC29 hs _ (by decide)] | rw [pC29 hs _ _ (by decide)] | rw [fC30 hs _ (by decide)] | rw [pC30 hs _ _ (by decide)] | rw [fC38 hs _ (by decide)] | rw [pC38 hs _ _ (by decide)] | rw [u2_e] | rw [u2_n (by omega)] | rw [CS_29_0 hc] | rw [CS_30_5 hc] | rw [CS_38_0 hc] | rw [e2] | rw [k93' _] | rw [if_b0] | rw [cond_t] | rw [cond_f] | rw [isS_t (by omega)] | rw [isS_f (by omega)] | rw [if_pos (show c 143 2 < 3 by omega)] | rw [aC39 hs _ (by omega) (by omega)] | rw [qC39 hs _ _ (by omega) (by omega)] | rw [w32_m (by omega) (by omega)] | rw [w32_al] | rw [w32_ar] | rw [w32_sl] | rw [w32_sr] | rw [w32_ml] | rw [w32_mr] | rw [w32_a3] | rw [w32_b3] | rw [w32_c3] | rw [w32_d3] | rw [w32_id (by omega) (by omega)] | rw [c94 (hg := gC38 hs _)])
            rw [show c 143 2 + 1 - 1 = c 143 2 by omega]
          have hm1 : MS (u2 (u2 (u2 (u2 c 39 (c 143 2 * 3).toNat a) 39 (c 143 2 * 3 + 1).toNat b) 39 (c 143 2 * 3 + 2).toNat e) 38 2 (c 143 2 + 1)) := MS_a (MS_a (MS_a (MS_a hm _ (by decide)) _ (by decide)) _ (by decide)) _ (by decide)
          have q1 : ∀ k, (u2 (u2 (u2 (u2 c 39 (c 143 2 * 3).toNat a) 39 (c 143 2 * 3 + 1).toNat b) 39 (c 143 2 * 3 + 2).toNat e) 38 2 (c 143 2 + 1)) 143 k = c 143 k := fun k => by rw [u2_n (by omega), u2_n (by omega), u2_n (by omega), u2_n (by omega)]
          have r2 : Cd 999 270 [vA 142, vI a, vI b, vI e] (s, (u2 (u2 (u2 (u2 c 39 (c 143 2 * 3).toNat a) 39 (c 143 2 * 3 + 1).toNat b) 39 (c 143 2 * 3 + 2).toNat e) 38 2 (c 143 2 + 1))) = some ([vI (c 143 2)], (s, (u2 (u2 (u2 (u2 (u2 (u2 (u2 (u2 c 39 (c 143 2 * 3).toNat a) 39 (c 143 2 * 3 + 1).toNat b) 39 (c 143 2 * 3 + 2).toNat e) 38 2 (c 143 2 + 1)) 143 (320 + 3 * c 143 2).toNat a) 143 (320 + 3 * c 143 2 + 1).toNat b) 143 (320 + 3 * c 143 2 + 2).toNat e) 143 2 (c 143 2 + 1)))) := by
            generalize (u2 (u2 (u2 (u2 c 39 (c 143 2 * 3).toNat a) 39 (c 143 2 * 3 + 1).toNat b) 39 (c 143 2 * 3 + 2).toNat e) 38 2 (c 143 2 + 1)) = c1 at hm1 q1 ⊢
            rw [c270 (hg := gC142 hs c1)]
            have m269' : ∀ x, Cd 998 269 [vA 142, vI x] (s, c1) = some ([vI (b2i (isS (c 143 3) x))], (s, c1)) := fun x => by
              have := m269 996 hs hm1 (by rw [q1]; exact l1) (by rw [q1]; exact l3) x
              rw [q1] at this; exact this
            repeat (first | rw [bnd_s] | rw [tI_m] | rw [tL_m] | rw [tA_m] | rw [tV_m] | rw [fC142 hs _ (by decide)] | rw [pC142 hs _ _ (by decide)] | rw [u2_e] | rw [u2_n (by omega)] | rw [q1] | rw [MS_0 hm1] | rw [aC143 hs _ (by decide) (by decide)] | rw [aC143 hs _ (by omega) (by omega)] | rw [qC143 hs _ _ (by omega) (by omega)] | rw [show (0 : Int).toNat = 0 from rfl] | rw [show (1 : Int).toNat = 1 from rfl] | rw [show (2 : Int).toNat = 2 from rfl] | rw [show (3 : Int).toNat = 3 from rfl] | rw [show (4 : Int).toNat = 4 from rfl] | rw [show (5 : Int).toNat = 5 from rfl] | rw [show (10 : Int).toNat = 10 from rfl] | rw [show (11 : Int).toNat = 11 from rfl] | rw [show (12 : Int).toNat = 12 from rfl] | rw [show (13 : Int).toNat = 13 from rfl] | rw [show (14 : Int).toNat = 14 from rfl] | rw [m269' _] | rw [if_b0] | rw [cond_t] | rw [cond_f] | rw [isS_t (by omega)] | rw [isS_f (by omega)] | rw [if_neg (show ¬ c 143 2 = 3 by omega)] | rw [w32_m (by omega) (by omega)] | rw [w32_al] | rw [w32_ar] | rw [w32_sl] | rw [w32_sr] | rw [w32_ml] | rw [w32_mr] | rw [w32_a3] | rw [w32_b3] | rw [w32_c3] | rw [w32_d3] | rw [w32_id (by omega) (by omega)])
            rw [show c 143 2 + 1 - 1 = c 143 2 by omega]
          refine ⟨_, s, s, _, (u2 (u2 (u2 (u2 (u2 (u2 (u2 (u2 c 39 (c 143 2 * 3).toNat a) 39 (c 143 2 * 3 + 1).toNat b) 39 (c 143 2 * 3 + 2).toNat e) 38 2 (c 143 2 + 1)) 143 (320 + 3 * c 143 2).toNat a) 143 (320 + 3 * c 143 2 + 1).toNat b) 143 (320 + 3 * c 143 2 + 2).toNat e) 143 2 (c 143 2 + 1)), n, r1, r2, by omega, ?_⟩
          refine Inv_set hI (fun o k g1 g2 => ?_) ?_ (fun k hk => ?_) (SeeRel_of a10 (fun k g1 g2 => ?_) (funext fun k => ?_) (funext fun k => ?_)) (BoxRel_of a11 ?_ ?_ ?_ (fun g1 g2 => ?_) (fun k g1 g2 => ?_) (funext fun k => ?_)) (LockRel_of a12 (fun k g1 g2 => ?_) (funext fun k => ?_)) ?_
          case refine_15 =>
            unfold RidRel
            refine ⟨⟨?_, ?_⟩, ?_, ?_, fun i hi hi2 => ?_⟩
            case refine_5 =>
              rw [u2_e] at hi2
              by_cases i1 : i = 3 * c 143 2
              · subst i1
                rw [show 3 * c 143 2 = c 143 2 * 3 by omega]
                repeat (first | rw [u2_e] | rw [u2_n (by omega)] | rw [show 320 + c 143 2 * 3 = 320 + 3 * c 143 2 by omega])
                omega
              · by_cases i2 : i = 3 * c 143 2 + 1
                · subst i2
                  rw [show 3 * c 143 2 + 1 = c 143 2 * 3 + 1 by omega]
                  repeat (first | rw [u2_e] | rw [u2_n (by omega)] | rw [show 320 + (c 143 2 * 3 + 1) = 320 + 3 * c 143 2 + 1 by omega])
                  omega
                · by_cases i3 : i = 3 * c 143 2 + 2
                  · subst i3
                    rw [show 3 * c 143 2 + 2 = c 143 2 * 3 + 2 by omega]
                    repeat (first | rw [u2_e] | rw [u2_n (by omega)] | rw [show 320 + (c 143 2 * 3 + 2) = 320 + 3 * c 143 2 + 2 by omega])
                    omega
                  · have g := hsg i hi (by omega)
                    repeat rw [u2_n (by omega)]
                    exact g
            all_goals (repeat (first | rw [u2_e] | rw [u2_n (by omega)]))
            all_goals omega
          all_goals (repeat rw [u2_n (by omega)])
          all_goals omega
        · have r1 : Cd 999 144 [vA 29, vI a, vI b, vI e] (s, c) = some ([vI (-1)], (s, c)) := by
            rw [c144 (hg := gC29 hs c)]
            repeat (first | rw [bnd_s] | rw [tI_m] | rw [tL_m] | rw [tA_m] | rw [tV_m] | rw [fC29 hs _ (by decide)] | rw [pC29 hs _ _ (by decide)] | rw [fC30 hs _ (by decide)] | rw [pC30 hs _ _ (by decide)] | rw [fC38 hs _ (by decide)] | rw [CS_29_0 hc] | rw [CS_30_5 hc] | rw [e2] | rw [k93' _] | rw [if_b0] | rw [cond_t] | rw [cond_f] | rw [isS_t (by omega)] | rw [isS_f (by omega)] | rw [if_pos (by omega)] | rw [if_neg (by omega)] | rw [c94 (hg := gC38 hs _)] | rw [c94_16])
          have r2 : Cd 999 270 [vA 142, vI a, vI b, vI e] (s, c) = some ([vI (-1)], (s, c)) := by
            rw [c270 (hg := gC142 hs c)]
            repeat (first | rw [bnd_s] | rw [tI_m] | rw [tL_m] | rw [tA_m] | rw [tV_m] | rw [fC142 hs _ (by decide)] | rw [pC142 hs _ _ (by decide)] | rw [MS_0 hm] | rw [MS_1 hm] | rw [MS_2 hm] | rw [MS_3 hm] | rw [MS_4 hm] | rw [MS_5 hm] | rw [MS_7 hm] | rw [MS_8 hm] | rw [MS_21 hm] | rw [MS_29 hm] | rw [MS_30 hm] | rw [MS_31 hm] | rw [MS_37 hm] | rw [MS_38 hm] | rw [MS_39 hm] | rw [MS_40 hm] | rw [aC143 hs _ (by decide) (by decide)] | rw [show (0 : Int).toNat = 0 from rfl] | rw [show (1 : Int).toNat = 1 from rfl] | rw [show (2 : Int).toNat = 2 from rfl] | rw [show (3 : Int).toNat = 3 from rfl] | rw [show (4 : Int).toNat = 4 from rfl] | rw [show (5 : Int).toNat = 5 from rfl] | rw [show (10 : Int).toNat = 10 from rfl] | rw [show (11 : Int).toNat = 11 from rfl] | rw [show (12 : Int).toNat = 12 from rfl] | rw [show (13 : Int).toNat = 13 from rfl] | rw [show (14 : Int).toNat = 14 from rfl] | rw [m269 _ hs hm l1 l3] | rw [if_b0] | rw [cond_t] | rw [cond_f] | rw [isS_t (by omega)] | rw [isS_f (by omega)] | rw [if_pos (by omega)] | rw [if_neg (by omega)] | rw [c270_18])
            all_goals (cases isS (c 143 3) a <;> cases isS (c 143 3) b <;> cases isS (c 143 3) e <;> rfl)
          exact ⟨_, s, s, c, c, n, r1, r2, by omega, hI⟩
      · have r1 : Cd 999 144 [vA 29, vI a, vI b, vI e] (s, c) = some ([vI (-1)], (s, c)) := by
          rw [c144 (hg := gC29 hs c)]
          repeat (first | rw [bnd_s] | rw [tI_m] | rw [tL_m] | rw [tA_m] | rw [tV_m] | rw [fC29 hs _ (by decide)] | rw [pC29 hs _ _ (by decide)] | rw [fC30 hs _ (by decide)] | rw [pC30 hs _ _ (by decide)] | rw [fC38 hs _ (by decide)] | rw [CS_29_0 hc] | rw [CS_30_5 hc] | rw [e2] | rw [k93' _] | rw [if_b0] | rw [cond_t] | rw [cond_f] | rw [isS_t (by omega)] | rw [isS_f (by omega)] | rw [if_pos (by omega)] | rw [if_neg (by omega)] | rw [c94 (hg := gC38 hs _)] | rw [c94_16])
        have r2 : Cd 999 270 [vA 142, vI a, vI b, vI e] (s, c) = some ([vI (-1)], (s, c)) := by
          rw [c270 (hg := gC142 hs c)]
          repeat (first | rw [bnd_s] | rw [tI_m] | rw [tL_m] | rw [tA_m] | rw [tV_m] | rw [fC142 hs _ (by decide)] | rw [pC142 hs _ _ (by decide)] | rw [MS_0 hm] | rw [MS_1 hm] | rw [MS_2 hm] | rw [MS_3 hm] | rw [MS_4 hm] | rw [MS_5 hm] | rw [MS_7 hm] | rw [MS_8 hm] | rw [MS_21 hm] | rw [MS_29 hm] | rw [MS_30 hm] | rw [MS_31 hm] | rw [MS_37 hm] | rw [MS_38 hm] | rw [MS_39 hm] | rw [MS_40 hm] | rw [aC143 hs _ (by decide) (by decide)] | rw [show (0 : Int).toNat = 0 from rfl] | rw [show (1 : Int).toNat = 1 from rfl] | rw [show (2 : Int).toNat = 2 from rfl] | rw [show (3 : Int).toNat = 3 from rfl] | rw [show (4 : Int).toNat = 4 from rfl] | rw [show (5 : Int).toNat = 5 from rfl] | rw [show (10 : Int).toNat = 10 from rfl] | rw [show (11 : Int).toNat = 11 from rfl] | rw [show (12 : Int).toNat = 12 from rfl] | rw [show (13 : Int).toNat = 13 from rfl] | rw [show (14 : Int).toNat = 14 from rfl] | rw [m269 _ hs hm l1 l3] | rw [if_b0] | rw [cond_t] | rw [cond_f] | rw [isS_t (by omega)] | rw [isS_f (by omega)] | rw [if_pos (by omega)] | rw [if_neg (by omega)] | rw [c270_18])
          all_goals (cases isS (c 143 3) a <;> cases isS (c 143 3) b <;> cases isS (c 143 3) e <;> rfl)
        exact ⟨_, s, s, c, c, n, r1, r2, by omega, hI⟩
    · have r1 : Cd 999 144 [vA 29, vI a, vI b, vI e] (s, c) = some ([vI (-1)], (s, c)) := by
        rw [c144 (hg := gC29 hs c)]
        repeat (first | rw [bnd_s] | rw [tI_m] | rw [tL_m] | rw [tA_m] | rw [tV_m] | rw [fC29 hs _ (by decide)] | rw [pC29 hs _ _ (by decide)] | rw [fC30 hs _ (by decide)] | rw [pC30 hs _ _ (by decide)] | rw [fC38 hs _ (by decide)] | rw [CS_29_0 hc] | rw [CS_30_5 hc] | rw [e2] | rw [k93' _] | rw [if_b0] | rw [cond_t] | rw [cond_f] | rw [isS_t (by omega)] | rw [isS_f (by omega)] | rw [if_pos (by omega)] | rw [if_neg (by omega)] | rw [c94 (hg := gC38 hs _)] | rw [c94_16])
      have r2 : Cd 999 270 [vA 142, vI a, vI b, vI e] (s, c) = some ([vI (-1)], (s, c)) := by
        rw [c270 (hg := gC142 hs c)]
        repeat (first | rw [bnd_s] | rw [tI_m] | rw [tL_m] | rw [tA_m] | rw [tV_m] | rw [fC142 hs _ (by decide)] | rw [pC142 hs _ _ (by decide)] | rw [MS_0 hm] | rw [MS_1 hm] | rw [MS_2 hm] | rw [MS_3 hm] | rw [MS_4 hm] | rw [MS_5 hm] | rw [MS_7 hm] | rw [MS_8 hm] | rw [MS_21 hm] | rw [MS_29 hm] | rw [MS_30 hm] | rw [MS_31 hm] | rw [MS_37 hm] | rw [MS_38 hm] | rw [MS_39 hm] | rw [MS_40 hm] | rw [aC143 hs _ (by decide) (by decide)] | rw [show (0 : Int).toNat = 0 from rfl] | rw [show (1 : Int).toNat = 1 from rfl] | rw [show (2 : Int).toNat = 2 from rfl] | rw [show (3 : Int).toNat = 3 from rfl] | rw [show (4 : Int).toNat = 4 from rfl] | rw [show (5 : Int).toNat = 5 from rfl] | rw [show (10 : Int).toNat = 10 from rfl] | rw [show (11 : Int).toNat = 11 from rfl] | rw [show (12 : Int).toNat = 12 from rfl] | rw [show (13 : Int).toNat = 13 from rfl] | rw [show (14 : Int).toNat = 14 from rfl] | rw [m269 _ hs hm l1 l3] | rw [if_b0] | rw [cond_t] | rw [cond_f] | rw [isS_t (by omega)] | rw [isS_f (by omega)] | rw [if_pos (by omega)] | rw [if_neg (by omega)] | rw [c270_18])
        all_goals (cases isS (c 143 3) a <;> cases isS (c 143 3) b <;> cases isS (c 143 3) e <;> rfl)
      exact ⟨_, s, s, c, c, n, r1, r2, by omega, hI⟩
  · have r1 : Cd 999 144 [vA 29, vI a, vI b, vI e] (s, c) = some ([vI (-1)], (s, c)) := by
      rw [c144 (hg := gC29 hs c)]
      repeat (first | rw [bnd_s] | rw [tI_m] | rw [tL_m] | rw [tA_m] | rw [tV_m] | rw [fC29 hs _ (by decide)] | rw [pC29 hs _ _ (by decide)] | rw [fC30 hs _ (by decide)] | rw [pC30 hs _ _ (by decide)] | rw [fC38 hs _ (by decide)] | rw [CS_29_0 hc] | rw [CS_30_5 hc] | rw [e2] | rw [k93' _] | rw [if_b0] | rw [cond_t] | rw [cond_f] | rw [isS_t (by omega)] | rw [isS_f (by omega)] | rw [if_pos (by omega)] | rw [if_neg (by omega)] | rw [c94 (hg := gC38 hs _)] | rw [c94_16])
    have r2 : Cd 999 270 [vA 142, vI a, vI b, vI e] (s, c) = some ([vI (-1)], (s, c)) := by
      rw [c270 (hg := gC142 hs c)]
      repeat (first | rw [bnd_s] | rw [tI_m] | rw [tL_m] | rw [tA_m] | rw [tV_m] | rw [fC142 hs _ (by decide)] | rw [pC142 hs _ _ (by decide)] | rw [MS_0 hm] | rw [MS_1 hm] | rw [MS_2 hm] | rw [MS_3 hm] | rw [MS_4 hm] | rw [MS_5 hm] | rw [MS_7 hm] | rw [MS_8 hm] | rw [MS_21 hm] | rw [MS_29 hm] | rw [MS_30 hm] | rw [MS_31 hm] | rw [MS_37 hm] | rw [MS_38 hm] | rw [MS_39 hm] | rw [MS_40 hm] | rw [aC143 hs _ (by decide) (by decide)] | rw [show (0 : Int).toNat = 0 from rfl] | rw [show (1 : Int).toNat = 1 from rfl] | rw [show (2 : Int).toNat = 2 from rfl] | rw [show (3 : Int).toNat = 3 from rfl] | rw [show (4 : Int).toNat = 4 from rfl] | rw [show (5 : Int).toNat = 5 from rfl] | rw [show (10 : Int).toNat = 10 from rfl] | rw [show (11 : Int).toNat = 11 from rfl] | rw [show (12 : Int).toNat = 12 from rfl] | rw [show (13 : Int).toNat = 13 from rfl] | rw [show (14 : Int).toNat = 14 from rfl] | rw [m269 _ hs hm l1 l3] | rw [if_b0] | rw [cond_t] | rw [cond_f] | rw [isS_t (by omega)] | rw [isS_f (by omega)] | rw [if_pos (by omega)] | rw [if_neg (by omega)] | rw [c270_18])
      all_goals (cases isS (c 143 3) a <;> cases isS (c 143 3) b <;> cases isS (c 143 3) e <;> rfl)
    exact ⟨_, s, s, c, c, n, r1, r2, by omega, hI⟩
def btAn : Bool := (List.range 128).all fun a => (List.range 7).all fun y => decide (0 ≤ iand (a : Nat) (ixor (ishl 1 (y : Nat)) (-1)) ∧ iand (a : Nat) (ixor (ishl 1 (y : Nat)) (-1)) < 128) && (List.range 7).all fun o => bt (iand (a : Nat) (ixor (ishl 1 (y : Nat)) (-1))) (o : Nat) == (bt (a : Nat) (o : Nat) && !(o == y))
theorem btAn_ok : btAn = true := by decide +kernel
theorem bt_an {a y : Int} (h0 : 0 ≤ a) (h1 : a < 128) (h2 : 0 ≤ y) (h3 : y < 7) : (0 ≤ iand a (ixor (ishl 1 y) (-1)) ∧ iand a (ixor (ishl 1 y) (-1)) < 128) ∧ ∀ o, 0 ≤ o → o < 7 → bt (iand a (ixor (ishl 1 y) (-1))) o = (bt a o && !decide (o = y)) := by
  have h := List.all_eq_true.mp (List.all_eq_true.mp btAn_ok a.toNat (List.mem_range.mpr (by omega))) y.toNat (List.mem_range.mpr (by omega))
  simp only [Bool.and_eq_true, decide_eq_true_eq, Int.toNat_of_nonneg h0, Int.toNat_of_nonneg h2] at h
  refine ⟨h.1, fun o ho ho2 => ?_⟩
  have g := List.all_eq_true.mp h.2 o.toNat (List.mem_range.mpr (by omega))
  simp only [beq_iff_eq, Int.toNat_of_nonneg ho] at g
  rw [g]
  congr 2
  rw [Bool.eq_iff_iff]
  simp; omega
theorem op_see (v l p : Int) : Op 132 247 [vI v, vI l, vI p] := by
  intro s c n hI
  have hs := hI.1.l
  have hc := hI.2.2.2.1
  have hm := hI.2.2.1
  have n2 := hI.nM.2
  obtain ⟨a10, a11, a12, a13⟩ := hI.2.2.2.2.1.2.2.2.2.2
  by_cases h1 : 0 ≤ v
  · by_cases h2 : v < 20
    · by_cases h3 : 0 ≤ l
      · by_cases h4 : l < 7
        · by_cases h5 : -1 ≤ p ∧ p ≤ 2
          · by_cases g : p = -1
            · have r1 : Cd 999 132 [vA 29, vI v, vI l, vI p] (s, c) = some ([vI 1], (s, (u2 c 34 v.toNat (iand (c 34 v.toNat) (ixor (ishl 1 l) (-1)))))) := by
                rw [c132 (hg := gC29 hs c)]
                repeat (first | rw [bnd_s] | rw [tI_m] | rw [tL_m] | rw [tA_m] | rw [tV_m] | rw [fC29 hs _ (by decide)] | rw [pC29 hs _ _ (by decide)] | rw [fC30 hs _ (by decide)] | rw [pC30 hs _ _ (by decide)] | rw [fC33 hs _ (by decide)] | rw [pC33 hs _ _ (by decide)] | rw [u2_e] | rw [u2_n (by omega)] | rw [CS_29_0 hc] | rw [CS_30_2 hc] | rw [CS_33_0 hc] | rw [CS_33_1 hc] | rw [k160] | rw [if_b0] | rw [decide_eq_true (by omega)] | rw [decide_eq_false (by omega)] | rw [inR_t (by omega)] | rw [inR_f (by omega)] | rw [cond_t] | rw [cond_f] | rw [if_pos g] | rw [if_neg g] | rw [if_pos (by omega)] | rw [if_neg (by omega)] | rw [aC34 hs _ (by omega) (by omega)] | rw [qC34 hs _ _ (by omega) (by omega)] | rw [aC35 hs _ (by omega) (by omega)] | rw [qC35 hs _ _ (by omega) (by omega)] | rw [w32_m (by omega) (by omega)] | rw [w32_al] | rw [w32_ar] | rw [w32_sl] | rw [w32_sr] | rw [w32_ml] | rw [w32_mr] | rw [w32_a3] | rw [w32_b3] | rw [w32_c3] | rw [w32_d3] | rw [w32_id (by omega) (by omega)] | rw [c132_20] | rw [c107 (hg := gC33 hs _)] | rw [c107_35])
              have hm1 : MS (u2 c 34 v.toNat (iand (c 34 v.toNat) (ixor (ishl 1 l) (-1)))) := MS_a hm _ (by decide)
              have r2 : Cd 999 247 [vA 142, vI v, vI l, vI p] (s, (u2 c 34 v.toNat (iand (c 34 v.toNat) (ixor (ishl 1 l) (-1))))) = some ([vI 1], (s, (u2 (u2 c 34 v.toNat (iand (c 34 v.toNat) (ixor (ishl 1 l) (-1)))) 143 (150 + 7 * v + l).toNat p))) := by
                generalize (u2 c 34 v.toNat (iand (c 34 v.toNat) (ixor (ishl 1 l) (-1)))) = c1 at hm1 ⊢
                rw [c247 (hg := gC142 hs c1)]
                repeat (first | rw [bnd_s] | rw [tI_m] | rw [tL_m] | rw [tA_m] | rw [tV_m] | rw [fC142 hs _ (by decide)] | rw [pC142 hs _ _ (by decide)] | rw [MS_0 hm1] | rw [w32_m (by omega) (by omega)] | rw [w32_al] | rw [w32_ar] | rw [w32_sl] | rw [w32_sr] | rw [w32_ml] | rw [w32_mr] | rw [w32_a3] | rw [w32_b3] | rw [w32_c3] | rw [w32_d3] | rw [w32_id (by omega) (by omega)] | rw [aC143 hs _ (by omega) (by omega)] | rw [qC143 hs _ _ (by omega) (by omega)] | rw [m172] | rw [if_b0] | rw [decide_eq_true (by omega)] | rw [decide_eq_false (by omega)] | rw [inR_t (by omega)] | rw [inR_f (by omega)] | rw [cond_t] | rw [cond_f])
              refine ⟨_, s, s, _, (u2 (u2 c 34 v.toNat (iand (c 34 v.toNat) (ixor (ishl 1 l) (-1)))) 143 (150 + 7 * v + l).toNat p), n, r1, r2, by omega, ?_⟩
              refine Inv_set hI (fun o k g1 g2 => ?_) ?_ (fun k hk => ?_) (fun v' l' b0 b1 b2 b3 => ?_) (BoxRel_of a11 ?_ ?_ ?_ (fun g1 g2 => ?_) (fun k g1 g2 => ?_) (funext fun k => ?_)) (LockRel_of a12 (fun k g1 g2 => ?_) (funext fun k => ?_)) (RidRel_of a13 ?_ ?_ (fun k g1 g2 => ?_) (funext fun k => ?_) (funext fun k => ?_))
              case refine_4 =>
                have a := a10 v' l' b0 b1 b2 b3
                have a0 := a10 v l' (by omega) (by omega) b2 b3
                rw [show 30 + 4 = 34 from rfl, show 30 + 5 = 35 from rfl] at a a0 ⊢
                have bb := bt_an a0.1.1 a0.1.2 (show 0 ≤ l by omega) (show l < 7 by omega)
                have bl := bb.2 l' b2 b3
                by_cases hv : v' = v
                · subst hv
                  by_cases hl : l' = l
                  · subst hl
                    rw [u2_n (i' := 34) (by omega), u2_e, u2_e, bl]
                    exact ⟨bb.1, by omega, by rw [decide_eq_true rfl, Bool.not_true, Bool.and_false, decide_eq_false (by omega)], fun g => by omega⟩
                  · rw [u2_n (i' := 34) (by omega), u2_e, u2_n (i' := 143) (by omega), u2_n (i' := 143) (by omega), bl, decide_eq_false hl, Bool.not_false, Bool.and_true]
                    exact ⟨bb.1, a.2.1, a.2.2.1, fun g => by rw [u2_n (by omega), u2_n (by omega)]; exact a.2.2.2 g⟩
                · rw [u2_n (i' := 34) (by omega), u2_n (i' := 34) (by omega), u2_n (i' := 143) (by omega), u2_n (i' := 143) (by omega)]
                  exact ⟨a.1, a.2.1, a.2.2.1, fun g => by rw [u2_n (by omega), u2_n (by omega)]; exact a.2.2.2 g⟩
              all_goals (repeat rw [u2_n (by omega)])
              all_goals omega
            · have r1 : Cd 999 132 [vA 29, vI v, vI l, vI p] (s, c) = some ([vI 1], (s, (u2 (u2 c 34 v.toNat (ior (c 34 v.toNat) (ishl 1 l))) 35 (v * 7 + l).toNat p))) := by
                rw [c132 (hg := gC29 hs c)]
                repeat (first | rw [bnd_s] | rw [tI_m] | rw [tL_m] | rw [tA_m] | rw [tV_m] | rw [fC29 hs _ (by decide)] | rw [pC29 hs _ _ (by decide)] | rw [fC30 hs _ (by decide)] | rw [pC30 hs _ _ (by decide)] | rw [fC33 hs _ (by decide)] | rw [pC33 hs _ _ (by decide)] | rw [u2_e] | rw [u2_n (by omega)] | rw [CS_29_0 hc] | rw [CS_30_2 hc] | rw [CS_33_0 hc] | rw [CS_33_1 hc] | rw [k160] | rw [if_b0] | rw [decide_eq_true (by omega)] | rw [decide_eq_false (by omega)] | rw [inR_t (by omega)] | rw [inR_f (by omega)] | rw [cond_t] | rw [cond_f] | rw [if_pos g] | rw [if_neg g] | rw [if_pos (by omega)] | rw [if_neg (by omega)] | rw [aC34 hs _ (by omega) (by omega)] | rw [qC34 hs _ _ (by omega) (by omega)] | rw [aC35 hs _ (by omega) (by omega)] | rw [qC35 hs _ _ (by omega) (by omega)] | rw [w32_m (by omega) (by omega)] | rw [w32_al] | rw [w32_ar] | rw [w32_sl] | rw [w32_sr] | rw [w32_ml] | rw [w32_mr] | rw [w32_a3] | rw [w32_b3] | rw [w32_c3] | rw [w32_d3] | rw [w32_id (by omega) (by omega)] | rw [c132_20] | rw [c107 (hg := gC33 hs _)] | rw [c107_35])
              have hm1 : MS (u2 (u2 c 34 v.toNat (ior (c 34 v.toNat) (ishl 1 l))) 35 (v * 7 + l).toNat p) := MS_a (MS_a hm _ (by decide)) _ (by decide)
              have r2 : Cd 999 247 [vA 142, vI v, vI l, vI p] (s, (u2 (u2 c 34 v.toNat (ior (c 34 v.toNat) (ishl 1 l))) 35 (v * 7 + l).toNat p)) = some ([vI 1], (s, (u2 (u2 (u2 c 34 v.toNat (ior (c 34 v.toNat) (ishl 1 l))) 35 (v * 7 + l).toNat p) 143 (150 + 7 * v + l).toNat p))) := by
                generalize (u2 (u2 c 34 v.toNat (ior (c 34 v.toNat) (ishl 1 l))) 35 (v * 7 + l).toNat p) = c1 at hm1 ⊢
                rw [c247 (hg := gC142 hs c1)]
                repeat (first | rw [bnd_s] | rw [tI_m] | rw [tL_m] | rw [tA_m] | rw [tV_m] | rw [fC142 hs _ (by decide)] | rw [pC142 hs _ _ (by decide)] | rw [MS_0 hm1] | rw [w32_m (by omega) (by omega)] | rw [w32_al] | rw [w32_ar] | rw [w32_sl] | rw [w32_sr] | rw [w32_ml] | rw [w32_mr] | rw [w32_a3] | rw [w32_b3] | rw [w32_c3] | rw [w32_d3] | rw [w32_id (by omega) (by omega)] | rw [aC143 hs _ (by omega) (by omega)] | rw [qC143 hs _ _ (by omega) (by omega)] | rw [m172] | rw [if_b0] | rw [decide_eq_true (by omega)] | rw [decide_eq_false (by omega)] | rw [inR_t (by omega)] | rw [inR_f (by omega)] | rw [cond_t] | rw [cond_f])
              refine ⟨_, s, s, _, (u2 (u2 (u2 c 34 v.toNat (ior (c 34 v.toNat) (ishl 1 l))) 35 (v * 7 + l).toNat p) 143 (150 + 7 * v + l).toNat p), n, r1, r2, by omega, ?_⟩
              refine Inv_set hI (fun o k g1 g2 => ?_) ?_ (fun k hk => ?_) (fun v' l' b0 b1 b2 b3 => ?_) (BoxRel_of a11 ?_ ?_ ?_ (fun g1 g2 => ?_) (fun k g1 g2 => ?_) (funext fun k => ?_)) (LockRel_of a12 (fun k g1 g2 => ?_) (funext fun k => ?_)) (RidRel_of a13 ?_ ?_ (fun k g1 g2 => ?_) (funext fun k => ?_) (funext fun k => ?_))
              case refine_4 =>
                have a := a10 v' l' b0 b1 b2 b3
                have a0 := a10 v l' (by omega) (by omega) b2 b3
                rw [show 30 + 4 = 34 from rfl, show 30 + 5 = 35 from rfl] at a a0 ⊢
                have bb := bt_or a0.1.1 a0.1.2 (show 0 ≤ l by omega) (show l < 7 by omega)
                have bl := bb.2 l' b2 b3
                by_cases hv : v' = v
                · subst hv
                  by_cases hl : l' = l
                  · subst hl
                    rw [u2_n (i' := 34) (by omega), u2_n (i' := 34) (by omega), u2_e, u2_e, bl]
                    exact ⟨bb.1, by omega, by rw [decide_eq_true rfl, Bool.or_true, decide_eq_true (by omega)], fun _ => by rw [u2_n (by omega), show 7 * v' + l' = v' * 7 + l' by omega, u2_e]⟩
                  · rw [u2_n (i' := 34) (by omega), u2_n (i' := 34) (by omega), u2_e, u2_n (i' := 143) (by omega), u2_n (i' := 143) (by omega), u2_n (i' := 143) (by omega), bl, decide_eq_false hl, Bool.or_false]
                    exact ⟨bb.1, a.2.1, a.2.2.1, fun g => by rw [u2_n (by omega), u2_n (by omega), u2_n (by omega)]; exact a.2.2.2 g⟩
                · rw [u2_n (i' := 34) (by omega), u2_n (i' := 34) (by omega), u2_n (i' := 34) (by omega), u2_n (i' := 143) (by omega), u2_n (i' := 143) (by omega), u2_n (i' := 143) (by omega)]
                  exact ⟨a.1, a.2.1, a.2.2.1, fun g => by rw [u2_n (by omega), u2_n (by omega), u2_n (by omega)]; exact a.2.2.2 g⟩
              all_goals (repeat rw [u2_n (by omega)])
              all_goals omega
          · have r1 : Cd 999 132 [vA 29, vI v, vI l, vI p] (s, c) = some ([vI 0], (s, c)) := by
              rw [c132 (hg := gC29 hs c)]
              repeat (first | rw [bnd_s] | rw [tI_m] | rw [tL_m] | rw [tA_m] | rw [tV_m] | rw [k160] | rw [if_b0] | rw [if_pos (by omega)] | rw [if_neg (by omega)] | rw [decide_eq_true (by omega)] | rw [decide_eq_false (by omega)] | rw [inR_t (by omega)] | rw [inR_f (by omega)] | rw [cond_t] | rw [cond_f] | rw [c132_10])
            have r2 : Cd 999 247 [vA 142, vI v, vI l, vI p] (s, c) = some ([vI 0], (s, c)) := by
              rw [c247 (hg := gC142 hs c)]
              repeat (first | rw [bnd_s] | rw [tI_m] | rw [tL_m] | rw [tA_m] | rw [tV_m] | rw [fC142 hs _ (by decide)] | rw [pC142 hs _ _ (by decide)] | rw [MS_0 hm] | rw [MS_1 hm] | rw [MS_2 hm] | rw [MS_3 hm] | rw [MS_4 hm] | rw [MS_5 hm] | rw [MS_7 hm] | rw [MS_8 hm] | rw [MS_21 hm] | rw [MS_29 hm] | rw [MS_30 hm] | rw [MS_31 hm] | rw [MS_37 hm] | rw [MS_38 hm] | rw [MS_39 hm] | rw [MS_40 hm] | rw [m172] | rw [if_b0] | rw [decide_eq_true (by omega)] | rw [decide_eq_false (by omega)] | rw [inR_t (by omega)] | rw [inR_f (by omega)] | rw [cond_t] | rw [cond_f] | rw [c247_15])
            exact ⟨_, s, s, c, c, n, r1, r2, by omega, hI⟩
        · have r1 : Cd 999 132 [vA 29, vI v, vI l, vI p] (s, c) = some ([vI 0], (s, c)) := by
            rw [c132 (hg := gC29 hs c)]
            repeat (first | rw [bnd_s] | rw [tI_m] | rw [tL_m] | rw [tA_m] | rw [tV_m] | rw [k160] | rw [if_b0] | rw [if_pos (by omega)] | rw [if_neg (by omega)] | rw [decide_eq_true (by omega)] | rw [decide_eq_false (by omega)] | rw [inR_t (by omega)] | rw [inR_f (by omega)] | rw [cond_t] | rw [cond_f] | rw [c132_10])
          have r2 : Cd 999 247 [vA 142, vI v, vI l, vI p] (s, c) = some ([vI 0], (s, c)) := by
            rw [c247 (hg := gC142 hs c)]
            repeat (first | rw [bnd_s] | rw [tI_m] | rw [tL_m] | rw [tA_m] | rw [tV_m] | rw [fC142 hs _ (by decide)] | rw [pC142 hs _ _ (by decide)] | rw [MS_0 hm] | rw [MS_1 hm] | rw [MS_2 hm] | rw [MS_3 hm] | rw [MS_4 hm] | rw [MS_5 hm] | rw [MS_7 hm] | rw [MS_8 hm] | rw [MS_21 hm] | rw [MS_29 hm] | rw [MS_30 hm] | rw [MS_31 hm] | rw [MS_37 hm] | rw [MS_38 hm] | rw [MS_39 hm] | rw [MS_40 hm] | rw [m172] | rw [if_b0] | rw [decide_eq_true (by omega)] | rw [decide_eq_false (by omega)] | rw [inR_t (by omega)] | rw [inR_f (by omega)] | rw [cond_t] | rw [cond_f] | rw [c247_15])
          exact ⟨_, s, s, c, c, n, r1, r2, by omega, hI⟩
      · have r1 : Cd 999 132 [vA 29, vI v, vI l, vI p] (s, c) = some ([vI 0], (s, c)) := by
          rw [c132 (hg := gC29 hs c)]
          repeat (first | rw [bnd_s] | rw [tI_m] | rw [tL_m] | rw [tA_m] | rw [tV_m] | rw [k160] | rw [if_b0] | rw [if_pos (by omega)] | rw [if_neg (by omega)] | rw [decide_eq_true (by omega)] | rw [decide_eq_false (by omega)] | rw [inR_t (by omega)] | rw [inR_f (by omega)] | rw [cond_t] | rw [cond_f] | rw [c132_10])
        have r2 : Cd 999 247 [vA 142, vI v, vI l, vI p] (s, c) = some ([vI 0], (s, c)) := by
          rw [c247 (hg := gC142 hs c)]
          repeat (first | rw [bnd_s] | rw [tI_m] | rw [tL_m] | rw [tA_m] | rw [tV_m] | rw [fC142 hs _ (by decide)] | rw [pC142 hs _ _ (by decide)] | rw [MS_0 hm] | rw [MS_1 hm] | rw [MS_2 hm] | rw [MS_3 hm] | rw [MS_4 hm] | rw [MS_5 hm] | rw [MS_7 hm] | rw [MS_8 hm] | rw [MS_21 hm] | rw [MS_29 hm] | rw [MS_30 hm] | rw [MS_31 hm] | rw [MS_37 hm] | rw [MS_38 hm] | rw [MS_39 hm] | rw [MS_40 hm] | rw [m172] | rw [if_b0] | rw [decide_eq_true (by omega)] | rw [decide_eq_false (by omega)] | rw [inR_t (by omega)] | rw [inR_f (by omega)] | rw [cond_t] | rw [cond_f] | rw [c247_15])
        exact ⟨_, s, s, c, c, n, r1, r2, by omega, hI⟩
    · have r1 : Cd 999 132 [vA 29, vI v, vI l, vI p] (s, c) = some ([vI 0], (s, c)) := by
        rw [c132 (hg := gC29 hs c)]
        repeat (first | rw [bnd_s] | rw [tI_m] | rw [tL_m] | rw [tA_m] | rw [tV_m] | rw [k160] | rw [if_b0] | rw [if_pos (by omega)] | rw [if_neg (by omega)] | rw [decide_eq_true (by omega)] | rw [decide_eq_false (by omega)] | rw [inR_t (by omega)] | rw [inR_f (by omega)] | rw [cond_t] | rw [cond_f] | rw [c132_10])
      have r2 : Cd 999 247 [vA 142, vI v, vI l, vI p] (s, c) = some ([vI 0], (s, c)) := by
        rw [c247 (hg := gC142 hs c)]
        repeat (first | rw [bnd_s] | rw [tI_m] | rw [tL_m] | rw [tA_m] | rw [tV_m] | rw [fC142 hs _ (by decide)] | rw [pC142 hs _ _ (by decide)] | rw [MS_0 hm] | rw [MS_1 hm] | rw [MS_2 hm] | rw [MS_3 hm] | rw [MS_4 hm] | rw [MS_5 hm] | rw [MS_7 hm] | rw [MS_8 hm] | rw [MS_21 hm] | rw [MS_29 hm] | rw [MS_30 hm] | rw [MS_31 hm] | rw [MS_37 hm] | rw [MS_38 hm] | rw [MS_39 hm] | rw [MS_40 hm] | rw [m172] | rw [if_b0] | rw [decide_eq_true (by omega)] | rw [decide_eq_false (by omega)] | rw [inR_t (by omega)] | rw [inR_f (by omega)] | rw [cond_t] | rw [cond_f] | rw [c247_15])
      exact ⟨_, s, s, c, c, n, r1, r2, by omega, hI⟩
  · have r1 : Cd 999 132 [vA 29, vI v, vI l, vI p] (s, c) = some ([vI 0], (s, c)) := by
      rw [c132 (hg := gC29 hs c)]
      repeat (first | rw [bnd_s] | rw [tI_m] | rw [tL_m] | rw [tA_m] | rw [tV_m] | rw [k160] | rw [if_b0] | rw [if_pos (by omega)] | rw [if_neg (by omega)] | rw [decide_eq_true (by omega)] | rw [decide_eq_false (by omega)] | rw [inR_t (by omega)] | rw [inR_f (by omega)] | rw [cond_t] | rw [cond_f] | rw [c132_10])
    have r2 : Cd 999 247 [vA 142, vI v, vI l, vI p] (s, c) = some ([vI 0], (s, c)) := by
      rw [c247 (hg := gC142 hs c)]
      repeat (first | rw [bnd_s] | rw [tI_m] | rw [tL_m] | rw [tA_m] | rw [tV_m] | rw [fC142 hs _ (by decide)] | rw [pC142 hs _ _ (by decide)] | rw [MS_0 hm] | rw [MS_1 hm] | rw [MS_2 hm] | rw [MS_3 hm] | rw [MS_4 hm] | rw [MS_5 hm] | rw [MS_7 hm] | rw [MS_8 hm] | rw [MS_21 hm] | rw [MS_29 hm] | rw [MS_30 hm] | rw [MS_31 hm] | rw [MS_37 hm] | rw [MS_38 hm] | rw [MS_39 hm] | rw [MS_40 hm] | rw [m172] | rw [if_b0] | rw [decide_eq_true (by omega)] | rw [decide_eq_false (by omega)] | rw [inR_t (by omega)] | rw [inR_f (by omega)] | rw [cond_t] | rw [cond_f] | rw [c247_15])
    exact ⟨_, s, s, c, c, n, r1, r2, by omega, hI⟩
