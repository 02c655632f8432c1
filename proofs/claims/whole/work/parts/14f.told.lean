/-! sightings, locks, riddles: what is told -/
theorem inR_t {x a b : Int} (h : a ≤ x ∧ x ≤ b) : inR x a b = true := decide_eq_true h
theorem inR_f {x a b : Int} (h : ¬ (a ≤ x ∧ x ≤ b)) : inR x a b = false := decide_eq_false h
/-- a change beside maps and showings -/
theorem Inv_set {s : List (Nat × Nat)} {c c' : Nat → Nat → Int} {n : Nat} (hI : Inv s c n) (e : ∀ o k, ¬ (34 ≤ o ∧ o ≤ 39) → o ≠ 143 → c' o k = c o k) (e38 : c' 38 0 = c 38 0) (ef : ∀ k, (k = 0 ∨ k = 1 ∨ (20 ≤ k ∧ k < 150)) → c' 143 k = c 143 k) (h1 : SeeRel (c' 143) c' 30) (h2 : BoxRel (c' 143) c' 30) (h3 : LockRel (c' 143) c' 30) (h4 : RidRel (c' 143) c' 30) : Inv s c' n := by
  have hmok := hI.mok
  have hn := hI.nM
  have n2 := hn.2
  obtain ⟨i1, i2, i3, i4, i5, i6, i7, i8, i9, i10⟩ := hI
  obtain ⟨a1, a4, a5, a6, a9, -⟩ := i5
  have ec : ∀ o, ¬ (34 ≤ o ∧ o ≤ 39) → o ≠ 143 → c' o = c o := fun o g1 g2 => funext fun k => e o k g1 g2
  refine ⟨i1, Xt_of i2 (fun o k ho => e o k (by omega) (by omega)), MS_of i3 (fun q _ => e _ _ (by omega) (by omega)) (ec _ (by omega) (by omega)) (ec _ (by omega) (by omega)), CS_k i4 (fun o k hk => ?_) (ec _ (by omega) (by omega)), ⟨?_, fun m hm => ?_, fun m hm hm2 => ?_, ?_, fun k hk => ?_, h1, h2, h3, h4⟩, ?_, ?_, RefI_of i8 (fun m hm => ⟨e _ _ (by omega) (by omega), e _ _ (by omega) (by omega)⟩), fun m hm hm2 => ?_, ?_⟩
  · by_cases ho : 34 ≤ o ∧ o ≤ 39
    · have : o = 38 ∧ k = 0 := by
        have hk2 : (cRefs.all fun q => !decide (34 ≤ q.1 ∧ q.1 ≤ 39) || (q.1 == 38 && q.2.1 == 0)) = true := by decide +kernel
        obtain ⟨q, hq, g⟩ := List.any_eq_true.mp hk
        simp only [Bool.and_eq_true, beq_iff_eq] at g
        obtain ⟨rfl, rfl⟩ := g
        have := List.all_eq_true.mp hk2 q hq
        rw [decide_eq_true ho] at this
        simpa using this
      rw [this.1, this.2]; exact e38
    · have := isRf_n hk
      exact e o k ho (by omega)
  · rw [ec 30 (by omega) (by omega), ef 0 (by omega)]; exact a1
  · rw [ef 0 (by omega)] at hm
    exact MapRel_f (f := c 143) (MapRel_of (a4 m hm) ⟨e _ _ (by omega) (by omega), e _ _ (by omega) (by omega)⟩ (ec _ (by omega) (by omega)) (ec _ (by omega) (by omega)) (ec _ (by omega) (by omega))) (by omega) (by omega) (fun k hk => ef k (by omega))
  · rw [ef 0 (by omega)] at hm2
    rw [ef _ (by omega)]; exact a5 m hm hm2
  · rw [ec 30 (by omega) (by omega), ef 1 (by omega)]; exact a6
  · rw [ef 1 (by omega)] at hk
    rw [ec 145 (by omega) (by omega)]
    exact ShRel_of (a9 k hk) (ec _ (by omega) (by omega)) (ec _ (by omega) (by omega))
  · rw [ec 144 (by omega) (by omega), ec 145 (by omega) (by omega)]
    exact StRel_of i6 (fun o k h1 h2 _ _ _ _ _ => e o k (by omega) (by omega))
  · rw [ec 144 (by omega) (by omega), ef 1 (by omega)]; exact i7
  · rw [ef 0 (by omega)] at hm2
    rw [ef _ (by omega), ansL_f (hmok m (by omega) hm2) (fun k hk => ef k (by omega)), e _ _ (by omega) (by omega)]
    rcases i9 m hm hm2 with g | g
    · exact Or.inl g
    · exact Or.inr (AnsC_of g ⟨[], by simp⟩ (fun k => e _ _ (by omega) (by omega)) (fun r hr _ => ⟨ec _ (by omega) (by omega), ec _ (by omega) (by omega)⟩))
  · unfold TapeRel at i10 ⊢
    rw [ec 142 (by omega) (by omega), ec 150 (by omega) (by omega), ec 122 (by omega) (by omega), ec 123 (by omega) (by omega)]
    exact i10
theorem k35 (d : Nat) (x : Int) (hp : HP) : Cd (d + 1) 35 [vI x] hp = some ([vI (b2i (decide (0 ≤ x ∧ x ≤ 63)))], hp) := by
  rw [c35]
  by_cases h1 : x < 0
  · rw [if_pos h1, c35_7, c35_8, if_pos (by decide), decide_eq_false (by omega)]; rfl
  · rw [if_neg h1]
    by_cases h2 : 63 < x
    · rw [if_pos h2, c35_7, c35_8, if_pos (by decide), decide_eq_false (by omega)]; rfl
    · rw [if_neg h2, c35_8, if_pos (by decide), decide_eq_true (by omega)]; rfl
theorem op_lock (a b e m r : Int) : Op 138 259 [vI a, vI b, vI e, vI m, vI r] := by
  intro s c n hI
  have hs := hI.1.l
  have hc := hI.2.2.2.1
  have hm := hI.2.2.1
  by_cases h1 : 0 ≤ a ∧ a ≤ 63
  · by_cases h2 : 0 ≤ b ∧ b ≤ 63
    · by_cases h3 : 0 ≤ e ∧ e ≤ 63
      · by_cases h4 : 1 ≤ m
        · by_cases h4b : m ≤ 64
          · by_cases h5 : 1 ≤ r
            · by_cases h5b : r ≤ 32
              · have r1 : Cd 999 138 [vA 29, vI a, vI b, vI e, vI m, vI r] (s, c) = some ([vI 1], (s, (u2 (u2 (u2 (u2 (u2 c 37 0 a) 37 1 b) 37 2 e) 37 3 m) 37 4 r))) := by
                  rw [c138 (hg := gC29 hs c)]
                  repeat (first | rw [bnd_s] | rw [tI_m] | rw [tL_m] | rw [tA_m] | rw [tV_m] | rw [fC29 hs _ (by decide)] | rw [pC29 hs _ _ (by decide)] | rw [fC30 hs _ (by decide)] | rw [pC30 hs _ _ (by decide)] | rw [fC37 hs _ (by decide)] | rw [pC37 hs _ _ (by decide)] | rw [CS_29_0 hc] | rw [CS_30_4 hc] | rw [k35] | rw [if_b0] | rw [decide_eq_true (by omega)] | rw [decide_eq_false (by omega)] | rw [inR_t (by omega)] | rw [inR_f (by omega)] | rw [cond_t] | rw [cond_f] | rw [if_pos (by omega)] | rw [if_neg (by omega)] | rw [c36_9] | rw [c36_23] | rw [c36 (hg := gC37 hs _)] | rw [if_pos (show (0 : Int) = 0 ∨ (0 : Int) = 1 from Or.inl rfl)] | rw [if_pos (show (1 : Int) = 0 ∨ (1 : Int) = 1 from Or.inr rfl)])
                have hm1 : MS (u2 (u2 (u2 (u2 (u2 c 37 0 a) 37 1 b) 37 2 e) 37 3 m) 37 4 r) := MS_a (MS_a (MS_a (MS_a (MS_a hm _ (by decide)) _ (by decide)) _ (by decide)) _ (by decide)) _ (by decide)
                have r2 : Cd 999 259 [vA 142, vI a, vI b, vI e, vI m, vI r] (s, (u2 (u2 (u2 (u2 (u2 c 37 0 a) 37 1 b) 37 2 e) 37 3 m) 37 4 r)) = some ([vI 1], (s, (u2 (u2 (u2 (u2 (u2 (u2 (u2 (u2 (u2 (u2 c 37 0 a) 37 1 b) 37 2 e) 37 3 m) 37 4 r) 143 10 a) 143 11 b) 143 12 e) 143 13 m) 143 14 r))) := by
                  generalize (u2 (u2 (u2 (u2 (u2 c 37 0 a) 37 1 b) 37 2 e) 37 3 m) 37 4 r) = c1 at hm1 ⊢
                  rw [c259 (hg := gC142 hs c1)]
                  repeat (first | rw [bnd_s] | rw [tI_m] | rw [tL_m] | rw [tA_m] | rw [tV_m] | rw [fC142 hs _ (by decide)] | rw [pC142 hs _ _ (by decide)] | rw [u2_e] | rw [u2_n (by omega)] | rw [MS_0 hm1] | rw [aC143 hs _ (by omega) (by omega)] | rw [qC143 hs _ _ (by omega) (by omega)] | rw [show (0 : Int).toNat = 0 from rfl] | rw [show (2 : Int).toNat = 2 from rfl] | rw [show (3 : Int).toNat = 3 from rfl] | rw [show (10 : Int).toNat = 10 from rfl] | rw [show (11 : Int).toNat = 11 from rfl] | rw [show (12 : Int).toNat = 12 from rfl] | rw [show (13 : Int).toNat = 13 from rfl] | rw [show (14 : Int).toNat = 14 from rfl] | rw [m172] | rw [if_b0] | rw [decide_eq_true (by omega)] | rw [decide_eq_false (by omega)] | rw [inR_t (by omega)] | rw [inR_f (by omega)] | rw [cond_t] | rw [cond_f] | rw [c259_25])
                refine ⟨_, s, s, _, (u2 (u2 (u2 (u2 (u2 (u2 (u2 (u2 (u2 (u2 c 37 0 a) 37 1 b) 37 2 e) 37 3 m) 37 4 r) 143 10 a) 143 11 b) 143 12 e) 143 13 m) 143 14 r), n, r1, r2, by omega, ?_⟩
                obtain ⟨a10, a11, a12, a13⟩ := hI.2.2.2.2.1.2.2.2.2.2
                refine Inv_set hI (fun o k g1 g2 => ?_) ?_ (fun k hk => ?_) (SeeRel_of a10 (fun k g1 g2 => ?_) (funext fun k => ?_) (funext fun k => ?_)) (BoxRel_of a11 ?_ ?_ ?_ (fun g1 g2 => ?_) (fun k g1 g2 => ?_) (funext fun k => ?_)) ?_ (RidRel_of a13 ?_ ?_ (fun k g1 g2 => ?_) (funext fun k => ?_) (funext fun k => ?_))
                case refine_13 =>
                  unfold LockRel
                  refine ⟨⟨?_, ?_, ?_, ?_, ?_⟩, ?_, ?_, ?_, ?_, ?_⟩ <;> (repeat (first | rw [u2_e] | rw [u2_n (by omega)])) <;> omega
                all_goals (repeat rw [u2_n (by omega)])
                all_goals omega
              · have r1 : Cd 999 138 [vA 29, vI a, vI b, vI e, vI m, vI r] (s, c) = some ([vI 0], (s, c)) := by
                  rw [c138 (hg := gC29 hs c)]
                  repeat (first | rw [bnd_s] | rw [tI_m] | rw [tL_m] | rw [tA_m] | rw [tV_m] | rw [fC29 hs _ (by decide)] | rw [pC29 hs _ _ (by decide)] | rw [fC30 hs _ (by decide)] | rw [pC30 hs _ _ (by decide)] | rw [fC37 hs _ (by decide)] | rw [pC37 hs _ _ (by decide)] | rw [CS_29_0 hc] | rw [CS_30_4 hc] | rw [k35] | rw [if_b0] | rw [decide_eq_true (by omega)] | rw [decide_eq_false (by omega)] | rw [inR_t (by omega)] | rw [inR_f (by omega)] | rw [cond_t] | rw [cond_f] | rw [if_pos (by omega)] | rw [if_neg (by omega)] | rw [c36_9] | rw [c36_23] | rw [c36 (hg := gC37 hs _)] | rw [if_pos (show (0 : Int) = 0 ∨ (0 : Int) = 1 from Or.inl rfl)])
                have r2 : Cd 999 259 [vA 142, vI a, vI b, vI e, vI m, vI r] (s, c) = some ([vI 0], (s, c)) := by
                  rw [c259 (hg := gC142 hs c)]
                  repeat (first | rw [bnd_s] | rw [tI_m] | rw [tL_m] | rw [tA_m] | rw [tV_m] | rw [fC142 hs _ (by decide)] | rw [pC142 hs _ _ (by decide)] | rw [MS_0 hm] | rw [MS_1 hm] | rw [MS_2 hm] | rw [MS_3 hm] | rw [MS_4 hm] | rw [MS_5 hm] | rw [MS_7 hm] | rw [MS_8 hm] | rw [MS_21 hm] | rw [MS_29 hm] | rw [MS_30 hm] | rw [MS_31 hm] | rw [MS_37 hm] | rw [MS_38 hm] | rw [MS_39 hm] | rw [MS_40 hm] | rw [u2_e] | rw [u2_n (by omega)] | rw [m172] | rw [if_b0] | rw [decide_eq_true (by omega)] | rw [decide_eq_false (by omega)] | rw [inR_t (by omega)] | rw [inR_f (by omega)] | rw [cond_t] | rw [cond_f] | rw [c259_25])
                exact ⟨_, s, s, c, c, n, r1, r2, by omega, hI⟩
            · have r1 : Cd 999 138 [vA 29, vI a, vI b, vI e, vI m, vI r] (s, c) = some ([vI 0], (s, c)) := by
                rw [c138 (hg := gC29 hs c)]
                repeat (first | rw [bnd_s] | rw [tI_m] | rw [tL_m] | rw [tA_m] | rw [tV_m] | rw [fC29 hs _ (by decide)] | rw [pC29 hs _ _ (by decide)] | rw [fC30 hs _ (by decide)] | rw [pC30 hs _ _ (by decide)] | rw [fC37 hs _ (by decide)] | rw [pC37 hs _ _ (by decide)] | rw [CS_29_0 hc] | rw [CS_30_4 hc] | rw [k35] | rw [if_b0] | rw [decide_eq_true (by omega)] | rw [decide_eq_false (by omega)] | rw [inR_t (by omega)] | rw [inR_f (by omega)] | rw [cond_t] | rw [cond_f] | rw [if_pos (by omega)] | rw [if_neg (by omega)] | rw [c36_9] | rw [c36_23] | rw [c36 (hg := gC37 hs _)] | rw [if_pos (show (0 : Int) = 0 ∨ (0 : Int) = 1 from Or.inl rfl)])
              have r2 : Cd 999 259 [vA 142, vI a, vI b, vI e, vI m, vI r] (s, c) = some ([vI 0], (s, c)) := by
                rw [c259 (hg := gC142 hs c)]
                repeat (first | rw [bnd_s] | rw [tI_m] | rw [tL_m] | rw [tA_m] | rw [tV_m] | rw [fC142 hs _ (by decide)] | rw [pC142 hs _ _ (by decide)] | rw [MS_0 hm] | rw [MS_1 hm] | rw [MS_2 hm] | rw [MS_3 hm] | rw [MS_4 hm] | rw [MS_5 hm] | rw [MS_7 hm] | rw [MS_8 hm] | rw [MS_21 hm] | rw [MS_29 hm] | rw [MS_30 hm] | rw [MS_31 hm] | rw [MS_37 hm] | rw [MS_38 hm] | rw [MS_39 hm] | rw [MS_40 hm] | rw [u2_e] | rw [u2_n (by omega)] | rw [m172] | rw [if_b0] | rw [decide_eq_true (by omega)] | rw [decide_eq_false (by omega)] | rw [inR_t (by omega)] | rw [inR_f (by omega)] | rw [cond_t] | rw [cond_f] | rw [c259_25])
              exact ⟨_, s, s, c, c, n, r1, r2, by omega, hI⟩
          · have r1 : Cd 999 138 [vA 29, vI a, vI b, vI e, vI m, vI r] (s, c) = some ([vI 0], (s, c)) := by
              rw [c138 (hg := gC29 hs c)]
              repeat (first | rw [bnd_s] | rw [tI_m] | rw [tL_m] | rw [tA_m] | rw [tV_m] | rw [fC29 hs _ (by decide)] | rw [pC29 hs _ _ (by decide)] | rw [fC30 hs _ (by decide)] | rw [pC30 hs _ _ (by decide)] | rw [fC37 hs _ (by decide)] | rw [pC37 hs _ _ (by decide)] | rw [CS_29_0 hc] | rw [CS_30_4 hc] | rw [k35] | rw [if_b0] | rw [decide_eq_true (by omega)] | rw [decide_eq_false (by omega)] | rw [inR_t (by omega)] | rw [inR_f (by omega)] | rw [cond_t] | rw [cond_f] | rw [if_pos (by omega)] | rw [if_neg (by omega)] | rw [c36_9] | rw [c36_23] | rw [c36 (hg := gC37 hs _)] | rw [if_pos (show (0 : Int) = 0 ∨ (0 : Int) = 1 from Or.inl rfl)])
            have r2 : Cd 999 259 [vA 142, vI a, vI b, vI e, vI m, vI r] (s, c) = some ([vI 0], (s, c)) := by
              rw [c259 (hg := gC142 hs c)]
              repeat (first | rw [bnd_s] | rw [tI_m] | rw [tL_m] | rw [tA_m] | rw [tV_m] | rw [fC142 hs _ (by decide)] | rw [pC142 hs _ _ (by decide)] | rw [MS_0 hm] | rw [MS_1 hm] | rw [MS_2 hm] | rw [MS_3 hm] | rw [MS_4 hm] | rw [MS_5 hm] | rw [MS_7 hm] | rw [MS_8 hm] | rw [MS_21 hm] | rw [MS_29 hm] | rw [MS_30 hm] | rw [MS_31 hm] | rw [MS_37 hm] | rw [MS_38 hm] | rw [MS_39 hm] | rw [MS_40 hm] | rw [u2_e] | rw [u2_n (by omega)] | rw [m172] | rw [if_b0] | rw [decide_eq_true (by omega)] | rw [decide_eq_false (by omega)] | rw [inR_t (by omega)] | rw [inR_f (by omega)] | rw [cond_t] | rw [cond_f] | rw [c259_25])
            exact ⟨_, s, s, c, c, n, r1, r2, by omega, hI⟩
        · have r1 : Cd 999 138 [vA 29, vI a, vI b, vI e, vI m, vI r] (s, c) = some ([vI 0], (s, c)) := by
            rw [c138 (hg := gC29 hs c)]
            repeat (first | rw [bnd_s] | rw [tI_m] | rw [tL_m] | rw [tA_m] | rw [tV_m] | rw [fC29 hs _ (by decide)] | rw [pC29 hs _ _ (by decide)] | rw [fC30 hs _ (by decide)] | rw [pC30 hs _ _ (by decide)] | rw [fC37 hs _ (by decide)] | rw [pC37 hs _ _ (by decide)] | rw [CS_29_0 hc] | rw [CS_30_4 hc] | rw [k35] | rw [if_b0] | rw [decide_eq_true (by omega)] | rw [decide_eq_false (by omega)] | rw [inR_t (by omega)] | rw [inR_f (by omega)] | rw [cond_t] | rw [cond_f] | rw [if_pos (by omega)] | rw [if_neg (by omega)] | rw [c36_9] | rw [c36_23] | rw [c36 (hg := gC37 hs _)] | rw [if_pos (show (0 : Int) = 0 ∨ (0 : Int) = 1 from Or.inl rfl)])
          have r2 : Cd 999 259 [vA 142, vI a, vI b, vI e, vI m, vI r] (s, c) = some ([vI 0], (s, c)) := by
            rw [c259 (hg := gC142 hs c)]
            repeat (first | rw [bnd_s] | rw [tI_m] | rw [tL_m] | rw [tA_m] | rw [tV_m] | rw [fC142 hs _ (by decide)] | rw [pC142 hs _ _ (by decide)] | rw [MS_0 hm] | rw [MS_1 hm] | rw [MS_2 hm] | rw [MS_3 hm] | rw [MS_4 hm] | rw [MS_5 hm] | rw [MS_7 hm] | rw [MS_8 hm] | rw [MS_21 hm] | rw [MS_29 hm] | rw [MS_30 hm] | rw [MS_31 hm] | rw [MS_37 hm] | rw [MS_38 hm] | rw [MS_39 hm] | rw [MS_40 hm] | rw [u2_e] | rw [u2_n (by omega)] | rw [m172] | rw [if_b0] | rw [decide_eq_true (by omega)] | rw [decide_eq_false (by omega)] | rw [inR_t (by omega)] | rw [inR_f (by omega)] | rw [cond_t] | rw [cond_f] | rw [c259_25])
          exact ⟨_, s, s, c, c, n, r1, r2, by omega, hI⟩
      · have r1 : Cd 999 138 [vA 29, vI a, vI b, vI e, vI m, vI r] (s, c) = some ([vI 0], (s, c)) := by
          rw [c138 (hg := gC29 hs c)]
          repeat (first | rw [bnd_s] | rw [tI_m] | rw [tL_m] | rw [tA_m] | rw [tV_m] | rw [fC29 hs _ (by decide)] | rw [pC29 hs _ _ (by decide)] | rw [fC30 hs _ (by decide)] | rw [pC30 hs _ _ (by decide)] | rw [fC37 hs _ (by decide)] | rw [pC37 hs _ _ (by decide)] | rw [CS_29_0 hc] | rw [CS_30_4 hc] | rw [k35] | rw [if_b0] | rw [decide_eq_true (by omega)] | rw [decide_eq_false (by omega)] | rw [inR_t (by omega)] | rw [inR_f (by omega)] | rw [cond_t] | rw [cond_f] | rw [if_pos (by omega)] | rw [if_neg (by omega)] | rw [c36_9] | rw [c36_23] | rw [c36 (hg := gC37 hs _)] | rw [if_pos (show (0 : Int) = 0 ∨ (0 : Int) = 1 from Or.inl rfl)])
        have r2 : Cd 999 259 [vA 142, vI a, vI b, vI e, vI m, vI r] (s, c) = some ([vI 0], (s, c)) := by
          rw [c259 (hg := gC142 hs c)]
          repeat (first | rw [bnd_s] | rw [tI_m] | rw [tL_m] | rw [tA_m] | rw [tV_m] | rw [fC142 hs _ (by decide)] | rw [pC142 hs _ _ (by decide)] | rw [MS_0 hm] | rw [MS_1 hm] | rw [MS_2 hm] | rw [MS_3 hm] | rw [MS_4 hm] | rw [MS_5 hm] | rw [MS_7 hm] | rw [MS_8 hm] | rw [MS_21 hm] | rw [MS_29 hm] | rw [MS_30 hm] | rw [MS_31 hm] | rw [MS_37 hm] | rw [MS_38 hm] | rw [MS_39 hm] | rw [MS_40 hm] | rw [u2_e] | rw [u2_n (by omega)] | rw [m172] | rw [if_b0] | rw [decide_eq_true (by omega)] | rw [decide_eq_false (by omega)] | rw [inR_t (by omega)] | rw [inR_f (by omega)] | rw [cond_t] | rw [cond_f] | rw [c259_25])
        exact ⟨_, s, s, c, c, n, r1, r2, by omega, hI⟩
    · have r1 : Cd 999 138 [vA 29, vI a, vI b, vI e, vI m, vI r] (s, c) = some ([vI 0], (s, c)) := by
        rw [c138 (hg := gC29 hs c)]
        repeat (first | rw [bnd_s] | rw [tI_m] | rw [tL_m] | rw [tA_m] | rw [tV_m] | rw [fC29 hs _ (by decide)] | rw [pC29 hs _ _ (by decide)] | rw [fC30 hs _ (by decide)] | rw [pC30 hs _ _ (by decide)] | rw [fC37 hs _ (by decide)] | rw [pC37 hs _ _ (by decide)] | rw [CS_29_0 hc] | rw [CS_30_4 hc] | rw [k35] | rw [if_b0] | rw [decide_eq_true (by omega)] | rw [decide_eq_false (by omega)] | rw [inR_t (by omega)] | rw [inR_f (by omega)] | rw [cond_t] | rw [cond_f] | rw [if_pos (by omega)] | rw [if_neg (by omega)] | rw [c36_9] | rw [c36_23] | rw [c36 (hg := gC37 hs _)] | rw [if_pos (show (0 : Int) = 0 ∨ (0 : Int) = 1 from Or.inl rfl)])
      have r2 : Cd 999 259 [vA 142, vI a, vI b, vI e, vI m, vI r] (s, c) = some ([vI 0], (s, c)) := by
        rw [c259 (hg := gC142 hs c)]
        repeat (first | rw [bnd_s] | rw [tI_m] | rw [tL_m] | rw [tA_m] | rw [tV_m] | rw [fC142 hs _ (by decide)] | rw [pC142 hs _ _ (by decide)] | rw [MS_0 hm] | rw [MS_1 hm] | rw [MS_2 hm] | rw [MS_3 hm] | rw [MS_4 hm] | rw [MS_5 hm] | rw [MS_7 hm] | rw [MS_8 hm] | rw [MS_21 hm] | rw [MS_29 hm] | rw [MS_30 hm] | rw [MS_31 hm] | rw [MS_37 hm] | rw [MS_38 hm] | rw [MS_39 hm] | rw [MS_40 hm] | rw [u2_e] | rw [u2_n (by omega)] | rw [m172] | rw [if_b0] | rw [decide_eq_true (by omega)] | rw [decide_eq_false (by omega)] | rw [inR_t (by omega)] | rw [inR_f (by omega)] | rw [cond_t] | rw [cond_f] | rw [c259_25])
      exact ⟨_, s, s, c, c, n, r1, r2, by omega, hI⟩
  · have r1 : Cd 999 138 [vA 29, vI a, vI b, vI e, vI m, vI r] (s, c) = some ([vI 0], (s, c)) := by
      rw [c138 (hg := gC29 hs c)]
      repeat (first | rw [bnd_s] | rw [tI_m] | rw [tL_m] | rw [tA_m] | rw [tV_m] | rw [fC29 hs _ (by decide)] | rw [pC29 hs _ _ (by decide)] | rw [fC30 hs _ (by decide)] | rw [pC30 hs _ _ (by decide)] | rw [fC37 hs _ (by decide)] | rw [pC37 hs _ _ (by decide)] | rw [CS_29_0 hc] | rw [CS_30_4 hc] | rw [k35] | rw [if_b0] | rw [decide_eq_true (by omega)] | rw [decide_eq_false (by omega)] | rw [inR_t (by omega)] | rw [inR_f (by omega)] | rw [cond_t] | rw [cond_f] | rw [if_pos (by omega)] | rw [if_neg (by omega)] | rw [c36_9] | rw [c36_23] | rw [c36 (hg := gC37 hs _)] | rw [if_pos (show (0 : Int) = 0 ∨ (0 : Int) = 1 from Or.inl rfl)])
    have r2 : Cd 999 259 [vA 142, vI a, vI b, vI e, vI m, vI r] (s, c) = some ([vI 0], (s, c)) := by
      rw [c259 (hg := gC142 hs c)]
      repeat (first | rw [bnd_s] | rw [tI_m] | rw [tL_m] | rw [tA_m] | rw [tV_m] | rw [fC142 hs _ (by decide)] | rw [pC142 hs _ _ (by decide)] | rw [MS_0 hm] | rw [MS_1 hm] | rw [MS_2 hm] | rw [MS_3 hm] | rw [MS_4 hm] | rw [MS_5 hm] | rw [MS_7 hm] | rw [MS_8 hm] | rw [MS_21 hm] | rw [MS_29 hm] | rw [MS_30 hm] | rw [MS_31 hm] | rw [MS_37 hm] | rw [MS_38 hm] | rw [MS_39 hm] | rw [MS_40 hm] | rw [u2_e] | rw [u2_n (by omega)] | rw [m172] | rw [if_b0] | rw [decide_eq_true (by omega)] | rw [decide_eq_false (by omega)] | rw [inR_t (by omega)] | rw [inR_f (by omega)] | rw [cond_t] | rw [cond_f] | rw [c259_25])
    exact ⟨_, s, s, c, c, n, r1, r2, by omega, hI⟩
theorem op_letters (v : Int) : Op 143 268 [vI v] := by
  intro s c n hI
  have hs := hI.1.l
  have hc := hI.2.2.2.1
  have hm := hI.2.2.1
  by_cases h1 : 1 ≤ v ∧ v ≤ 3
  · have r1 : Cd 999 143 [vA 29, vI v] (s, c) = some ([vI 1], (s, (u2 (u2 c 38 1 v) 38 2 0))) := by
      rw [c143 (hg := gC29 hs c)]
      repeat (first | rw [bnd_s] | rw [tI_m] | rw [tL_m] | rw [tA_m] | rw [tV_m] | rw [fC29 hs _ (by decide)] | rw [pC29 hs _ _ (by decide)] | rw [fC30 hs _ (by decide)] | rw [pC30 hs _ _ (by decide)] | rw [fC38 hs _ (by decide)] | rw [pC38 hs _ _ (by decide)] | rw [CS_29_0 hc] | rw [CS_30_5 hc] | rw [if_pos (by omega)] | rw [if_neg (by omega)] | rw [c91 (hg := gC38 hs _)])
    have hm1 : MS (u2 (u2 c 38 1 v) 38 2 0) := MS_a (MS_a hm _ (by decide)) _ (by decide)
    have r2 : Cd 999 268 [vA 142, vI v] (s, (u2 (u2 c 38 1 v) 38 2 0)) = some ([vI 1], (s, (u2 (u2 (u2 (u2 c 38 1 v) 38 2 0) 143 3 v) 143 2 0))) := by
      generalize (u2 (u2 c 38 1 v) 38 2 0) = c1 at hm1 ⊢
      rw [c268 (hg := gC142 hs c1)]
      repeat (first | rw [bnd_s] | rw [tI_m] | rw [tL_m] | rw [tA_m] | rw [tV_m] | rw [fC142 hs _ (by decide)] | rw [pC142 hs _ _ (by decide)] | rw [u2_e] | rw [u2_n (by omega)] | rw [MS_0 hm1] | rw [aC143 hs _ (by omega) (by omega)] | rw [qC143 hs _ _ (by omega) (by omega)] | rw [show (0 : Int).toNat = 0 from rfl] | rw [show (2 : Int).toNat = 2 from rfl] | rw [show (3 : Int).toNat = 3 from rfl] | rw [show (10 : Int).toNat = 10 from rfl] | rw [show (11 : Int).toNat = 11 from rfl] | rw [show (12 : Int).toNat = 12 from rfl] | rw [show (13 : Int).toNat = 13 from rfl] | rw [show (14 : Int).toNat = 14 from rfl] | rw [m172] | rw [if_b0] | rw [decide_eq_true (by omega)] | rw [decide_eq_false (by omega)] | rw [inR_t (by omega)] | rw [inR_f (by omega)] | rw [cond_t] | rw [cond_f])
    refine ⟨_, s, s, _, (u2 (u2 (u2 (u2 c 38 1 v) 38 2 0) 143 3 v) 143 2 0), n, r1, r2, by omega, ?_⟩
    obtain ⟨a10, a11, a12, a13⟩ := hI.2.2.2.2.1.2.2.2.2.2
    refine Inv_set hI (fun o k g1 g2 => ?_) ?_ (fun k hk => ?_) (SeeRel_of a10 (fun k g1 g2 => ?_) (funext fun k => ?_) (funext fun k => ?_)) (BoxRel_of a11 ?_ ?_ ?_ (fun g1 g2 => ?_) (fun k g1 g2 => ?_) (funext fun k => ?_)) (LockRel_of a12 (fun k g1 g2 => ?_) (funext fun k => ?_)) ?_
    case refine_15 =>
      unfold RidRel
      refine ⟨⟨?_, ?_⟩, ?_, ?_, fun i hi hi2 => ?_⟩
      case refine_5 => (repeat (first | rw [u2_e] at hi2 | rw [u2_n (by omega)] at hi2)); omega
      all_goals (repeat (first | rw [u2_e] | rw [u2_n (by omega)]))
      all_goals omega
    all_goals (repeat rw [u2_n (by omega)])
    all_goals omega
  · have r1 : Cd 999 143 [vA 29, vI v] (s, c) = some ([vI 0], (s, c)) := by
      rw [c143 (hg := gC29 hs c)]
      by_cases g : v < 1
      · rw [if_pos g, c143_6]
      · rw [if_neg g, if_pos (by omega), c143_6]
    have r2 : Cd 999 268 [vA 142, vI v] (s, c) = some ([vI 0], (s, c)) := by
      rw [c268 (hg := gC142 hs c)]
      repeat (first | rw [bnd_s] | rw [tI_m] | rw [tL_m] | rw [tA_m] | rw [tV_m] | rw [fC142 hs _ (by decide)] | rw [pC142 hs _ _ (by decide)] | rw [MS_0 hm] | rw [MS_1 hm] | rw [MS_2 hm] | rw [MS_3 hm] | rw [MS_4 hm] | rw [MS_5 hm] | rw [MS_7 hm] | rw [MS_8 hm] | rw [MS_21 hm] | rw [MS_29 hm] | rw [MS_30 hm] | rw [MS_31 hm] | rw [MS_37 hm] | rw [MS_38 hm] | rw [MS_39 hm] | rw [MS_40 hm] | rw [m172] | rw [if_b0] | rw [decide_eq_true (by omega)] | rw [decide_eq_false (by omega)] | rw [inR_t (by omega)] | rw [inR_f (by omega)] | rw [cond_t] | rw [cond_f])
    exact ⟨_, s, s, c, c, n, r1, r2, by omega, hI⟩
