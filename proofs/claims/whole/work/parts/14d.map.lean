/-! new maps and borders -/
theorem SeeRel_of {f f' : Nat → Int} {c c' : Nat → Nat → Int} {b : Nat} (h : SeeRel f c b) (ef : ∀ k, 150 ≤ k → k < 290 → f' k = f k) (e4 : c' (b + 4) = c (b + 4)) (e5 : c' (b + 5) = c (b + 5)) : SeeRel f' c' b := by
  intro n l h0 h1 h2 h3
  rw [ef _ (by omega) (by omega), e4, e5]
  exact h n l h0 h1 h2 h3
theorem BoxRel_of {f f' : Nat → Int} {c c' : Nat → Nat → Int} {b : Nat} (h : BoxRel f c b) (h4 : f' 4 = f 4) (h5 : f' 5 = f 5) (h0 : f 0 ≤ f' 0) (hl : 0 ≤ f 5 → f 5 < f 0 → f' (20 + f 5).toNat = f (20 + f 5).toNat) (ef : ∀ k, 300 ≤ k → k < 317 → f' k = f k) (e6 : c' (b + 6) = c (b + 6)) : BoxRel f' c' b := by
  unfold BoxRel
  rw [h4, h5, e6]
  rcases h with h | ⟨g1, g2, g3, g4, g5, g6⟩
  · exact Or.inl h
  · refine Or.inr ⟨g1, ⟨g2.1, by omega⟩, g3, g4, g5, fun l hl1 hl2 => ?_⟩
    rw [ef (310 + l).toNat (by omega) (by omega), ef (300 + l).toNat (by omega) (by omega), hl g2.1 g2.2]
    exact g6 l hl1 hl2
theorem LockRel_of {f f' : Nat → Int} {c c' : Nat → Nat → Int} {b : Nat} (h : LockRel f c b) (ef : ∀ k, 10 ≤ k → k < 15 → f' k = f k) (e7 : c' (b + 7) = c (b + 7)) : LockRel f' c' b := by
  unfold LockRel at h ⊢
  rw [ef 10 (by omega) (by omega), ef 11 (by omega) (by omega), ef 12 (by omega) (by omega), ef 13 (by omega) (by omega), ef 14 (by omega) (by omega), e7]; exact h
theorem RidRel_of {f f' : Nat → Int} {c c' : Nat → Nat → Int} {b : Nat} (h : RidRel f c b) (h2 : f' 2 = f 2) (h3 : f' 3 = f 3) (ef : ∀ k, 320 ≤ k → k < 329 → f' k = f k) (e8 : c' (b + 8) = c (b + 8)) (e9 : c' (b + 9) = c (b + 9)) : RidRel f' c' b := by
  unfold RidRel at h ⊢
  rw [h2, h3, e8, e9]
  refine ⟨h.1, h.2.1, h.2.2.1, fun i hi hi2 => ?_⟩
  have := h.2.2.1.2
  rw [ef _ (by omega) (by omega)]
  exact h.2.2.2 i hi hi2
theorem isA_f {c c' : Nat → Nat → Int} {m : Int} (hk : MapOK c m) (e : ∀ k, (k = (20 + m).toNat ∨ k = (24 + m).toNat ∨ ((30 + 30 * m).toNat ≤ k ∧ k < (60 + 30 * m).toNat)) → c' 143 k = c 143 k) : isA c' m = isA c m := by
  obtain ⟨⟨k0, k1⟩, ⟨k2, k3⟩, ⟨k4, k5⟩, k6⟩ := hk
  funext r
  unfold isA
  rw [e (20 + m).toNat (Or.inl rfl), e (24 + m).toNat (Or.inr (Or.inl rfl))]
  refine allU_cg _ _ (fun b hb hb2 => ?_)
  rw [e _ (Or.inr (Or.inr ⟨by omega, by omega⟩)), e _ (Or.inr (Or.inr ⟨by omega, by omega⟩))]
theorem ansL_f {c c' : Nat → Nat → Int} {m : Int} (hk : MapOK c m) (e : ∀ k, (k = (20 + m).toNat ∨ k = (24 + m).toNat ∨ ((30 + 30 * m).toNat ≤ k ∧ k < (60 + 30 * m).toNat)) → c' 143 k = c 143 k) : ansL c' m = ansL c m := by
  unfold ansL; rw [isA_f hk e, e (20 + m).toNat (Or.inl rfl)]
theorem ShRel_of {tx : Nat → Int} {c c' : Nat → Nat → Int} {q k : Nat} (h : ShRel tx c q k) (e0 : c' q = c q) (e1 : c' (q + 1) = c (q + 1)) : ShRel tx c' q k := by
  unfold ShRel at h ⊢; rw [e0, e1]; exact h
theorem bt_0 (k : Int) : bt 0 k = false := by unfold bt; simp
theorem k117 (d : Nat) {s : List (Nat × Nat)} {c : Nat → Nat → Int} {n : Nat} (hI : Inv s c n) (l : Int) : ((2 ≤ l ∧ l ≤ 7) ∧ c 143 0 ≠ 4 → ∃ c', Cd (d + 2) 117 [vA 29, vI l] (s, c) = some ([vI (c 143 0)], (s, c')) ∧ (∀ o k, o ≠ 40 + 5 * (c 143 0).toNat + 3 → ¬ (o = 40 + 5 * (c 143 0).toNat ∧ (k = 4 ∨ k = 5 ∨ k = 9)) → ¬ (o = 30 ∧ k = 6) → c' o k = c o k) ∧ (c' (40 + 5 * (c 143 0).toNat) 4 = l ∧ c' (40 + 5 * (c 143 0).toNat) 5 = 0 ∧ c' (40 + 5 * (c 143 0).toNat) 9 = 0 ∧ c' 30 6 = c 143 0 + 1) ∧ ∀ i : Int, 0 ≤ i → i < 7 → c' (40 + 5 * (c 143 0).toNat + 3) i.toNat = 0) ∧ (¬ ((2 ≤ l ∧ l ≤ 7) ∧ c 143 0 ≠ 4) → Cd (d + 2) 117 [vA 29, vI l] (s, c) = some ([vI (-1)], (s, c))) := by
  have hs := hI.1.l
  have hc := hI.2.2.2.1
  have hn := hI.nM
  have n1 := hn.1
  have n2 := hn.2
  have e6 := hI.2.2.2.2.1.1.1
  rw [c117 (hg := gC29 hs c)]
  constructor
  · intro h
    repeat (first | rw [bnd_s] | rw [tI_m] | rw [tL_m] | rw [tA_m] | rw [tV_m] | rw [fC29 hs _ (by decide)] | rw [pC29 hs _ _ (by decide)] | rw [fC30 hs _ (by decide)] | rw [pC30 hs _ _ (by decide)] | rw [CS_29_0 hc] | rw [CS_30_0 hc] | rw [e6] | rw [rC31 hs _ (by omega) (by omega)] | rw [CS_31 hc (by omega)] | rw [if_neg (show ¬ l < 2 by omega)] | rw [if_neg (show ¬ 7 < l by omega)] | rw [if_pos (show c 143 0 < 4 by omega)])
    obtain ⟨c', g1, g2, g3, g4⟩ := k7 (d + 0) (chN hs hc (m := (c 143 0).toNat) (by omega)) l
    have f29 : c' 29 0 = 30 := (g2 29 0 (by omega) (by omega)).trans (CS_29_0 hc)
    have f6 : c' 30 6 = c 143 0 := (g2 30 6 (by omega) (by omega)).trans e6
    rw [g1]
    repeat (first | rw [bnd_s] | rw [tI_m] | rw [tL_m] | rw [tA_m] | rw [tV_m] | rw [fC29 hs _ (by decide)] | rw [pC29 hs _ _ (by decide)] | rw [fC30 hs _ (by decide)] | rw [pC30 hs _ _ (by decide)] | rw [u2_e] | rw [u2_n (by omega)] | rw [f29] | rw [f6] | rw [w32_id (z := c 143 0 + 1) (by omega) (by omega)] | rw [w32_id (by omega) (by omega)])
    rw [show c 143 0 + 1 - 1 = c 143 0 by omega]
    refine ⟨_, rfl, fun o k h1 h2 h3 => ?_, ⟨?_, ?_, ?_, ?_⟩, fun i h1 h2 => ?_⟩
    · rw [u2_n (by omega)]; exact g2 o k h1 h2
    · rw [u2_n (by omega)]; exact g3.1
    · rw [u2_n (by omega)]; exact g3.2.1
    · rw [u2_n (by omega)]; exact g3.2.2
    · rw [u2_e]
    · rw [u2_n (by omega)]; exact g4 i h1 h2
  · intro h
    by_cases h1 : l < 2
    · rw [if_pos h1, c117_11]
    · rw [if_neg h1]
      by_cases h2 : 7 < l
      · rw [if_pos h2, c117_11]
      · rw [if_neg h2, fC29 hs _ (by decide), bnd_s, CS_29_0 hc, fC30 hs _ (by decide), bnd_s, e6, if_neg (by omega), c117_11]
theorem isRf_n {o k : Nat} (h : isRf o k = true) : (k < 4 ∨ o < 40 ∨ (59 < o ∧ o < 86) ∨ 105 < o) ∧ (k < 6 ∨ (o ≠ 30 ∧ o ≠ 76)) ∧ o < 141 ∧ (o ≠ 41 ∧ o ≠ 42 ∧ o ≠ 43 ∧ o ≠ 44 ∧ o ≠ 46 ∧ o ≠ 47 ∧ o ≠ 48 ∧ o ≠ 49 ∧ o ≠ 51 ∧ o ≠ 52 ∧ o ≠ 53 ∧ o ≠ 54 ∧ o ≠ 56 ∧ o ≠ 57 ∧ o ≠ 58 ∧ o ≠ 59) := by
  have hk : (cRefs.all fun q => decide ((q.2.1 < 4 ∨ q.1 < 40 ∨ (59 < q.1 ∧ q.1 < 86) ∨ 105 < q.1) ∧ (q.2.1 < 6 ∨ (q.1 ≠ 30 ∧ q.1 ≠ 76)) ∧ q.1 < 141 ∧ (q.1 ≠ 41 ∧ q.1 ≠ 42 ∧ q.1 ≠ 43 ∧ q.1 ≠ 44 ∧ q.1 ≠ 46 ∧ q.1 ≠ 47 ∧ q.1 ≠ 48 ∧ q.1 ≠ 49 ∧ q.1 ≠ 51 ∧ q.1 ≠ 52 ∧ q.1 ≠ 53 ∧ q.1 ≠ 54 ∧ q.1 ≠ 56 ∧ q.1 ≠ 57 ∧ q.1 ≠ 58 ∧ q.1 ≠ 59))) = true := by decide +kernel
  obtain ⟨q, hq, h2⟩ := List.any_eq_true.mp h
  simp only [Bool.and_eq_true, beq_iff_eq] at h2
  obtain ⟨rfl, rfl⟩ := h2
  exact of_decide_eq_true (List.all_eq_true.mp hk q hq)
theorem op_map (l : Int) : Op 117 175 [vI l] := by
  intro s c n hI
  have hs := hI.1.l
  have hc := hI.2.2.2.1
  have hn := hI.nM
  have n1 := hn.1
  have n2 := hn.2
  obtain ⟨g, g'⟩ := k117 997 hI l
  by_cases h : (2 ≤ l ∧ l ≤ 7) ∧ c 143 0 ≠ 4
  · obtain ⟨c1, r1, fr, ⟨q4, q5, q9, q6⟩, qn⟩ := g h
    have e143 : c1 143 = c 143 := funext fun k => fr _ _ (by omega) (by omega) (by omega)
    have hm1 : MS c1 := MS_of hI.2.2.1 (fun q _ => fr _ _ (by omega) (by omega) (by omega)) (funext fun k => fr _ _ (by omega) (by omega) (by omega)) (funext fun k => fr _ _ (by omega) (by omega) (by omega))
    have r2 := m175 997 hs hm1 (show nM c1 by unfold nM; rw [e143]; exact hn) l
    rw [e143, if_pos h] at r2
    obtain ⟨i1, i2, i3, i4, i5, i6, i7, i8, i9, i10⟩ := hI
    refine ⟨_, s, s, c1, _, n, r1, r2, by omega, ?_⟩
    generalize hC : (c 143 0) = C at *
    have f2 : ∀ o k, o ≠ 143 → (u2 (u2 c1 143 (20 + C).toNat l) 143 0 (C + 1)) o k = c1 o k := fun o k ho => by rw [u2_n (by omega), u2_n (by omega)]
    have f0 : (u2 (u2 c1 143 (20 + C).toNat l) 143 0 (C + 1)) 143 0 = C + 1 := u2_e _ _ _ _
    have fL : (u2 (u2 c1 143 (20 + C).toNat l) 143 0 (C + 1)) 143 (20 + C).toNat = l := by rw [u2_n (by omega), u2_e]
    have fo : ∀ k, k ≠ 0 → k ≠ (20 + C).toNat → (u2 (u2 c1 143 (20 + C).toNat l) 143 0 (C + 1)) 143 k = c 143 k := fun k h1 h2 => by rw [u2_n (by omega), u2_n (by omega), e143]
    generalize (u2 (u2 c1 143 (20 + C).toNat l) 143 0 (C + 1)) = c2 at *
    have fr2 : ∀ o k, o ≠ 143 → o ≠ 40 + 5 * C.toNat + 3 → ¬ (o = 40 + 5 * C.toNat ∧ (k = 4 ∨ k = 5 ∨ k = 9)) → ¬ (o = 30 ∧ k = 6) → c2 o k = c o k := fun o k h0 h1 h2 h3 => (f2 o k h0).trans (fr o k h1 h2 h3)
    have frc : ∀ o, o ≠ 143 → o ≠ 40 + 5 * C.toNat + 3 → o ≠ 40 + 5 * C.toNat → o ≠ 30 → c2 o = c o := fun o h0 h1 h2 h3 => funext fun k => fr2 o k h0 h1 (by omega) (by omega)
    obtain ⟨⟨a1, a2, a3⟩, a4, a5, a6, a9, a10, a11, a12, a13⟩ := i5
    have hz : c 143 (24 + C).toNat = 0 := by
      have := a5 C.toNat (by omega) (by omega)
      rwa [Int.toNat_of_nonneg n1] at this
    have hold : ∀ m : Nat, (m : Int) < C → MapRel (c2 143) c2 (40 + 5 * m) m := fun m hm => by
      refine MapRel_f (f := c 143) (MapRel_of (a4 m (by omega)) ⟨fr2 _ _ (by omega) (by omega) (by omega) (by omega), fr2 _ _ (by omega) (by omega) (by omega) (by omega)⟩ (frc _ (by omega) (by omega) (by omega) (by omega)) (frc _ (by omega) (by omega) (by omega) (by omega)) (frc _ (by omega) (by omega) (by omega) (by omega))) (by omega) (by omega) (fun k hk => fo k (by omega) (by omega))
    have hmok : ∀ m : Nat, (m : Int) < C → MapOK c m := fun m hm => (a4 m (by omega)).ok (by omega) (by omega)
    refine ⟨i1, Xt_of i2 (fun o k ho => fr2 o k (by omega) (by omega) (by omega) (by omega)), MS_of i3 (fun q _ => fr2 _ _ (by omega) (by omega) (by omega) (by omega)) (frc _ (by omega) (by omega) (by omega) (by omega)) (frc _ (by omega) (by omega) (by omega) (by omega)), CS_k i4 (fun o k hk => ?_) (frc _ (by omega) (by omega) (by omega) (by omega)), ⟨⟨?_, ?_, ?_⟩, fun m hm => ?_, fun m hm hm2 => ?_, ?_, fun k hk => ?_, ?_, ?_, ?_, ?_⟩, ?_, ?_, RefI_of i8 (fun m hm => ⟨fr2 _ _ (by omega) (by omega) (by omega) (by omega), fr2 _ _ (by omega) (by omega) (by omega) (by omega)⟩), fun m hm hm2 => ?_, ?_⟩
    · have := isRf_n hk
      exact fr2 o k (by omega) (by omega) (by omega) (by omega)
    · rw [f2 _ _ (by omega), q6, f0]
    · rw [f0]; omega
    · rw [f0]; omega
    · rw [f0] at hm
      by_cases hmC : (m : Int) < C
      · exact hold m hmC
      · have em : (m : Int) = C := by omega
        have em2 : m = C.toNat := by omega
        rw [em]
        have hB : ∀ x y, isBf (c2 143) C x y = false := fun x y => by
          unfold isBf
          rw [fo _ (by omega) (by omega), hz]; rfl
        subst em2
        refine ⟨⟨by rw [f2 _ _ (by omega), q4, fL], by rw [f2 _ _ (by omega), q5, fo _ (by omega) (by omega), hz]⟩, by rw [fL]; exact h.1, by rw [fo _ (by omega) (by omega), hz]; omega, fun b hb hb2 => ?_, fun l' hl hl2 => ?_⟩
        · rw [fo _ (by omega) (by omega), hz] at hb2; omega
        · have : c2 (30 + 10 + 5 * C.toNat + 3) l'.toNat = 0 := by
            rw [show 30 + 10 + 5 * C.toNat + 3 = 40 + 5 * C.toNat + 3 by omega, f2 _ _ (by omega)]; exact qn l' hl hl2
          rw [this]
          exact ⟨by omega, fun o _ _ => by rw [hB, bt_0]⟩
    · rw [f0] at hm2
      rw [fo _ (by omega) (by omega)]
      exact a5 m hm (by omega)
    · rw [fr2 30 7 (by omega) (by omega) (by omega) (by omega), fo 1 (by omega) (by omega)]; exact a6
    · rw [fo 1 (by omega) (by omega)] at hk
      have := a6.2.2
      rw [frc 145 (by omega) (by omega) (by omega) (by omega)]
      exact ShRel_of (a9 k hk) (frc _ (by omega) (by omega) (by omega) (by omega)) (frc _ (by omega) (by omega) (by omega) (by omega))
    · exact SeeRel_of a10 (fun k h1 h2 => fo k (by omega) (by omega)) (frc _ (by omega) (by omega) (by omega) (by omega)) (frc _ (by omega) (by omega) (by omega) (by omega))
    · exact BoxRel_of a11 (fo 4 (by omega) (by omega)) (fo 5 (by omega) (by omega)) (by rw [f0]; omega) (fun h1 h2 => fo _ (by omega) (by omega)) (fun k h1 h2 => fo k (by omega) (by omega)) (frc _ (by omega) (by omega) (by omega) (by omega))
    · exact LockRel_of a12 (fun k h1 h2 => fo k (by omega) (by omega)) (frc _ (by omega) (by omega) (by omega) (by omega))
    · exact RidRel_of a13 (fo 2 (by omega) (by omega)) (fo 3 (by omega) (by omega)) (fun k h1 h2 => fo k (by omega) (by omega)) (frc _ (by omega) (by omega) (by omega) (by omega)) (frc _ (by omega) (by omega) (by omega) (by omega))
    · rw [frc 144 (by omega) (by omega) (by omega) (by omega), frc 145 (by omega) (by omega) (by omega) (by omega)]
      exact StRel_of i6 (fun o k h1 h2 _ _ _ _ _ => fr2 o k (by omega) (by omega) (by omega) (by omega))
    · rw [frc 144 (by omega) (by omega) (by omega) (by omega), fo 1 (by omega) (by omega)]; exact i7
    · by_cases hmC : (m : Int) < C
      · rw [fo _ (by omega) (by omega), ansL_f (hmok m hmC) (fun k hk => fo k (by omega) (by omega)), fr2 _ _ (by omega) (by omega) (by omega) (by omega)]
        rcases i9 m hm (by omega) with g | g
        · exact Or.inl g
        · exact Or.inr (AnsC_of g ⟨[], by simp⟩ (fun k => fr2 _ _ (by omega) (by omega) (by omega) (by omega)) (fun r hr _ => ⟨frc _ (by omega) (by omega) (by omega) (by omega), frc _ (by omega) (by omega) (by omega) (by omega)⟩))
      · rw [f0] at hm2
        have em2 : m = C.toNat := by omega
        subst em2
        rw [f2 _ _ (by omega)]; exact Or.inl q9
    · unfold TapeRel at i10 ⊢
      rw [frc 142 (by omega) (by omega) (by omega) (by omega), frc 150 (by omega) (by omega) (by omega) (by omega), frc 122 (by omega) (by omega) (by omega) (by omega), frc 123 (by omega) (by omega) (by omega) (by omega)]
      exact i10
  · have r2 := m175 997 hs hI.2.2.1 hn l
    rw [if_neg h] at r2
    exact ⟨_, s, s, c, c, n, g' h, r2, by omega, hI⟩
