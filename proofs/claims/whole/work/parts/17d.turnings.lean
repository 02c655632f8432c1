/-! turnings: the class -/
section
variable {s : List (Nat × Nat)}
/-- what the search for turnings may change -/
def FT (q l : Nat) (c c' : Nat → Nat → Int) : Prop := ∀ o i, ¬ (o = q + 4 ∧ l ≤ i) → c' o i = c o i
theorem FT.tr {q l : Nat} {a b c : Nat → Nat → Int} (h : FT q l a b) (g : FT q l b c) : FT q l a c := fun o i w => (g o i w).trans (h o i w)
theorem FT.mono {q l l' : Nat} {a b : Nat → Nat → Int} (h : FT q l a b) (w : l' ≤ l) : FT q l' a b := fun o i x => h o i (fun y => x ⟨y.1, by omega⟩)
/-- two charts and their maps, lands and borders alike -/
def TwoC (s : List (Nat × Nat)) (c : Nat → Nat → Int) (q q' : Nat) (m m' : Int) (N : Nat) : Prop := (CH s c q ∧ CH s c q') ∧ (MapRel (c 143) c q m ∧ MapRel (c 143) c q' m') ∧ (c 143 (20 + m).toNat = (N : Int) ∧ c 143 (20 + m').toNat = (N : Int)) ∧ (2 ≤ N ∧ N ≤ 7) ∧ (q + 4 < 122 ∧ q' + 4 < 122) ∧ (q' = q ∨ q + 5 ≤ q' ∨ q' + 5 ≤ q)
theorem TwoC.ft {c c' : Nat → Nat → Int} {q q' : Nat} {m m' : Int} {N l : Nat} (h : TwoC s c q q' m m' N) (f : FT q l c c') : TwoC s c' q q' m m' N ∧ c' 143 = c 143 := by
  obtain ⟨⟨h1, h2⟩, ⟨h3, h4⟩, h5, h6, h7, h8⟩ := h
  have e3 : c' 143 = c 143 := funext fun i => f _ _ (by omega)
  refine ⟨⟨⟨CH_of h1 (fun k _ => f _ _ (by omega)), CH_of h2 (fun k _ => f _ _ (by omega))⟩, ⟨?_, ?_⟩, ?_, h6, h7, h8⟩, e3⟩
  · rw [e3]; exact MapRel_of h3 ⟨f _ _ (by omega), f _ _ (by omega)⟩ (funext fun i => f _ _ (by omega)) (funext fun i => f _ _ (by omega)) (funext fun i => f _ _ (by omega))
  · rw [e3]; exact MapRel_of h4 ⟨f _ _ (by omega), f _ _ (by omega)⟩ (funext fun i => f _ _ (by omega)) (funext fun i => f _ _ (by omega)) (funext fun i => f _ _ (by omega))
  · rw [e3]; exact h5
theorem k22_2 (d : Nat) {c : Nat → Nat → Int} {q q' : Nat} {m m' : Int} {N : Nat} (hT : TwoC s c q q' m m' N) {p : List Int} (hp : ∀ j, j < p.length → c (q + 4) j = p.getD j 0 ∧ 0 ≤ p.getD j 0 ∧ p.getD j 0 < N) (pl : p.length < N) {x : Int} (x0 : 0 ≤ x) (x1 : x < N) : ∀ (n : Nat) (e : Int), 0 ≤ e → e + n = p.length → Rr (Cd (d + 1)) 22 2 [some (vA (q : Int)), some (vA (q' : Int)), some (vI (p.length : Int)), some (vI x), some (vI e)] [] (s, c) = some ([vI (b2i (allU (fun e => isB c m (p.length : Int) e == isB c m' x (p.getD e.toNat 0)) n e))], (s, c))
  | 0, e, h0, h => by rw [c22_2, if_neg (by omega)]; rfl
  | n + 1, e, h0, h => by
    obtain ⟨⟨h1, h2⟩, ⟨h3, h4⟩, h5, h6, h7, h8⟩ := id hT
    have ih := k22_2 d hT hp pl x0 x1 n (e + 1) (by omega) (by omega)
    have pe := hp e.toNat (by omega)
    have b1 := h3.2.2.2.2 (p.length : Int) (by omega) (by omega)
    have b2 := h4.2.2.2.2 x x0 (by omega)
    have t1 : ((p.length : Nat) : Int).toNat = p.length := Int.toNat_natCast _
    rw [t1] at b1
    have i1 := b1.2 e h0 (by omega)
    have i2 := b2.2 (p.getD e.toNat 0) pe.2.1 (by omega)
    have f2 := h1.2.2.2.1
    have f2' := h2.2.2.2.1
    have f3 := h1.2.2.2.2
    have q1 := k169 d (s, c) (x := c (q + 3) p.length) (k := e) b1.1.1 (by omega) h0 (by omega)
    have q2 := k169 d (s, c) (x := c (q' + 3) x.toNat) (k := p.getD e.toNat 0) b2.1.1 (by omega) pe.2.1 (by omega)
    rw [i1, isBf_c] at q1
    rw [i2, isBf_c] at q2
    have pe1 := pe.1
    simp only [allU]
    rw [c22_2, if_pos (by omega)]
    repeat (first | rw [bnd_s] | rw [tI_m] | rw [tL_m] | rw [tA_m] | rw [tV_m] | rw [gF_g h1.1.1 _ (by decide)] | rw [gF_g h2.1.1 _ (by decide)] | rw [f2] | rw [f2'] | rw [f3] | rw [gA_g (a := 0) h1.1.2.2.2.1 _ (show (0 : Int) ≤ (p.length : Int) by omega) (by omega)] | rw [t1] | rw [q1] | rw [gA_g (a := 0) h2.1.2.2.2.1 _ x0 (by omega)] | rw [gA_g (a := 0) h1.1.2.2.2.2 _ h0 (by omega)] | rw [pe1] | rw [q2])
    by_cases g : isB c m (p.length : Int) e = isB c m' x (p.getD e.toNat 0)
    · rw [if_pos (b2i_inj.mpr g), w32_id (by omega) (by omega), ih, beq_iff_eq.mpr g, Bool.true_and]
    · rw [if_neg (fun w => g (b2i_inj.mp w)), beq_eq_false_iff_ne.mpr g, Bool.false_and]; rfl
theorem isoF_s {c : Nat → Nat → Int} {m m' : Int} {N k : Nat} {p z : List Int} {x : Int} (hz : z ∈ perL N k (p ++ [x])) (n : Nat) : isoF c m m' z (n + 1) (p.length : Int) = (allU (fun e => isB c m (p.length : Int) e == isB c m' x (p.getD e.toNat 0)) p.length 0 && isoF c m m' z n ((p.length : Int) + 1)) := by
  have a := perL_at hz
  unfold isoF
  rw [allU, Int.toNat_natCast, a.1]
  congr 1
  exact allU_cg _ _ (fun e e0 e1 => by rw [a.2 e.toNat (by omega)])
theorem iso_sum (c : Nat → Nat → Int) (m m' : Int) (N k : Nat) (p : List Int) (x : Int) (n : Nat) : sumL (fun z => b2i (isoF c m m' z (n + 1) (p.length : Int))) (perL N k (p ++ [x])) = if allU (fun e => isB c m (p.length : Int) e == isB c m' x (p.getD e.toNat 0)) p.length 0 then sumL (fun z => b2i (isoF c m m' z n ((p.length : Int) + 1))) (perL N k (p ++ [x])) else 0 := by
  by_cases g : allU (fun e => isB c m (p.length : Int) e == isB c m' x (p.getD e.toNat 0)) p.length 0 = true
  · rw [if_pos g]
    exact sumL_cg _ (fun z hz => by rw [isoF_s hz, g, Bool.true_and])
  · rw [if_neg g, sumL_cg (g := fun _ => 0) _ (fun z hz => by rw [isoF_s hz, Bool.eq_false_iff.mpr g, Bool.false_and]; rfl)]
    generalize perL N k (p ++ [x]) = L
    induction L with
    | nil => rfl
    | cons a r ih => rw [sumL, ih]; rfl
theorem k21 (d : Nat) {q q' : Nat} {m m' : Int} {N : Nat} : ∀ (k : Nat) (p : List Int) (u : Int) (c : Nat → Nat → Int), p.length + k = N → TwoC s c q q' m m' N → MK N p u → (∀ j, j < p.length → c (q + 4) j = p.getD j 0 ∧ 0 ≤ p.getD j 0 ∧ p.getD j 0 < N) → ∃ c', Cd (d + k + 3) 21 [vA (q : Int), vA (q' : Int), vI (p.length : Int), vI u] (s, c) = some ([vI (sumL (fun z => b2i (isoF c m m' z k (p.length : Int))) (perL N k p))], (s, c')) ∧ FT q p.length c c'
  | 0, p, u, c, hk, hT, hu, hp => by
    obtain ⟨⟨h1, h2⟩, ⟨h3, h4⟩, h5, h6, h7, h8⟩ := id hT
    have h4' := h3.1.1
    rw [h5.1] at h4'
    refine ⟨c, ?_, fun _ _ _ => rfl⟩
    rw [c21 (hg := h1.g)]
    repeat (first | rw [bnd_s] | rw [tI_m] | rw [tL_m] | rw [tA_m] | rw [tV_m] | rw [gF_g h1.1.1 _ (by decide)] | rw [h4'] | rw [if_neg (show ¬ (p.length : Int) < (N : Int) by omega)])
    rfl
  | k + 1, p, u, c, hk, hT, hu, hp => by
    have loop : ∀ (n : Nat) (x a : Int) (c1 : Nat → Nat → Int), 0 ≤ x → x + n = N → FT q p.length c c1 → 0 ≤ a → a ≤ x * 7 ^ k → ∃ c', Rr (Cd (d + k + 3)) 21 10 [some (vA (q : Int)), some (vA (q' : Int)), some (vI (p.length : Int)), some (vI u), some (vI a), some (vI x)] [] (s, c1) = some ([vI (a + sumU (fun x => if p.contains x then 0 else sumL (fun z => b2i (isoF c m m' z (k + 1) (p.length : Int))) (perL N k (p ++ [x]))) n x)], (s, c')) ∧ FT q p.length c c' := fun n => by
      induction n with
      | zero =>
        intro x a c1 x0 hx hF a0 a1
        obtain ⟨hT1, e3⟩ := hT.ft hF
        obtain ⟨⟨h1, h2⟩, ⟨h3, h4⟩, h5, h6, h7, h8⟩ := id hT1
        have h4' := h3.1.1
        rw [h5.1] at h4'
        refine ⟨c1, ?_, hF⟩
        rw [c21_10]
        repeat (first | rw [bnd_s] | rw [tI_m] | rw [tL_m] | rw [tA_m] | rw [tV_m] | rw [gF_g h1.1.1 _ (by decide)] | rw [h4'] | rw [if_neg (show ¬ x < (N : Int) by omega)])
        simp only [sumU, Int.add_zero]
      | succ n IH =>
        intro x a c1 x0 hx hF a0 a1
        obtain ⟨hT1, e3⟩ := hT.ft hF
        obtain ⟨⟨h1, h2⟩, ⟨h3, h4⟩, h5, h6, h7, h8⟩ := id hT1
        have h4' := h3.1.1
        rw [h5.1] at h4'
        have P := pw_pos (show (0 : Int) < 7 by decide) k
        have Pk : (7 : Int) ^ k ≤ 117649 := by
          have := pw_up (show (1 : Int) ≤ 7 by decide) k (6 - k)
          rw [show k + (6 - k) = 6 by omega] at this
          exact this
        have qb := k169 (d + k + 2) (s, c1) (x := u) (k := x) hu.1.1 (by have := hu.1.2; omega) x0 (by omega)
        rw [hu.2.1 x x0 (by omega)] at qb
        have ex : (x + 1) * 7 ^ k = x * 7 ^ k + 7 ^ k := by rw [Int.add_mul, Int.one_mul]
        have xb : x * 7 ^ k ≤ 6 * 117649 := Int.mul_le_mul (by omega) Pk (by omega) (by decide)
        simp only [sumU]
        by_cases g : p.contains x = true
        · rw [if_pos g]
          obtain ⟨c', y1, y2⟩ := IH (x + 1) a c1 (by omega) (by omega) hF a0 (by omega)
          refine ⟨c', ?_, y2⟩
          rw [Int.zero_add, ← y1, c21_10]
          rw [g] at qb
          repeat (first | rw [bnd_s] | rw [tI_m] | rw [tL_m] | rw [tA_m] | rw [tV_m] | rw [gF_g h1.1.1 _ (by decide)] | rw [h4'] | rw [if_pos (show x < (N : Int) by omega)] | rw [qb] | rw [b2i_t] | rw [if_neg (show ¬ (1 : Int) = 0 by decide)] | rw [c21_43] | rw [w32_id (z := x + 1) (by omega) (by omega)])
        · have g' := Bool.eq_false_iff.mpr g
          rw [if_neg g]
          rw [g'] at qb
          have hp1 : ∀ j, j < p.length → c1 (q + 4) j = p.getD j 0 ∧ 0 ≤ p.getD j 0 ∧ p.getD j 0 < N := fun j hj => by rw [hF _ _ (by omega)]; exact hp j hj
          have q22 : Cd (d + k + 3) 22 [vA (q : Int), vA (q' : Int), vI (p.length : Int), vI x] (s, c1) = some ([vI (b2i (allU (fun e => isB c m (p.length : Int) e == isB c m' x (p.getD e.toNat 0)) p.length 0))], (s, c1)) := by
            rw [c22 (hg := h1.g), k22_2 (d + k + 1) hT1 hp1 (by omega) x0 (by omega) p.length 0 (by omega) (by omega)]
            rw [allU_cg (g := fun e => isB c m (p.length : Int) e == isB c m' x (p.getD e.toNat 0)) _ _ (fun e _ _ => by rw [isB_of e3, isB_of e3])]
          rw [iso_sum]
          by_cases w : allU (fun e => isB c m (p.length : Int) e == isB c m' x (p.getD e.toNat 0)) p.length 0 = true
          · rw [if_pos w]
            rw [w] at q22
            have f3 := h1.2.2.2.2
            have F2 : FT q p.length c (u2 c1 (q + 4) p.length x) := fun o i hi => by rw [u2_n (fun v => hi ⟨v.1, by omega⟩)]; exact hF o i hi
            obtain ⟨hT2, e32⟩ := hT.ft F2
            obtain ⟨c2, z1, z2⟩ := k21 d k (p ++ [x]) (ior u (ishl 1 x)) (u2 c1 (q + 4) p.length x) (by rw [List.length_append, List.length_singleton]; omega) hT2 (MK_a h6.2 hu x0 (by omega) g') (fun j hj => by
              rw [List.length_append, List.length_singleton] at hj
              rw [getD_app]
              by_cases e : j = p.length
              · subst e; rw [u2_e, if_pos rfl]; exact ⟨rfl, x0, by omega⟩
              · rw [u2_n (fun v => e v.2), if_neg e]; exact hp1 j (by omega))
            rw [List.length_append, List.length_singleton] at z1 z2
            have ei : (fun z => b2i (isoF (u2 c1 (q + 4) p.length x) m m' z k ((p.length + 1 : Nat) : Int))) = fun z => b2i (isoF c m m' z k ((p.length : Int) + 1)) := funext fun z => by
              unfold isoF
              rw [show ((p.length + 1 : Nat) : Int) = (p.length : Int) + 1 by omega, allU_cg (g := fun x => allU (fun e => isB c m x e == isB c m' (z.getD x.toNat 0) (z.getD e.toNat 0)) x.toNat 0) _ _ (fun y _ _ => allU_cg _ _ (fun e _ _ => by rw [isB_of e32, isB_of e32]))]
            rw [ei] at z1
            have sb := perL_b (f := fun z => b2i (isoF c m m' z k ((p.length : Int) + 1))) (fun z => (b2i_b _).1) (fun z => (b2i_b _).2) h6.2 k (p ++ [x])
            have F3 : FT q p.length c c2 := F2.tr (z2.mono (by omega))
            obtain ⟨c', y1, y2⟩ := IH (x + 1) (a + sumL (fun z => b2i (isoF c m m' z k ((p.length : Int) + 1))) (perL N k (p ++ [x]))) c2 (by omega) (by omega) F3 (by omega) (by omega)
            refine ⟨c', ?_, y2⟩
            have z1' : Cd (d + k + 3) 21 [vA (q : Int), vA (q' : Int), vI ((p.length : Int) + 1), vI (ior u (ishl 1 x))] (s, u2 c1 (q + 4) p.length x) = some ([vI (sumL (fun z => b2i (isoF c m m' z k ((p.length : Int) + 1))) (perL N k (p ++ [x])))], (s, c2)) := z1
            rw [← Int.add_assoc, ← y1, c21_10]
            have t1 : ((p.length : Nat) : Int).toNat = p.length := Int.toNat_natCast _
            repeat (first | rw [bnd_s] | rw [tI_m] | rw [tL_m] | rw [tA_m] | rw [tV_m] | rw [gF_g h1.1.1 _ (by decide)] | rw [h4'] | rw [if_pos (show x < (N : Int) by omega)] | rw [qb] | rw [b2i_f] | rw [b2i_t] | rw [if_pos (show (0 : Int) = 0 from rfl)] | rw [q22] | rw [if_neg (show ¬ (1 : Int) = 0 by decide)] | rw [f3] | rw [pA_g (a := 0) h1.1.2.2.2.2 _ _ (show (0 : Int) ≤ (p.length : Int) by omega) (by omega)] | rw [t1] | rw [w32_id (z := (p.length : Int) + 1) (by omega) (by omega)] | rw [z1'] | rw [w32_id (z := a + sumL (fun z => b2i (isoF c m m' z k ((p.length : Int) + 1))) (perL N k (p ++ [x]))) (by omega) (by omega)] | rw [c21_43] | rw [w32_id (z := x + 1) (by omega) (by omega)])
          · rw [if_neg w]
            rw [Bool.eq_false_iff.mpr w] at q22
            obtain ⟨c', y1, y2⟩ := IH (x + 1) a c1 (by omega) (by omega) hF a0 (by omega)
            refine ⟨c', ?_, y2⟩
            rw [Int.zero_add, ← y1, c21_10]
            repeat (first | rw [bnd_s] | rw [tI_m] | rw [tL_m] | rw [tA_m] | rw [tV_m] | rw [gF_g h1.1.1 _ (by decide)] | rw [h4'] | rw [if_pos (show x < (N : Int) by omega)] | rw [qb] | rw [b2i_f] | rw [if_pos (show (0 : Int) = 0 from rfl)] | rw [q22] | rw [c21_43] | rw [w32_id (z := x + 1) (by omega) (by omega)])
    obtain ⟨⟨h1, h2⟩, ⟨h3, h4⟩, h5, h6, h7, h8⟩ := id hT
    have h4' := h3.1.1
    rw [h5.1] at h4'
    obtain ⟨c', y1, y2⟩ := loop N 0 0 c (by omega) (by omega) (fun _ _ _ => rfl) (by omega) (by omega)
    refine ⟨c', ?_, y2⟩
    rw [perL_s, ← Int.zero_add (sumU _ _ _), ← y1, show d + (k + 1) + 3 = (d + k + 3) + 1 by omega, c21 (hg := h1.g)]
    repeat (first | rw [bnd_s] | rw [tI_m] | rw [tL_m] | rw [tA_m] | rw [tV_m] | rw [gF_g h1.1.1 _ (by decide)] | rw [h4'] | rw [if_pos (show (p.length : Int) < (N : Int) by omega)])
theorem k20 (d : Nat) {c : Nat → Nat → Int} {q q' : Nat} {m m' : Int} {N : Nat} (hT : TwoC s c q q' m m' N) (eB : c 143 (24 + m).toNat = c 143 (24 + m').toNat) : ∃ c', Cd (d + N + 4) 20 [vA (q : Int), vA (q' : Int)] (s, c) = some ([vI (sumL (fun z => b2i (tuP c m m' z)) (perL N N []))], (s, c')) ∧ FT q 0 c c' := by
  obtain ⟨⟨h1, h2⟩, ⟨h3, h4⟩, h5, h6, h7, h8⟩ := id hT
  have a1 := h3.1.1
  have a2 := h4.1.1
  have a3 := h3.1.2
  have a4 := h4.1.2
  rw [h5.1] at a1
  rw [h5.2] at a2
  rw [← eB] at a4
  have mk : MK N [] 0 := ⟨by decide, fun y _ _ => by rw [bt_z]; simp, by rw [sumU_cg (g := fun _ => 0) N 0 (fun y _ _ => by simp [b2i]), sumU_0]; rfl, fun y _ => by simp⟩
  obtain ⟨c', y1, y2⟩ := k21 d N [] 0 c (by simp) hT mk (fun j hj => by simp at hj)
  rw [List.length_nil, show ((0 : Nat) : Int) = 0 from rfl, tu_sum h3 h4 h5.1 h5.2 eB] at y1
  refine ⟨c', ?_, y2⟩
  rw [c20 (hg := h1.g)]
  repeat (first | rw [bnd_s] | rw [tI_m] | rw [tL_m] | rw [tA_m] | rw [tV_m] | rw [gF_g h1.1.1 _ (by decide)] | rw [gF_g h2.1.1 _ (by decide)] | rw [a1] | rw [a2] | rw [a3] | rw [a4] | rw [if_pos (show (N : Int) = (N : Int) from rfl)] | rw [if_pos (show c 143 (24 + m).toNat = c 143 (24 + m).toNat from rfl)] | rw [y1])
theorem k20_n (d : Nat) {c : Nat → Nat → Int} {q q' : Nat} {m m' : Int} (h1 : CH s c q) (h2 : CH s c q') (h3 : MapRel (c 143) c q m) (h4 : MapRel (c 143) c q' m') (ne : ¬ (c 143 (20 + m).toNat = c 143 (20 + m').toNat ∧ c 143 (24 + m).toNat = c 143 (24 + m').toNat)) : Cd (d + 1) 20 [vA (q : Int), vA (q' : Int)] (s, c) = some ([vI 0], (s, c)) := by
  have a1 := h3.1.1
  have a2 := h4.1.1
  have a3 := h3.1.2
  have a4 := h4.1.2
  rw [c20 (hg := h1.g)]
  repeat (first | rw [bnd_s] | rw [tI_m] | rw [tL_m] | rw [tA_m] | rw [tV_m] | rw [gF_g h1.1.1 _ (by decide)] | rw [gF_g h2.1.1 _ (by decide)] | rw [a1] | rw [a2])
  by_cases e : c 143 (20 + m).toNat = c 143 (20 + m').toNat
  · rw [if_pos e]
    repeat (first | rw [bnd_s] | rw [tI_m] | rw [tL_m] | rw [tA_m] | rw [tV_m] | rw [gF_g h1.1.1 _ (by decide)] | rw [gF_g h2.1.1 _ (by decide)] | rw [a3] | rw [a4] | rw [if_neg (show ¬ c 143 (24 + m).toNat = c 143 (24 + m').toNat from fun w => ne ⟨e, w⟩)] | rw [c20_10])
  · rw [if_neg e, c20_10]
end
