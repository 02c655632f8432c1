/-! the class's parser, to its end -/
theorem k80_o (d : Nat) {s : List (Nat × Nat)} {tk nv st : Int → Int} {K a : Int} (hs : SpL s) {c : Nat → Nat → Int} {i : Int} {X : List (Int × Int)} (hE : EV tk nv st K c) (hk : KS K c i X) (n1 : tk i ≠ 40) (n2 : tk i ≠ 45) : ∃ c', Cd (d + 2) 80 [vA 122, vI a] (s, c) = some ([vI (rv (opnd tk nv i))], (s, c')) ∧ KR st K c c' X (opnd tk nv i) := by
  have hi := hk.2.1
  have hK := hE.2.2.1
  have htk := tkr hE hk
  by_cases hv : tk i = 3 ∨ tk i = 97 ∨ tk i = 98 ∨ tk i = 120 ∨ tk i = 121
  · have hlt := tk_lt hE.2.2.2.1 hi.2 (show tk i ≠ 0 by omega)
    have hnv := hE.2.2.2.2.2 i hi.1 (by omega)
    have put : ∀ q : Int × Int, tk i = rnC q → (q.1 = 0 → nv i = q.2) → opnd tk nv i = pOk (i + 1) [q] → ∃ c', Rr (Cd (d + 1)) 80 37 [some (vA 122), some (vI a), some (vI (tk i))] [] (s, c) = some ([vI (rv (opnd tk nv i))], (s, c')) ∧ KR st K c c' X (opnd tk nv i) := fun q h1 h2 h3 => by
      obtain ⟨c1, c2, r1, r2, f2, s2⟩ := k26s d hs hE hk (by omega) q h1 h2
      rw [h3]
      refine ⟨c2, ?_, f2, fun _ => s2, fun g => absurd rfl g⟩
      (try rw [c80_37]); (try rw [fC122 hs _ (by decide)]); (try rw [bnd_s]); (try rw [hE.1.2.2.2.1]); (try rw [fC122 hs _ (by decide)]); (try rw [bnd_s]); (try rw [hE.1.2.2.1]); (try rw [fC122 hs _ (by decide)]); (try rw [bnd_s]); (try rw [hk.1]); (try rw [aC126 hs _ hi.1 (by omega)]); (try rw [bnd_s]); (try rw [hnv]); (try rw [r1]); (try rw [bnd_s]); (try rw [tV_m]); (try rw [bnd_s]); (try rw [r2]); (try rw [bnd_s]); (try rw [tV_m]); (try rw [bnd_s]); (try rfl)
    have go : ∀ R, (if tk i = 3 then (if 9999 < nv i then ((Cd (d + 1) 70 [vA 122, vI 2] (s, c)).bind toI).bind fun q8 => (if q8.1 = 0 ∨ q8.1 = 1 then some ([vI q8.1], q8.2) else none) else Rr (Cd (d + 1)) 80 37 [some (vA 122), some (vI a), some (vI (tk i))] [] (s, c)) else Rr (Cd (d + 1)) 80 37 [some (vA 122), some (vI a), some (vI (tk i))] [] (s, c)) = R → Cd (d + 2) 80 [vA 122, vI a] (s, c) = R := fun R hR => by
      (try rw [c80 (hg := gC122 hs c)]); (try rw [fC122 hs _ (by decide)]); (try rw [bnd_s]); (try rw [hE.1.1]); (try rw [fC122 hs _ (by decide)]); (try rw [bnd_s]); (try rw [hk.1]); (try rw [aC124 hs _ hi.1 (by omega)]); (try rw [bnd_s]); (try rw [htk]); (try rw [if_neg n1]); (try rw [if_neg n2]); (try rw [cl30]); (try rw [bnd_s]); (try rw [tI_m]); (try rw [bnd_s]); (try rw [decide_eq_true hv]); (try rw [if_neg (show ¬ b2i true = 0 by decide)]); (try rw [fC122 hs _ (by decide)]); (try rw [bnd_s]); (try rw [hE.1.2.2.1]); (try rw [fC122 hs _ (by decide)]); (try rw [bnd_s]); (try rw [hk.1]); (try rw [aC126 hs _ hi.1 (by omega)]); (try rw [bnd_s]); (try rw [hnv]); (try rw [hR])
    by_cases h3 : tk i = 3
    · by_cases h9 : 9999 < nv i
      · obtain ⟨c', r, q⟩ := k70 d hs hE hk (e := 2) (by decide)
        have e : opnd tk nv i = pEr 2 i := by unfold opnd; rw [if_pos h3, if_pos h9]
        rw [e]
        refine ⟨c', go _ ?_, q⟩
        (try rw [if_pos h3]); (try rw [if_pos h9]); (try rw [r]); (try rw [bnd_s]); (try rw [tI_m]); (try rw [bnd_s]); (try rw [if_pos (Or.inl rfl)]); (try rfl)
      · obtain ⟨c', r, q⟩ := put (0, nv i) h3 (fun _ => rfl) (by unfold opnd; rw [if_pos h3, if_neg h9])
        exact ⟨c', go _ (by rw [if_pos h3, if_neg h9]; exact r), q⟩
    · have fin : ∀ q : Int × Int, tk i = rnC q → (q.1 = 0 → nv i = q.2) → opnd tk nv i = pOk (i + 1) [q] → ∃ c', Cd (d + 2) 80 [vA 122, vI a] (s, c) = some ([vI (rv (opnd tk nv i))], (s, c')) ∧ KR st K c c' X (opnd tk nv i) := fun q a1 a2 a3 => by
        obtain ⟨c', r, q⟩ := put q a1 a2 a3
        exact ⟨c', go _ (by rw [if_neg h3]; exact r), q⟩
      by_cases g1 : tk i = 97
      · exact fin (1, 0) g1 (fun g => absurd g (by decide)) (by unfold opnd; rw [if_neg h3, if_pos g1])
      · by_cases g2 : tk i = 98
        · exact fin (1, 1) g2 (fun g => absurd g (by decide)) (by unfold opnd; rw [if_neg h3, if_neg g1, if_pos g2])
        · by_cases g3 : tk i = 120
          · exact fin (1, 2) g3 (fun g => absurd g (by decide)) (by unfold opnd; rw [if_neg h3, if_neg g1, if_neg g2, if_pos g3])
          · have g4 : tk i = 121 := by omega
            exact fin (1, 3) g4 (fun g => absurd g (by decide)) (by unfold opnd; rw [if_neg h3, if_neg g1, if_neg g2, if_neg g3, if_pos g4])
  · obtain ⟨c', r, q⟩ := k70 d hs hE hk (e := 1) (by decide)
    have e : opnd tk nv i = pEr 1 i := by unfold opnd; rw [if_neg (by omega), if_neg (by omega), if_neg (by omega), if_neg (by omega), if_neg (by omega)]
    rw [e]
    refine ⟨c', ?_, q⟩
    (try rw [c80 (hg := gC122 hs c)]); (try rw [fC122 hs _ (by decide)]); (try rw [bnd_s]); (try rw [hE.1.1]); (try rw [fC122 hs _ (by decide)]); (try rw [bnd_s]); (try rw [hk.1]); (try rw [aC124 hs _ hi.1 (by omega)]); (try rw [bnd_s]); (try rw [htk]); (try rw [if_neg n1]); (try rw [if_neg n2]); (try rw [cl30]); (try rw [bnd_s]); (try rw [tI_m]); (try rw [bnd_s]); (try rw [decide_eq_false hv]); (try rw [if_pos (show b2i false = 0 from rfl)]); (try rw [r]); (try rw [bnd_s]); (try rw [tI_m]); (try rw [bnd_s]); (try rw [if_pos (Or.inl rfl)]); (try rfl)
theorem k80_81 (d : Nat) {s : List (Nat × Nat)} {tk nv st : Int → Int} {K a v : Int} (hs : SpL s) {c c' : Nat → Nat → Int} {i : Int} {X : List (Int × Int)} (hE : EV tk nv st K c) (hk : KS K c i X) (h : tk i = 40 ∨ tk i = 45) (r : Cd (d + 1) 81 [vA 122, vI a] (s, c) = some ([vI v], (s, c'))) (hv : v = 0 ∨ v = 1) : Cd (d + 2) 80 [vA 122, vI a] (s, c) = some ([vI v], (s, c')) := by
  have hi := hk.2.1
  have hK := hE.2.2.1
  have htk := tkr hE hk
  (try rw [c80 (hg := gC122 hs c)]); (try rw [fC122 hs _ (by decide)]); (try rw [bnd_s]); (try rw [hE.1.1]); (try rw [fC122 hs _ (by decide)]); (try rw [bnd_s]); (try rw [hk.1]); (try rw [aC124 hs _ hi.1 (by omega)]); (try rw [bnd_s]); (try rw [htk])
  rcases h with h | h
  · (try rw [if_pos h]); (try rw [c80_12]); (try rw [r]); (try rw [bnd_s]); (try rw [tI_m]); (try rw [bnd_s]); (try rw [if_pos hv])
  · (try rw [if_neg (by omega)]); (try rw [if_pos h]); (try rw [c80_12]); (try rw [r]); (try rw [bnd_s]); (try rw [tI_m]); (try rw [bnd_s]); (try rw [if_pos hv])
theorem rv_o (r : Rs) : rv r = 0 ∨ rv r = 1 := by unfold rv; split <;> omega
theorem k80 {s : List (Nat × Nat)} {tk nv st : Int → Int} {K : Int} (hs : SpL s) (hz : tk K = 0) : ∀ m : Nat, m ≤ 8 → KQ s tk nv st K (4 * m + 2) 80 [vI (8 - (m : Int))] (fac tk nv m) := by
  intro m
  induction m with
  | zero =>
    intro _ d c i X hE hk
    show ∃ c', Cd (d + 1 + 2) 80 [vA 122, vI 8] (s, c) = some ([vI (rv (fac tk nv 0 i))], (s, c')) ∧ KR st K c c' X (fac tk nv 0 i)
    by_cases h : tk i = 40 ∨ tk i = 45
    · have e : fac tk nv 0 i = pEr 3 i := by unfold fac; rw [if_pos h]
      obtain ⟨c', r, q⟩ := k70 d hs hE hk (e := 3) (by decide)
      rw [e]
      refine ⟨c', k80_81 (d + 1) hs hE hk h ?_ (rv_o _), q⟩
      (try rw [c81 (hg := gC122 hs c)]); (try rw [if_neg (by decide)]); (try rw [r]); (try rw [bnd_s]); (try rw [tI_m]); (try rw [bnd_s]); (try rw [if_pos (Or.inl rfl)]); (try rfl)
    · have e : fac tk nv 0 i = opnd tk nv i := by unfold fac; rw [if_neg h]
      rw [e]
      exact k80_o (d + 1) hs hE hk (by omega) (by omega)
  | succ m ih =>
    intro hm d c i X hE hk
    have ih := ih (by omega)
    have H78 := k78 (4 * m + 2 + 1) hs hz (term_w hz (fac_w hz (nv := nv) m)) (k79 (4 * m + 2) hs hz (fac_w hz (nv := nv) m) ih)
    have H80 := KQ_up ih (show 4 * m + 2 ≤ 4 * m + 4 by omega)
    rw [show d + (4 * (m + 1) + 2) + 1 = (d + (4 * m + 4) + 1) + 2 by omega, show (8 : Int) - ((m + 1 : Nat) : Int) = 7 - (m : Int) by omega]
    have hi := hk.2.1
    have hK := hE.2.2.1
    have htk := tkr hE hk
    have e8 : w32 (7 - (m : Int) + 1) = 8 - (m : Int) := by rw [w32_id (by omega) (by omega)]; omega
    by_cases h : tk i = 40
    · obtain ⟨c1, r1, f1, s1⟩ := k71 (d + (4 * m + 4)) hs hE hk (by rw [h]; decide)
      have E1 := EV_of hE f1
      obtain ⟨c2, r2, f2, s2, t2⟩ := H78 d c1 (i + 1) X E1 s1
      have r2 : Cd (d + (4 * m + 4) + 1) 78 [vA 122, vI (8 - (m : Int))] (s, c1) = some ([vI (rv (expr tk (fac tk nv m) (i + 1)))], (s, c2)) := r2
      have E2 := EV_of E1 f2
      have e : fac tk nv (m + 1) i = pBd (expr tk (fac tk nv m) (i + 1)) (fun j => if tk j = 41 then pOk (j + 1) [] else pEr 1 j) := by
        rw [fac, if_pos h]
      have go : ∀ (v : Int) (cc : Nat → Nat → Int), (v = 0 ∨ v = 1) → (if rv (expr tk (fac tk nv m) (i + 1)) = 0 then some ([vI 0], (s, c2)) else (gF (s, c2) 6 1 122).bind fun x3 => (gF (s, c2) 6 9 122).bind fun x4 => (gA (s, c2) 0 x3 x4).bind fun x5 => (if x5 = 41 then ((Cd (d + (4 * m + 4) + 1) 71 [vA 122] (s, c2)).bind toV).bind fun q6 => some ([vI 1], q6) else ((Cd (d + (4 * m + 4) + 1) 70 [vA 122, vI 1] (s, c2)).bind toI).bind fun q7 => (if q7.1 = 0 ∨ q7.1 = 1 then some ([vI q7.1], q7.2) else none))) = some ([vI v], (s, cc)) → Cd (d + (4 * m + 4) + 1 + 2) 80 [vA 122, vI (7 - (m : Int))] (s, c) = some ([vI v], (s, cc)) := fun v cc hv hR => by
        refine k80_81 _ hs hE hk (Or.inl h) ?_ hv
        (try rw [c81 (hg := gC122 hs c)]); (try rw [if_pos (by omega)]); (try rw [fC122 hs _ (by decide)]); (try rw [bnd_s]); (try rw [hE.1.1]); (try rw [fC122 hs _ (by decide)]); (try rw [bnd_s]); (try rw [hk.1]); (try rw [aC124 hs _ hi.1 (by omega)]); (try rw [bnd_s]); (try rw [htk]); (try rw [if_neg (by omega)]); (try rw [c81_17]); (try rw [r1]); (try rw [bnd_s]); (try rw [tV_m]); (try rw [bnd_s]); (try rw [if_pos rfl]); (try rw [e8]); (try rw [r2]); (try rw [bnd_s]); (try rw [tI_m]); (try rw [bnd_s])
        exact hR
      rw [e]
      by_cases hr : (expr tk (fac tk nv m) (i + 1)).1 = 0
      · rw [pBd_s hr]
        have s2 := s2 hr
        have htk2 := tkr E2 s2
        by_cases h41 : tk (expr tk (fac tk nv m) (i + 1)).2.1 = 41
        · obtain ⟨c3, r3, f3, s3⟩ := k71 (d + (4 * m + 4)) hs E2 s2 (by rw [h41]; decide)
          simp only [if_pos h41]
          refine ⟨c3, go _ _ (rv_o _) ?_, (f1.tr f2).tr f3, fun _ => ?_, fun g => absurd rfl g⟩
          · (try rw [rv_1 hr]); (try rw [if_neg (show ¬ (1 : Int) = 0 by decide)]); (try rw [fC122 hs _ (by decide)]); (try rw [bnd_s]); (try rw [E2.1.1]); (try rw [fC122 hs _ (by decide)]); (try rw [bnd_s]); (try rw [s2.1]); (try rw [aC124 hs _ s2.2.1.1 (by have := s2.2.1.2; omega)]); (try rw [bnd_s]); (try rw [htk2]); (try rw [if_pos h41]); (try rw [r3]); (try rw [bnd_s]); (try rw [tV_m]); (try rw [bnd_s]); (try rfl)
          · show KS K c3 _ (X ++ ((expr tk (fac tk nv m) (i + 1)).2.2 ++ []))
            rw [List.append_nil]; exact s3
        · obtain ⟨c3, r3, f3, s3, t3⟩ := k70 (d + (4 * m + 4)) hs E2 s2 (e := 1) (by decide)
          simp only [if_neg h41]
          refine ⟨c3, go _ _ (rv_o _) ?_, (f1.tr f2).tr f3, fun g => absurd g (by show ¬ (1 : Int) = 0; decide), fun _ => t3 (by show (1 : Int) ≠ 0; decide)⟩
          (try rw [rv_1 hr]); (try rw [if_neg (show ¬ (1 : Int) = 0 by decide)]); (try rw [fC122 hs _ (by decide)]); (try rw [bnd_s]); (try rw [E2.1.1]); (try rw [fC122 hs _ (by decide)]); (try rw [bnd_s]); (try rw [s2.1]); (try rw [aC124 hs _ s2.2.1.1 (by have := s2.2.1.2; omega)]); (try rw [bnd_s]); (try rw [htk2]); (try rw [if_neg h41]); (try rw [r3]); (try rw [bnd_s]); (try rw [tI_m]); (try rw [bnd_s]); (try rw [if_pos (Or.inl rfl)]); (try rfl)
      · rw [pBd_er hr]
        refine ⟨c2, go _ _ (rv_o _) ?_, f1.tr f2, fun g => absurd g hr, t2⟩
        rw [rv_0 hr, if_pos rfl]
    · by_cases h2 : tk i = 45
      · obtain ⟨c1, r1, f1, s1⟩ := k71 (d + (4 * m + 4)) hs hE hk (by rw [h2]; decide)
        have E1 := EV_of hE f1
        obtain ⟨c2, r2, f2, s2, t2⟩ := H80 d c1 (i + 1) X E1 s1
        have E2 := EV_of E1 f2
        have w := fac_w hz (nv := nv) m (i + 1) (by omega) s1.2.1.2
        have hXl := hk.2.2.2.1
        have e : fac tk nv (m + 1) i = pBd (fac tk nv m (i + 1)) (fun j => pOk j [(2, 0)]) := by
          rw [fac, if_neg h, if_pos h2]
        have go : ∀ (v : Int) (cc : Nat → Nat → Int), (v = 0 ∨ v = 1) → (if rv (fac tk nv m (i + 1)) = 0 then some ([vI 0], (s, c2)) else (gF (s, c2) 6 4 122).bind fun x9 => ((Cd (d + (4 * m + 4) + 1) 26 [vA x9, vI 6, vI 0] (s, c2)).bind toV).bind fun q10 => some ([vI 1], q10)) = some ([vI v], (s, cc)) → Cd (d + (4 * m + 4) + 1 + 2) 80 [vA 122, vI (7 - (m : Int))] (s, c) = some ([vI v], (s, cc)) := fun v cc hv hR => by
          refine k80_81 _ hs hE hk (Or.inr h2) ?_ hv
          (try rw [c81 (hg := gC122 hs c)]); (try rw [if_pos (by omega)]); (try rw [fC122 hs _ (by decide)]); (try rw [bnd_s]); (try rw [hE.1.1]); (try rw [fC122 hs _ (by decide)]); (try rw [bnd_s]); (try rw [hk.1]); (try rw [aC124 hs _ hi.1 (by omega)]); (try rw [bnd_s]); (try rw [htk]); (try rw [if_pos h2]); (try rw [c81_17]); (try rw [r1]); (try rw [bnd_s]); (try rw [tV_m]); (try rw [bnd_s]); (try rw [if_neg (show ¬ (1 : Int) = 0 by decide)]); (try rw [e8]); (try rw [r2]); (try rw [bnd_s]); (try rw [tI_m]); (try rw [bnd_s])
          exact hR
        rw [e]
        by_cases hr : (fac tk nv m (i + 1)).1 = 0
        · rw [pBd_s hr]
          have s2 := s2 hr
          have w3 := w.2.1 hr
          obtain ⟨c3, r3, f3, s3⟩ := k26 (d + (4 * m + 4)) hs E2 s2 (2, 0) (a := 6) (b := 0) (by rw [List.length_append]; omega) rfl (fun g => rfl)
          refine ⟨c3, go _ _ (rv_o _) ?_, (f1.tr f2).tr f3, fun _ => ?_, fun g => absurd rfl g⟩
          · (try rw [rv_1 hr]); (try rw [if_neg (show ¬ (1 : Int) = 0 by decide)]); (try rw [fC122 hs _ (by decide)]); (try rw [bnd_s]); (try rw [E2.1.2.2.2.1]); (try rw [r3]); (try rw [bnd_s]); (try rw [tV_m]); (try rw [bnd_s]); (try rfl)
          · show KS K c3 _ (X ++ ((fac tk nv m (i + 1)).2.2 ++ [(2, 0)]))
            rw [← List.append_assoc]; exact s3
        · rw [pBd_er hr]
          refine ⟨c2, go _ _ (rv_o _) ?_, f1.tr f2, fun g => absurd g hr, t2⟩
          rw [rv_0 hr, if_pos rfl]
      · have e : fac tk nv (m + 1) i = opnd tk nv i := by rw [fac, if_neg h, if_neg h2]
        rw [e]
        exact k80_o _ hs hE hk h h2
theorem k78a {s : List (Nat × Nat)} {tk nv st : Int → Int} {K : Int} (hs : SpL s) (hz : tk K = 0) (m : Nat) (hm : m ≤ 8) : KQ s tk nv st K (4 * m + 4) 78 [vI (8 - (m : Int))] (expr tk (fac tk nv m)) :=
  k78 (4 * m + 2 + 1) hs hz (term_w hz (fac_w hz (nv := nv) m)) (k79 (4 * m + 2) hs hz (fac_w hz (nv := nv) m) (k80 hs hz m hm))
theorem k77_c (d D : Nat) {s : List (Nat × Nat)} {tk nv st : Int → Int} {K a : Int} (hs : SpL s) (hz : tk K = 0) {P : Int → Rs} (hW : WQ K (expr tk P)) (H : KQ s tk nv st K D 78 [vI a] (expr tk P)) {c : Nat → Nat → Int} {i : Int} {X : List (Int × Int)} (hE : EV tk nv st K c) (hk : KS K c i X) (h7 : tk i ≠ 7) : ∃ c', Cd (d + D + 1 + 1) 77 [vA 122, vI a] (s, c) = some ([vI (rv (cmpE tk P i))], (s, c')) ∧ KR st K c c' X (cmpE tk P i) := by
  have hi := hk.2.1
  have hK := hE.2.2.1
  have htk := tkr hE hk
  have hXl := hk.2.2.2.1
  obtain ⟨c2, r2, f2, s2, t2⟩ := H d c i X hE hk
  have E2 := EV_of hE f2
  unfold cmpE
  by_cases hr : (expr tk P i).1 = 0
  · rw [pBd_s hr]
    have s2 := s2 hr
    have w := hW i hi.1 hi.2
    have w3 := w.2.1 hr
    have htk2 := tkr E2 s2
    by_cases hc : cmpO (tk (expr tk P i).2.1) < 0
    · obtain ⟨c3, r3, f3, s3, t3⟩ := k70 (d + D) hs E2 s2 (e := 1) (by decide)
      simp only [if_pos hc]
      refine ⟨c3, ?_, f2.tr f3, fun g => absurd g (by show ¬ (1 : Int) = 0; decide), fun _ => t3 (by show (1 : Int) ≠ 0; decide)⟩
      (try rw [c77 (hg := gC122 hs c)]); (try rw [fC122 hs _ (by decide)]); (try rw [bnd_s]); (try rw [hE.1.1]); (try rw [fC122 hs _ (by decide)]); (try rw [bnd_s]); (try rw [hk.1]); (try rw [aC124 hs _ hi.1 (by omega)]); (try rw [bnd_s]); (try rw [htk]); (try rw [if_neg h7]); (try rw [r2]); (try rw [bnd_s]); (try rw [tI_m]); (try rw [bnd_s]); (try rw [rv_1 hr]); (try rw [if_neg (show ¬ (1 : Int) = 0 by decide)]); (try rw [fC122 hs _ (by decide)]); (try rw [bnd_s]); (try rw [E2.1.1]); (try rw [fC122 hs _ (by decide)]); (try rw [bnd_s]); (try rw [s2.1]); (try rw [aC124 hs _ s2.2.1.1 (by have := s2.2.1.2; omega)]); (try rw [bnd_s]); (try rw [htk2]); (try rw [cl24]); (try rw [bnd_s]); (try rw [tI_m]); (try rw [bnd_s]); (try rw [decide_eq_false (show ¬ ¬ cmpO (tk (expr tk P i).2.1) < 0 from fun w => w hc)]); (try rw [if_pos (show b2i false = 0 from rfl)]); (try rw [r3]); (try rw [bnd_s]); (try rw [tI_m]); (try rw [bnd_s]); (try rw [if_pos (Or.inl rfl)]); (try rfl)
    · simp only [if_neg hc]
      obtain ⟨c3, r3, f3, s3⟩ := k71 (d + D) hs E2 s2 (cmpO_z hc)
      have E3 := EV_of E2 f3
      obtain ⟨c4, r4, f4, s4, t4⟩ := H d c3 _ _ E3 s3
      have E4 := EV_of E3 f4
      have wb := hW ((expr tk P i).2.1 + 1) s3.2.1.1 s3.2.1.2
      have go : ∀ R, (if rv (expr tk P ((expr tk P i).2.1 + 1)) = 0 then some ([vI 0], (s, c4)) else (gF (s, c4) 6 4 122).bind fun x11 => ((Cd (d + D + 1) 26 [vA x11, vI (tk (expr tk P i).2.1), vI 0] (s, c4)).bind toV).bind fun q12 => some ([vI 1], q12)) = R → Cd (d + D + 1 + 1) 77 [vA 122, vI a] (s, c) = R := fun R hR => by
        (try rw [c77 (hg := gC122 hs c)]); (try rw [fC122 hs _ (by decide)]); (try rw [bnd_s]); (try rw [hE.1.1]); (try rw [fC122 hs _ (by decide)]); (try rw [bnd_s]); (try rw [hk.1]); (try rw [aC124 hs _ hi.1 (by omega)]); (try rw [bnd_s]); (try rw [htk]); (try rw [if_neg h7]); (try rw [r2]); (try rw [bnd_s]); (try rw [tI_m]); (try rw [bnd_s]); (try rw [rv_1 hr]); (try rw [if_neg (show ¬ (1 : Int) = 0 by decide)]); (try rw [fC122 hs _ (by decide)]); (try rw [bnd_s]); (try rw [E2.1.1]); (try rw [fC122 hs _ (by decide)]); (try rw [bnd_s]); (try rw [s2.1]); (try rw [aC124 hs _ s2.2.1.1 (by have := s2.2.1.2; omega)]); (try rw [bnd_s]); (try rw [htk2]); (try rw [cl24]); (try rw [bnd_s]); (try rw [tI_m]); (try rw [bnd_s]); (try rw [decide_eq_true hc]); (try rw [if_neg (show ¬ b2i true = 0 by decide)]); (try rw [r3]); (try rw [bnd_s]); (try rw [tV_m]); (try rw [bnd_s]); (try rw [r4]); (try rw [bnd_s]); (try rw [tI_m]); (try rw [bnd_s])
        exact hR
      by_cases hr2 : (expr tk P ((expr tk P i).2.1 + 1)).1 = 0
      · rw [pBd_s hr2]
        have s4 := s4 hr2
        have w5 := wb.2.1 hr2
        obtain ⟨c5, r5, f5, s5⟩ := k26 (d + D) hs E4 s4 (cmpO (tk (expr tk P i).2.1), 0) (a := tk (expr tk P i).2.1) (b := 0) (by rw [List.length_append, List.length_append]; omega) (cmpO_r hc) (fun g => rfl)
        refine ⟨c5, go _ ?_, ((f2.tr f3).tr f4).tr f5, fun _ => ?_, fun g => absurd rfl g⟩
        · (try rw [rv_1 hr2]); (try rw [if_neg (show ¬ (1 : Int) = 0 by decide)]); (try rw [fC122 hs _ (by decide)]); (try rw [bnd_s]); (try rw [E4.1.2.2.2.1]); (try rw [r5]); (try rw [bnd_s]); (try rw [tV_m]); (try rw [bnd_s]); (try rfl)
        · have q := s5
          simp only [List.append_assoc] at q
          exact q
      · rw [pBd_er hr2]
        refine ⟨c4, go _ ?_, (f2.tr f3).tr f4, fun g => absurd g hr2, fun g => t4 hr2⟩
        rw [rv_0 hr2, if_pos rfl]
        show _ = some ([vI (rv ((expr tk P ((expr tk P i).2.1 + 1)).1, _, _))], (s, c4))
        rw [show rv ((expr tk P ((expr tk P i).2.1 + 1)).1, (expr tk P ((expr tk P i).2.1 + 1)).2.1, (expr tk P i).2.2 ++ (expr tk P ((expr tk P i).2.1 + 1)).2.2) = 0 from rv_0 (r := ((expr tk P ((expr tk P i).2.1 + 1)).1, (expr tk P ((expr tk P i).2.1 + 1)).2.1, (expr tk P i).2.2 ++ (expr tk P ((expr tk P i).2.1 + 1)).2.2)) hr2]
  · rw [pBd_er hr]
    refine ⟨c2, ?_, f2, fun g => absurd g hr, t2⟩
    (try rw [c77 (hg := gC122 hs c)]); (try rw [fC122 hs _ (by decide)]); (try rw [bnd_s]); (try rw [hE.1.1]); (try rw [fC122 hs _ (by decide)]); (try rw [bnd_s]); (try rw [hk.1]); (try rw [aC124 hs _ hi.1 (by omega)]); (try rw [bnd_s]); (try rw [htk]); (try rw [if_neg h7]); (try rw [r2]); (try rw [bnd_s]); (try rw [tI_m]); (try rw [bnd_s]); (try rw [rv_0 hr]); (try rw [if_pos rfl])
theorem k77 {s : List (Nat × Nat)} {tk nv st : Int → Int} {K : Int} (hs : SpL s) (hz : tk K = 0) : ∀ m : Nat, m ≤ 8 → KQ s tk nv st K (5 * m + 5) 77 [vI (8 - (m : Int))] (cmpP tk nv m) := by
  intro m
  induction m with
  | zero =>
    intro hm d c i X hE hk
    have hi := hk.2.1
    have hK := hE.2.2.1
    have htk := tkr hE hk
    show ∃ c', Cd (d + 4 + 1 + 1) 77 [vA 122, vI 8] (s, c) = some ([vI (rv (cmpP tk nv 0 i))], (s, c')) ∧ KR st K c c' X (cmpP tk nv 0 i)
    by_cases h : tk i = 7
    · have e : cmpP tk nv 0 i = pEr 3 i := by unfold cmpP; rw [if_pos h]
      obtain ⟨c', r, q⟩ := k70 (d + 4) hs hE hk (e := 3) (by decide)
      rw [e]
      refine ⟨c', ?_, q⟩
      (try rw [c77 (hg := gC122 hs c)]); (try rw [fC122 hs _ (by decide)]); (try rw [bnd_s]); (try rw [hE.1.1]); (try rw [fC122 hs _ (by decide)]); (try rw [bnd_s]); (try rw [hk.1]); (try rw [aC124 hs _ hi.1 (by omega)]); (try rw [bnd_s]); (try rw [htk]); (try rw [if_pos h]); (try rw [if_neg (by decide)]); (try rw [r]); (try rw [bnd_s]); (try rw [tI_m]); (try rw [bnd_s]); (try rw [if_pos (Or.inl rfl)]); (try rfl)
    · have e : cmpP tk nv 0 i = cmpE tk (fac tk nv 0) i := by unfold cmpP; rw [if_neg h]
      rw [e]
      exact k77_c d 4 hs hz (expr_w hz (fac_w hz (nv := nv) 0)) (k78a hs hz 0 hm) hE hk h
  | succ m ih =>
    intro hm d c i X hE hk
    have ih := ih (by omega)
    have hi := hk.2.1
    have hK := hE.2.2.1
    have htk := tkr hE hk
    have hXl := hk.2.2.2.1
    rw [show d + (5 * (m + 1) + 5) + 1 = d + (5 * m + 9) + 1 + 1 by omega, show (8 : Int) - ((m + 1 : Nat) : Int) = 7 - (m : Int) by omega]
    have e8 : w32 (7 - (m : Int) + 1) = 8 - (m : Int) := by rw [w32_id (by omega) (by omega)]; omega
    by_cases h : tk i = 7
    · obtain ⟨c1, r1, f1, s1⟩ := k71 (d + (5 * m + 9)) hs hE hk (by rw [h]; decide)
      have E1 := EV_of hE f1
      obtain ⟨c2, r2, f2, s2, t2⟩ := KQ_up ih (show 5 * m + 5 ≤ 5 * m + 9 by omega) d c1 (i + 1) X E1 s1
      have E2 := EV_of E1 f2
      have w := cmpP_w hz (nv := nv) m (i + 1) (by omega) s1.2.1.2
      have e : cmpP tk nv (m + 1) i = pBd (cmpP tk nv m (i + 1)) (fun j => pOk j [(20, 0)]) := by rw [cmpP, if_pos h]
      rw [e]
      by_cases hr : (cmpP tk nv m (i + 1)).1 = 0
      · rw [pBd_s hr]
        have s2 := s2 hr
        have w3 := w.2.1 hr
        obtain ⟨c3, r3, f3, s3⟩ := k26 (d + (5 * m + 9)) hs E2 s2 (20, 0) (a := 7) (b := 0) (by rw [List.length_append]; omega) rfl (fun g => rfl)
        refine ⟨c3, ?_, (f1.tr f2).tr f3, fun _ => ?_, fun g => absurd rfl g⟩
        · (try rw [c77 (hg := gC122 hs c)]); (try rw [fC122 hs _ (by decide)]); (try rw [bnd_s]); (try rw [hE.1.1]); (try rw [fC122 hs _ (by decide)]); (try rw [bnd_s]); (try rw [hk.1]); (try rw [aC124 hs _ hi.1 (by omega)]); (try rw [bnd_s]); (try rw [htk]); (try rw [if_pos h]); (try rw [if_pos (by omega)]); (try rw [r1]); (try rw [bnd_s]); (try rw [tV_m]); (try rw [bnd_s]); (try rw [e8]); (try rw [r2]); (try rw [bnd_s]); (try rw [tI_m]); (try rw [bnd_s]); (try rw [rv_1 hr]); (try rw [if_neg (show ¬ (1 : Int) = 0 by decide)]); (try rw [fC122 hs _ (by decide)]); (try rw [bnd_s]); (try rw [E2.1.2.2.2.1]); (try rw [r3]); (try rw [bnd_s]); (try rw [tV_m]); (try rw [bnd_s]); (try rfl)
        · show KS K c3 _ (X ++ ((cmpP tk nv m (i + 1)).2.2 ++ [(20, 0)]))
          rw [← List.append_assoc]; exact s3
      · rw [pBd_er hr]
        refine ⟨c2, ?_, f1.tr f2, fun g => absurd g hr, t2⟩
        (try rw [c77 (hg := gC122 hs c)]); (try rw [fC122 hs _ (by decide)]); (try rw [bnd_s]); (try rw [hE.1.1]); (try rw [fC122 hs _ (by decide)]); (try rw [bnd_s]); (try rw [hk.1]); (try rw [aC124 hs _ hi.1 (by omega)]); (try rw [bnd_s]); (try rw [htk]); (try rw [if_pos h]); (try rw [if_pos (by omega)]); (try rw [r1]); (try rw [bnd_s]); (try rw [tV_m]); (try rw [bnd_s]); (try rw [e8]); (try rw [r2]); (try rw [bnd_s]); (try rw [tI_m]); (try rw [bnd_s]); (try rw [rv_0 hr]); (try rw [if_pos rfl])
    · have e : cmpP tk nv (m + 1) i = cmpE tk (fac tk nv (m + 1)) i := by rw [cmpP, if_neg h]
      rw [e]
      have H := KQ_up (k78a (st := st) hs hz (nv := nv) (m + 1) hm) (show 4 * (m + 1) + 4 ≤ 5 * m + 9 by omega)
      rw [show (8 : Int) - ((m + 1 : Nat) : Int) = 7 - (m : Int) by omega] at H
      exact k77_c d (5 * m + 9) hs hz (expr_w hz (fac_w hz (nv := nv) (m + 1))) H hE hk h
/-- what judge says, as the class reads it -/
theorem k75a {s : List (Nat × Nat)} {tk nv st : Int → Int} {K : Int} (hs : SpL s) (hz : tk K = 0) : KQ s tk nv st K 47 75 [] (orP tk nv) :=
  k75 46 hs hz (andP_w hz) (k76 45 hs hz (cmpP_w hz 8) (k77 hs hz 8 (by decide)))
