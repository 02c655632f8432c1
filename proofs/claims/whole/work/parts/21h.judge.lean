/-! what judge says, as the reference reads it -/
def QR (T : Int → Int) (n K : Int) (k : Nat) (c c' : Nat → Nat → Int) (X : List (Int × Int)) (r : Rs) : Prop := FM k c c' ∧ (r.1 ≠ 0 → MT T n r.2.1 c') ∧ (r.1 = 0 → MA T n K k c' r.2.1 0 (X ++ r.2.2))
def rn (m : Nat) : List (Int × Int) := List.replicate m (20, 0)
section
variable {s : List (Nat × Nat)} {T : Int → Int} {n K : Int} {k : Nat}
theorem m213 (d : Nat) (hs : SpL s) {c : Nat → Nat → Int} {i : Int} (h : MT T n i c) : Cd (d + 1) 213 [vA 142] (s, c) = some ([vI (cmpO (tkA T n i))], (s, c)) := by
  have hr := MT_tr h
  have e1 := TkR_g hr 60 (by omega)
  have e2 := TkR_g hr 4 (by omega)
  have e3 := TkR_g hr 62 (by omega)
  have e4 := TkR_g hr 5 (by omega)
  have e5 := TkR_g hr 61 (by omega)
  have e6 := TkR_g hr 35 (by omega)
  rw [c213 (hg := gC142 hs c), fC142 hs _ (by decide), bnd_s]
  unfold cmpO
  by_cases g1 : tkA T n i = 60
  · rw [if_pos (e1.mpr g1), c213_37, if_pos g1]
  · rw [if_neg (fun w => g1 (e1.mp w)), bnd_s, if_neg g1]
    by_cases g2 : tkA T n i = 4
    · rw [if_pos (e2.mpr g2), c213_37, if_pos g2]
    · rw [if_neg (fun w => g2 (e2.mp w)), bnd_s, if_neg g2]
      by_cases g3 : tkA T n i = 62
      · rw [if_pos (e3.mpr g3), c213_37, if_pos g3]
      · rw [if_neg (fun w => g3 (e3.mp w)), bnd_s, if_neg g3]
        by_cases g4 : tkA T n i = 5
        · rw [if_pos (e4.mpr g4), c213_37, if_pos g4]
        · rw [if_neg (fun w => g4 (e4.mp w)), bnd_s, if_neg g4]
          by_cases g5 : tkA T n i = 61
          · rw [if_pos (e5.mpr g5), c213_37, if_pos g5]
          · rw [if_neg (fun w => g5 (e5.mp w)), bnd_s, if_neg g5]
            by_cases g6 : tkA T n i = 35
            · rw [if_pos (e6.mpr g6), c213_37, if_pos g6]
            · rw [if_neg (fun w => g6 (e6.mp w)), c213_37, if_neg g6]
theorem m203a (d : Nat) (hs : SpL s) (hk : k < 8) {c : Nat → Nat → Int} (hE : EM T n k c) {i o : Int} {X : List (Int × Int)} (h : MA T n K k c i o X) (hK : K ≤ 300) (q : Int × Int) (hl : (X.length : Int) + 1 ≤ i) : ∃ c', Cd (d + 1) 203 [vA 142, vI q.1, vI q.2] (s, c) = some ([], (s, c')) ∧ FQ k c c' ∧ MA T n K k c' i o (X ++ [q]) := by
  obtain ⟨h1, h2, h3, h4, h5, h6⟩ := h
  have f : FQ k c (u2 (u2 (u2 c 145 (800 * k + 10 + 2 * X.length) q.1) 145 (800 * k + 11 + 2 * X.length) q.2) 142 19 ((X.length : Int) + 1)) := fun o' j g1 g2 g3 => by rw [u2_n (by omega), u2_n (by omega), u2_n (by omega)]
  refine ⟨_, ?_, f, MT_fq f h1, h2, ?_, ?_, StpM_a h5 q (fun j hj => by rw [u2_n (by omega), u2_n (by omega), u2_n (by omega)]) (by rw [u2_n (by omega), u2_n (by omega), u2_e]) (by rw [u2_n (by omega), u2_e]), ?_⟩
  · have i1 : (800 * (k : Int) + 10 + 2 * (X.length : Int)).toNat = 800 * k + 10 + 2 * X.length := by omega
    have i2 : (800 * (k : Int) + 10 + 2 * (X.length : Int) + 1).toNat = 800 * k + 11 + 2 * X.length := by omega
    rw [c203 (hg := gC142 hs c)]
    repeat (first | rw [bnd_s] | rw [fC142 hs _ (by decide)] | rw [pC142 hs _ _ (by decide)] | rw [u2_n (by omega)] | rw [hE.1] | rw [hE.2.2.1] | rw [h4] | rw [w32_id (z := 800 * (k : Int) + 10) (by omega) (by omega)] | rw [w32_id (z := 2 * (X.length : Int)) (by omega) (by omega)] | rw [w32_id (z := 800 * (k : Int) + 10 + 2 * (X.length : Int)) (by omega) (by omega)] | rw [w32_id (z := 800 * (k : Int) + 10 + 2 * (X.length : Int) + 1) (by omega) (by omega)] | rw [qC145 hs _ _ (show (0 : Int) ≤ 800 * (k : Int) + 10 + 2 * (X.length : Int) by omega) (by omega)] | rw [qC145 hs _ _ (show (0 : Int) ≤ 800 * (k : Int) + 10 + 2 * (X.length : Int) + 1 by omega) (by omega)] | rw [i1] | rw [i2] | rw [w32_id (z := (X.length : Int) + 1) (by omega) (by omega)])
  · rw [u2_n (by omega), u2_n (by omega), u2_n (by omega)]; exact h3
  · rw [u2_e, List.length_append]; simp
  · rw [List.length_append]; simp only [List.length_cons, List.length_nil]; omega
theorem m198a (d : Nat) (hs : SpL s) (hz : tkA T n K = 0) {c : Nat → Nat → Int} (hE : EM T n k c) {i o : Int} {X : List (Int × Int)} (h : MA T n K k c i o X) (ht : tkA T n i ≠ 0) : ∃ c', Cd (d + 4) 198 [vA 142] (s, c) = some ([], (s, c')) ∧ FTk c c' ∧ MA T n K k c' (i + 1) o X := by
  obtain ⟨h1, h2, h3, h4, h5, h6⟩ := h
  have hlt := tk_lt hz h2.2 ht
  obtain ⟨c', r, f, p⟩ := m198n d hs hE.2.2.2 h2.1 h1 ht
  exact ⟨c', r, f, p, ⟨by omega, hlt⟩, by rw [f 142 23 (by omega)]; exact h3, by rw [f 142 19 (by omega)]; exact h4, fun j q hq => by rw [f 145 _ (by omega), f 145 _ (by omega)]; exact h5 j q hq, by omega⟩
theorem m214_60 (d : Nat) (hs : SpL s) (hk : k < 8) (hK : K ≤ 300) {j : Nat} (o2 o3 : Option AV) {i o : Int} : ∀ (m v : Nat) (c : Nat → Nat → Int) (X : List (Int × Int)), v + m = j → j ≤ 8 → EM T n k c → MA T n K k c i o X → (X.length : Int) + (m : Int) ≤ i → ∃ c', Rr (Cd (d + 1)) 214 60 [some (vA 142), some (vI (j : Int)), o2, o3, some (vI (v : Int))] [] (s, c) = some ([vI 0], (s, c')) ∧ FM k c c' ∧ MA T n K k c' i o (X ++ rn m) := by
  intro m
  induction m with
  | zero =>
    intro v c X hv hj hE h hl
    refine ⟨c, ?_, FM.rf k c, by rw [show X ++ rn 0 = X from List.append_nil X]; exact h⟩
    rw [c214_60, if_neg (by omega)]
  | succ m ih =>
    intro v c X hv hj hE h hl
    obtain ⟨c1, r1, f1, p1⟩ := m203a d hs hk hE h hK (20, 0) (by omega)
    obtain ⟨c2, r2', f2, p2⟩ := ih (v + 1) c1 (X ++ [(20, 0)]) (by omega) hj (EM_of f1.fm hE) p1 (by rw [List.length_append]; simp only [List.length_cons, List.length_nil]; omega)
    refine ⟨c2, ?_, f1.fm.tr f2, ?_⟩
    · have ew : w32 ((v : Int) + 1) = ((v + 1 : Nat) : Int) := by rw [w32_id (by omega) (by omega)]; omega
      (try rw [c214_60]); (try rw [if_pos (show (v : Int) < (j : Int) by omega)]); (try rw [r1]); (try rw [bnd_s]); (try rw [tV_m]); (try rw [bnd_s]); (try rw [ew]); (try rw [r2'])
    · have e : X ++ [(20, 0)] ++ rn m = X ++ rn (m + 1) := by
        show X ++ [(20, 0)] ++ rn m = X ++ ((20, 0) :: rn m)
        simp only [List.append_assoc, List.singleton_append]
      rw [e] at p2; exact p2
theorem m214_l (d : Nat) (hs : SpL s) (hk : k < 8) (hz : tkA T n K = 0) (hK : K ≤ 300) : ∀ (m j : Nat), m + j = 8 → ∀ (c : Nat → Nat → Int) (i : Int) (X : List (Int × Int)) (o2 o3 o4 : Option AV), EM T n k c → MA T n K k c i (j : Int) X → (X.length : Int) + (j : Int) ≤ i → ∃ c', Rr (Cd (d + 7)) 214 2 [some (vA 142), some (vI (j : Int)), o2, o3, o4] [] (s, c) = some ([vI (cmpP (tkA T n) (nvA T n) m i).1], (s, c')) ∧ FM k c c' ∧ ((cmpP (tkA T n) (nvA T n) m i).1 ≠ 0 → MT T n (cmpP (tkA T n) (nvA T n) m i).2.1 c') ∧ ((cmpP (tkA T n) (nvA T n) m i).1 = 0 → MA T n K k c' (cmpP (tkA T n) (nvA T n) m i).2.1 0 (X ++ (cmpP (tkA T n) (nvA T n) m i).2.2 ++ rn j)) := by
  have cmp : ∀ (m j : Nat), m + j = 8 → ∀ (c : Nat → Nat → Int) (i : Int) (X : List (Int × Int)) (o2 o3 o4 : Option AV), EM T n k c → MA T n K k c i (j : Int) X → (X.length : Int) + (j : Int) ≤ i → tkA T n i ≠ 7 → ∃ c', Rr (Cd (d + 7)) 214 2 [some (vA 142), some (vI (j : Int)), o2, o3, o4] [] (s, c) = some ([vI (cmpE (tkA T n) (fac (tkA T n) (nvA T n) m) i).1], (s, c')) ∧ FM k c c' ∧ ((cmpE (tkA T n) (fac (tkA T n) (nvA T n) m) i).1 ≠ 0 → MT T n (cmpE (tkA T n) (fac (tkA T n) (nvA T n) m) i).2.1 c') ∧ ((cmpE (tkA T n) (fac (tkA T n) (nvA T n) m) i).1 = 0 → MA T n K k c' (cmpE (tkA T n) (fac (tkA T n) (nvA T n) m) i).2.1 0 (X ++ (cmpE (tkA T n) (fac (tkA T n) (nvA T n) m) i).2.2 ++ rn j)) := by
    intro m j hmj c i X o2 o3 o4 hE h hl h7
    have hi := h.2.1
    have hw := expr_w hz (fac_w hz (nv := nvA T n) m)
    obtain ⟨c1, r1, f1, e1, a1⟩ := m212 d hs hk hz hK hE (m := m) (o := (j : Int)) (by omega) (by omega) h
    have E1 := EM_of f1 hE
    have q2 : Cd (d + 7) 202 [vA 142, vL 7237492] (s, c) = some ([vI (b2i false)], (s, c)) := by
      rw [m202w (d + 6) hs h.1 (x := 7) (y := 7237492) (by omega) (fun w => wc_7), decide_eq_false h7]
    have st : ∀ R, (if (expr (tkA T n) (fac (tkA T n) (nvA T n) m) i).1 = 0 then ((Cd (d + 7) 213 [vA 142] (s, c1)).bind toI).bind fun q4 => (if q4.1 < 0 then some ([vI 1], q4.2) else ((Cd (d + 7) 198 [vA 142] q4.2).bind toV).bind fun q5 => ((Cd (d + 7) 212 [vA 142] q5).bind toI).bind fun q6 => (if q6.1 = 0 then ((Cd (d + 7) 203 [vA 142, vI q4.1, vI 0] q6.2).bind toV).bind fun q7 => (gF q7 12 23 142).bind fun x8 => (pF q7 12 23 142 (w32 (x8 - (j : Int)))).bind fun h9 => Rr (Cd (d + 7)) 214 60 [some (vA 142), some (vI (j : Int)), some (vI q6.1), some (vI q4.1), some (vI 0)] [] h9 else some ([vI q6.1], q6.2))) else some ([vI (expr (tkA T n) (fac (tkA T n) (nvA T n) m) i).1], (s, c1))) = R → Rr (Cd (d + 7)) 214 2 [some (vA 142), some (vI (j : Int)), o2, o3, o4] [] (s, c) = R := fun R hR => by
      (try rw [c214_2]); (try rw [w_not]); (try rw [bnd_s]); (try rw [tL_m]); (try rw [bnd_s]); (try rw [q2]); (try rw [bnd_s]); (try rw [tI_m]); (try rw [bnd_s]); (try rw [if_pos (show b2i false = 0 from rfl)]); (try rw [r1]); (try rw [bnd_s]); (try rw [tI_m]); (try rw [bnd_s])
      exact hR
    unfold cmpE
    by_cases hr : (expr (tkA T n) (fac (tkA T n) (nvA T n) m) i).1 = 0
    · rw [pBd_s hr]
      have a1 := a1 hr
      have w1 := (hw i hi.1 hi.2).2.1 hr
      by_cases hc : cmpO (tkA T n (expr (tkA T n) (fac (tkA T n) (nvA T n) m) i).2.1) < 0
      · simp only [if_pos hc]
        refine ⟨c1, st _ ?_, f1, fun _ => a1.1, fun g => absurd g (by show ¬ (1 : Int) = 0; decide)⟩
        (try rw [if_pos hr]); (try rw [m213 (d + 6) hs a1.1]); (try rw [bnd_s]); (try rw [tI_m]); (try rw [bnd_s]); (try rw [if_pos hc]); (try rfl)
      · simp only [if_neg hc]
        obtain ⟨c2, r2', f2, a2⟩ := m198a (d + 3) hs hz E1 a1 (cmpO_z hc)
        have E2 := EM_of (f2.fm k) E1
        obtain ⟨c3, r3, f3, e3, a3⟩ := m212 d hs hk hz hK E2 (m := m) (o := (j : Int)) (by omega) (by omega) a2
        have E3 := EM_of f3 E2
        by_cases hr2 : (expr (tkA T n) (fac (tkA T n) (nvA T n) m) ((expr (tkA T n) (fac (tkA T n) (nvA T n) m) i).2.1 + 1)).1 = 0
        · rw [pBd_s hr2]
          have a3 := a3 hr2
          have w2 := (hw _ a2.2.1.1 a2.2.1.2).2.1 hr2
          obtain ⟨c4, r4, f4, a4⟩ := m203a (d + 6) hs hk E3 a3 hK (cmpO (tkA T n (expr (tkA T n) (fac (tkA T n) (nvA T n) m) i).2.1), 0) (by rw [List.length_append, List.length_append]; omega)
          have E4 := EM_of f4.fm E3
          have f5 : FQ k c4 (u2 c4 142 23 0) := (FQ.rf k c4).u _ (by omega)
          have a5 : MA T n K k (u2 c4 142 23 0) _ 0 _ := ⟨MT_fq f5 a4.1, a4.2.1, u2_e _ _ _ _, by rw [u2_n (by omega)]; exact a4.2.2.2.1, fun j q hq => by rw [u2_n (by omega), u2_n (by omega)]; exact a4.2.2.2.2.1 j q hq, a4.2.2.2.2.2⟩
          obtain ⟨c6, r6, f6, a6⟩ := m214_60 (d + 6) hs hk hK (j := j) (some (vI 0)) (some (vI (cmpO (tkA T n (expr (tkA T n) (fac (tkA T n) (nvA T n) m) i).2.1)))) j 0 (u2 c4 142 23 0) _ (by omega) (by omega) (EM_of f5.fm E4) a5 (by rw [List.length_append, List.length_append, List.length_append]; simp only [List.length_cons, List.length_nil]; omega)
          refine ⟨c6, st _ ?_, ((((f1.tr (f2.fm k)).tr f3).tr f4.fm).tr f5.fm).tr f6, fun g => absurd rfl g, fun _ => ?_⟩
          · have e0 : w32 ((j : Int) - (j : Int)) = 0 := by rw [show (j : Int) - (j : Int) = 0 by omega]; rfl
            (try rw [if_pos hr]); (try rw [m213 (d + 6) hs a1.1]); (try rw [bnd_s]); (try rw [tI_m]); (try rw [bnd_s]); (try rw [if_neg hc]); (try rw [r2']); (try rw [bnd_s]); (try rw [tV_m]); (try rw [bnd_s]); (try rw [r3]); (try rw [bnd_s]); (try rw [tI_m]); (try rw [bnd_s]); (try rw [if_pos hr2]); (try rw [r4]); (try rw [bnd_s]); (try rw [tV_m]); (try rw [bnd_s]); (try rw [fC142 hs _ (by decide)]); (try rw [bnd_s]); (try rw [a4.2.2.1]); (try rw [pC142 hs _ _ (by decide)]); (try rw [bnd_s]); (try rw [e0]); (try rw [hr2])
            exact r6
          · have q := a6
            simp only [List.append_assoc] at q ⊢
            exact q
        · rw [pBd_er hr2]
          refine ⟨c3, st _ ?_, (f1.tr (f2.fm k)).tr f3, fun _ => e3 hr2, fun g => absurd g hr2⟩
          (try rw [if_pos hr]); (try rw [m213 (d + 6) hs a1.1]); (try rw [bnd_s]); (try rw [tI_m]); (try rw [bnd_s]); (try rw [if_neg hc]); (try rw [r2']); (try rw [bnd_s]); (try rw [tV_m]); (try rw [bnd_s]); (try rw [r3]); (try rw [bnd_s]); (try rw [tI_m]); (try rw [bnd_s]); (try rw [if_neg hr2])
    · rw [pBd_er hr]
      refine ⟨c1, st _ ?_, f1, e1, fun g => absurd g hr⟩
      rw [if_neg hr]
  intro m
  induction m with
  | zero =>
    intro j hmj c i X o2 o3 o4 hE h hl
    by_cases h7 : tkA T n i = 7
    · have e : cmpP (tkA T n) (nvA T n) 0 i = pEr 3 i := by unfold cmpP; rw [if_pos h7]
      rw [e]
      have q2 : Cd (d + 7) 202 [vA 142, vL 7237492] (s, c) = some ([vI (b2i true)], (s, c)) := by
        rw [m202w (d + 6) hs h.1 (x := 7) (y := 7237492) (by omega) (fun w => wc_7), decide_eq_true h7]
      refine ⟨c, ?_, FM.rf k c, fun _ => h.1, fun g => absurd g (by show ¬ (3 : Int) = 0; decide)⟩
      (try rw [c214_2]); (try rw [w_not]); (try rw [bnd_s]); (try rw [tL_m]); (try rw [bnd_s]); (try rw [q2]); (try rw [bnd_s]); (try rw [tI_m]); (try rw [bnd_s]); (try rw [if_neg (show ¬ b2i true = 0 by decide)]); (try rw [fC142 hs _ (by decide)]); (try rw [bnd_s]); (try rw [h.2.2.1]); (try rw [if_pos (show (j : Int) = 8 by omega)]); (try rfl)
    · have e : cmpP (tkA T n) (nvA T n) 0 i = cmpE (tkA T n) (fac (tkA T n) (nvA T n) 0) i := by unfold cmpP; rw [if_neg h7]
      rw [e]
      exact cmp 0 j hmj c i X o2 o3 o4 hE h hl h7
  | succ m ih =>
    intro j hmj c i X o2 o3 o4 hE h hl
    by_cases h7 : tkA T n i = 7
    · have e : cmpP (tkA T n) (nvA T n) (m + 1) i = pBd (cmpP (tkA T n) (nvA T n) m (i + 1)) (fun j => pOk j [(20, 0)]) := by rw [cmpP, if_pos h7]
      rw [e]
      have q2 : Cd (d + 7) 202 [vA 142, vL 7237492] (s, c) = some ([vI (b2i true)], (s, c)) := by
        rw [m202w (d + 6) hs h.1 (x := 7) (y := 7237492) (by omega) (fun w => wc_7), decide_eq_true h7]
      have f1 : FQ k c (u2 c 142 23 ((j + 1 : Nat) : Int)) := (FQ.rf k c).u _ (by omega)
      have a1 : MA T n K k (u2 c 142 23 ((j + 1 : Nat) : Int)) i ((j + 1 : Nat) : Int) X := ⟨MT_fq f1 h.1, h.2.1, u2_e _ _ _ _, by rw [u2_n (by omega)]; exact h.2.2.2.1, fun j q hq => by rw [u2_n (by omega), u2_n (by omega)]; exact h.2.2.2.2.1 j q hq, h.2.2.2.2.2⟩
      have E1 := EM_of f1.fm hE
      obtain ⟨c2, r2', f2, a2⟩ := m198a (d + 3) hs hz E1 a1 (by rw [h7]; decide)
      obtain ⟨c3, r3, f3, e3, a3⟩ := ih (j + 1) (by omega) c2 (i + 1) X o2 o3 o4 (EM_of (f2.fm k) E1) a2 (by omega)
      have ew : w32 ((j : Int) + 1) = ((j + 1 : Nat) : Int) := by rw [w32_id (by omega) (by omega)]; omega
      have st : Rr (Cd (d + 7)) 214 2 [some (vA 142), some (vI (j : Int)), o2, o3, o4] [] (s, c) = some ([vI (cmpP (tkA T n) (nvA T n) m (i + 1)).1], (s, c3)) := by
        (try rw [c214_2]); (try rw [w_not]); (try rw [bnd_s]); (try rw [tL_m]); (try rw [bnd_s]); (try rw [q2]); (try rw [bnd_s]); (try rw [tI_m]); (try rw [bnd_s]); (try rw [if_neg (show ¬ b2i true = 0 by decide)]); (try rw [fC142 hs _ (by decide)]); (try rw [bnd_s]); (try rw [h.2.2.1]); (try rw [if_neg (show ¬ (j : Int) = 8 by omega)]); (try rw [fC142 hs _ (by decide)]); (try rw [bnd_s]); (try rw [h.2.2.1]); (try rw [pC142 hs _ _ (by decide)]); (try rw [bnd_s]); (try rw [ew]); (try rw [r2']); (try rw [bnd_s]); (try rw [tV_m]); (try rw [bnd_s]); (try rw [r3])
      by_cases hr : (cmpP (tkA T n) (nvA T n) m (i + 1)).1 = 0
      · rw [pBd_s hr]
        refine ⟨c3, by rw [st, hr]; rfl, (f1.fm.tr (f2.fm k)).tr f3, fun g => absurd rfl g, fun _ => ?_⟩
        have q := a3 hr
        have eq : X ++ (cmpP (tkA T n) (nvA T n) m (i + 1)).2.2 ++ rn (j + 1) = X ++ ((cmpP (tkA T n) (nvA T n) m (i + 1)).2.2 ++ [(20, 0)]) ++ rn j := by
          show X ++ (cmpP (tkA T n) (nvA T n) m (i + 1)).2.2 ++ ((20, 0) :: rn j) = _
          simp only [List.append_assoc, List.singleton_append]
        rw [eq] at q; exact q
      · rw [pBd_er hr]
        exact ⟨c3, st, (f1.fm.tr (f2.fm k)).tr f3, e3, fun g => absurd g hr⟩
    · have e : cmpP (tkA T n) (nvA T n) (m + 1) i = cmpE (tkA T n) (fac (tkA T n) (nvA T n) (m + 1)) i := by rw [cmpP, if_neg h7]
      rw [e]
      exact cmp (m + 1) j hmj c i X o2 o3 o4 hE h hl h7
theorem m214 (d : Nat) (hs : SpL s) (hk : k < 8) (hz : tkA T n K = 0) (hK : K ≤ 300) {c : Nat → Nat → Int} {i : Int} {X : List (Int × Int)} (hE : EM T n k c) (h : MA T n K k c i 0 X) : ∃ c', Cd (d + 8) 214 [vA 142] (s, c) = some ([vI (cmpP (tkA T n) (nvA T n) 8 i).1], (s, c')) ∧ QR T n K k c c' X (cmpP (tkA T n) (nvA T n) 8 i) := by
  obtain ⟨c', r, f, e, a⟩ := m214_l d hs hk hz hK 8 0 rfl c i X none none none hE h (by have := h.2.2.2.2.2; omega)
  refine ⟨c', ?_, f, e, fun g => ?_⟩
  · rw [c214 (hg := gC142 hs c)]; exact r
  · have := a g
    rw [show rn 0 = [] from rfl, List.append_nil] at this
    exact this
/-- behind one thing asked: and, or, or the end -/
theorem t_21 (d : Nat) (hs : SpL s) {c : Nat → Nat → Int} {j v2 : Int} (h : MT T n j c) (o1 o3 o4 o5 : Option AV) : Rr (Cd (d + 8)) 215 21 [some (vA 142), o1, some (vI v2), o3, o4, o5] [] (s, c) = Rr (Cd (d + 8)) 215 40 [some (vA 142), some (vI (b2i (decide (tkA T n j = 8)))), some (vI v2), o3, o4, o5] [vI (b2i (decide (tkA T n j = 9)))] (s, c) := by
  have hr := MT_tr h
  have e9 := TkR_w hr (x := 9) (y := 28530) (by omega) wc_9
  have q2 := m202w (d + 7) hs h (x := 8) (y := 6385252) (by omega) (fun w => wc_8)
  (try rw [c215_21]); (try rw [w_and]); (try rw [bnd_s]); (try rw [tL_m]); (try rw [bnd_s]); (try rw [q2]); (try rw [bnd_s]); (try rw [tI_m]); (try rw [bnd_s]); (try rw [fC142 hs _ (by decide)]); (try rw [bnd_s])
  by_cases g : c 142 14 = 2
  · rw [if_pos g, fC142 hs _ (by decide), bnd_s]
    by_cases g2 : c 142 16 = 28530
    · rw [if_pos ((lcmp_eq _ _).mpr g2), decide_eq_true (e9.mp ⟨g, g2⟩)]; rfl
    · rw [if_neg (fun w => g2 ((lcmp_eq _ _).mp w)), c215_39, decide_eq_false (fun w => g2 (e9.mpr w).2)]; rfl
  · rw [if_neg g, c215_39, decide_eq_false (fun w => g (e9.mpr w).1)]; rfl
def ofl (v q : Int) : List (Int × Int) := if v = 0 then [] else [(q, 0)]
theorem ofl_l (v q : Int) (hv : v = 0 ∨ v = 1) : ((ofl v q).length : Int) = v := by
  unfold ofl
  rcases hv with e | e
  · rw [if_pos e, e]; rfl
  · rw [if_neg (by omega), e]; rfl
/-- one thing asked is read; then the tail -/
theorem t_6 (d : Nat) (hs : SpL s) (hk : k < 8) (hz : tkA T n K = 0) (hK : K ≤ 300) {c : Nat → Nat → Int} {i v1 v2 : Int} {X : List (Int × Int)} (hE : EM T n k c) (h : MA T n K k c i 0 X) (h1 : v1 = 0 ∨ v1 = 1) (hl : (X.length : Int) + v1 ≤ i) (o4 o5 : Option AV) : ((cmpP (tkA T n) (nvA T n) 8 i).1 ≠ 0 ∧ ∃ c', Rr (Cd (d + 8)) 215 6 [some (vA 142), some (vI v1), some (vI v2), some (vI 1), o4, o5] [] (s, c) = some ([vI (cmpP (tkA T n) (nvA T n) 8 i).1], (s, c')) ∧ FM k c c' ∧ MT T n (cmpP (tkA T n) (nvA T n) 8 i).2.1 c') ∨ ((cmpP (tkA T n) (nvA T n) 8 i).1 = 0 ∧ ∃ c', Rr (Cd (d + 8)) 215 6 [some (vA 142), some (vI v1), some (vI v2), some (vI 1), o4, o5] [] (s, c) = Rr (Cd (d + 8)) 215 21 [some (vA 142), some (vI v1), some (vI v2), some (vI 1), some (vI 0), o5] [] (s, c') ∧ FM k c c' ∧ MA T n K k c' (cmpP (tkA T n) (nvA T n) 8 i).2.1 0 (X ++ (cmpP (tkA T n) (nvA T n) 8 i).2.2 ++ ofl v1 21)) := by
  obtain ⟨c1, r1, f1, e1, a1⟩ := m214 d hs hk hz hK hE h
  by_cases hr : (cmpP (tkA T n) (nvA T n) 8 i).1 = 0
  · refine Or.inr ⟨hr, ?_⟩
    have a1 := a1 hr
    have w := (cmpP_w hz (nv := nvA T n) 8 i h.2.1.1 h.2.1.2).2.1 hr
    rcases h1 with e | e
    · refine ⟨c1, ?_, f1, ?_⟩
      · (try rw [c215_6]); (try rw [if_neg (by decide)]); (try rw [r1]); (try rw [bnd_s]); (try rw [tI_m]); (try rw [bnd_s]); (try rw [if_pos hr]); (try rw [if_pos e]); (try rw [hr])
      · unfold ofl; rw [if_pos e, List.append_nil]; exact a1
    · obtain ⟨c2, r2', f2, a2⟩ := m203a (d + 7) hs hk (EM_of f1 hE) a1 hK (21, 0) (by rw [List.length_append]; omega)
      refine ⟨c2, ?_, f1.tr f2.fm, ?_⟩
      · (try rw [c215_6]); (try rw [if_neg (by decide)]); (try rw [r1]); (try rw [bnd_s]); (try rw [tI_m]); (try rw [bnd_s]); (try rw [if_pos hr]); (try rw [if_neg (show ¬ v1 = 0 by omega)]); (try rw [r2']); (try rw [bnd_s]); (try rw [tV_m]); (try rw [bnd_s]); (try rw [hr])
      · unfold ofl; rw [if_neg (by omega)]; exact a2
  · refine Or.inl ⟨hr, c1, ?_, f1, e1 hr⟩
    (try rw [c215_6]); (try rw [if_neg (by decide)]); (try rw [r1]); (try rw [bnd_s]); (try rw [tI_m]); (try rw [bnd_s]); (try rw [if_neg hr])
/-- at and: on to the next -/
theorem t_and (d : Nat) (hs : SpL s) (hz : tkA T n K = 0) {c : Nat → Nat → Int} {j v2 : Int} {X : List (Int × Int)} (hE : EM T n k c) (h : MA T n K k c j 0 X) (h8 : tkA T n j = 8) (o1 o3 o4 o5 : Option AV) : ∃ c', Rr (Cd (d + 8)) 215 21 [some (vA 142), o1, some (vI v2), o3, o4, o5] [] (s, c) = Rr (Cd (d + 8)) 215 6 [some (vA 142), some (vI 1), some (vI v2), some (vI 1), o4, some (vI 0)] [] (s, c') ∧ FM k c c' ∧ MA T n K k c' (j + 1) 0 X := by
  obtain ⟨c1, r1, f1, a1⟩ := m198a (d + 4) hs hz hE h (by rw [h8]; decide)
  refine ⟨c1, ?_, f1.fm k, a1⟩
  (try rw [t_21 d hs h.1]); (try rw [decide_eq_true h8]); (try rw [decide_eq_false (show ¬ tkA T n j = 9 by omega)]); (try rw [show b2i true = 1 from rfl]); (try rw [show b2i false = 0 from rfl]); (try rw [c215_40]); (try rw [if_neg (by decide)]); (try rw [c215_51]); (try rw [if_neg (by decide)]); (try rw [c215_55]); (try rw [c215_58]); (try rw [if_neg (by decide)]); (try rw [r1]); (try rw [bnd_s]); (try rw [tV_m]); (try rw [bnd_s]); (try rw [c215_63])
/-- at or: on to the next; else the end -/
theorem t_or (d : Nat) (hs : SpL s) (hk : k < 8) (hz : tkA T n K = 0) (hK : K ≤ 300) {c : Nat → Nat → Int} {j v2 : Int} {X : List (Int × Int)} (hE : EM T n k c) (h : MA T n K k c j 0 X) (h8 : tkA T n j ≠ 8) (h2 : v2 = 0 ∨ v2 = 1) (hl : (X.length : Int) + v2 ≤ j) (o1 o3 o4 o5 : Option AV) : (tkA T n j = 9 ∧ ∃ c', Rr (Cd (d + 8)) 215 21 [some (vA 142), o1, some (vI v2), o3, o4, o5] [] (s, c) = Rr (Cd (d + 8)) 215 6 [some (vA 142), some (vI 0), some (vI 1), some (vI 1), o4, some (vI 1)] [] (s, c') ∧ FM k c c' ∧ MA T n K k c' (j + 1) 0 (X ++ ofl v2 22)) ∨ (tkA T n j ≠ 9 ∧ ∃ c', Rr (Cd (d + 8)) 215 21 [some (vA 142), o1, some (vI v2), o3, o4, o5] [] (s, c) = some ([vI 0], (s, c')) ∧ FM k c c' ∧ MA T n K k c' j 0 (X ++ ofl v2 22)) := by
  have step : ∀ x : Int, ∃ c1, Rr (Cd (d + 8)) 215 40 [some (vA 142), some (vI 0), some (vI v2), o3, o4, o5] [vI x] (s, c) = Rr (Cd (d + 8)) 215 51 [some (vA 142), some (vI 0), some (vI x), o3, o4, some (vI x)] [] (s, c1) ∧ FM k c c1 ∧ MA T n K k c1 j 0 (X ++ ofl v2 22) := by
    intro x
    rcases h2 with e | e
    · refine ⟨c, ?_, FM.rf k c, by unfold ofl; rw [if_pos e, List.append_nil]; exact h⟩
      rw [c215_40, if_pos rfl, if_pos e, c215_49]
    · obtain ⟨c2, r2', f2, a2⟩ := m203a (d + 7) hs hk hE h hK (22, 0) (by omega)
      refine ⟨c2, ?_, f2.fm, by unfold ofl; rw [if_neg (by omega)]; exact a2⟩
      (try rw [c215_40]); (try rw [if_pos rfl]); (try rw [if_neg (show ¬ v2 = 0 by omega)]); (try rw [r2']); (try rw [bnd_s]); (try rw [tV_m]); (try rw [bnd_s]); (try rw [c215_49])
  by_cases h9 : tkA T n j = 9
  · obtain ⟨c1, r1, f1, a1⟩ := step 1
    obtain ⟨c2, r2', f2, a2⟩ := m198a (d + 4) hs hz (EM_of f1 hE) a1 (by rw [h9]; decide)
    refine Or.inl ⟨h9, c2, ?_, f1.tr (f2.fm k), a2⟩
    (try rw [t_21 d hs h.1]); (try rw [decide_eq_true h9]); (try rw [decide_eq_false h8]); (try rw [show b2i true = 1 from rfl]); (try rw [show b2i false = 0 from rfl]); (try rw [r1]); (try rw [c215_51]); (try rw [if_pos rfl]); (try rw [if_neg (by decide)]); (try rw [c215_55]); (try rw [c215_58]); (try rw [if_neg (by decide)]); (try rw [r2']); (try rw [bnd_s]); (try rw [tV_m]); (try rw [bnd_s]); (try rw [c215_63])
  · obtain ⟨c1, r1, f1, a1⟩ := step 0
    refine Or.inr ⟨h9, c1, ?_, f1, a1⟩
    rw [t_21 d hs h.1, decide_eq_false h9, decide_eq_false h8, show b2i false = 0 from rfl, r1, c215_51, if_pos rfl, if_pos rfl, c215_58, if_pos rfl, c215_63, c215_6, if_pos rfl]
/-- and, again and again -/
theorem t_andL (d : Nat) (hs : SpL s) (hk : k < 8) (hz : tkA T n K = 0) (hK : K ≤ 300) {v2 : Int} (h2 : v2 = 0 ∨ v2 = 1) : ∀ (f : Nat) (j : Int) (c : Nat → Nat → Int) (X : List (Int × Int)) (o1 o3 o4 o5 : Option AV), K ≤ j + f → EM T n k c → MA T n K k c j 0 X → (X.length : Int) + v2 ≤ j → ((andL (tkA T n) (nvA T n) f j).1 ≠ 0 ∧ ∃ c', Rr (Cd (d + 8)) 215 21 [some (vA 142), o1, some (vI v2), o3, o4, o5] [] (s, c) = some ([vI (andL (tkA T n) (nvA T n) f j).1], (s, c')) ∧ FM k c c' ∧ MT T n (andL (tkA T n) (nvA T n) f j).2.1 c') ∨ ((andL (tkA T n) (nvA T n) f j).1 = 0 ∧ tkA T n (andL (tkA T n) (nvA T n) f j).2.1 ≠ 8 ∧ ∃ c' o1' o3' o4' o5', Rr (Cd (d + 8)) 215 21 [some (vA 142), o1, some (vI v2), o3, o4, o5] [] (s, c) = Rr (Cd (d + 8)) 215 21 [some (vA 142), o1', some (vI v2), o3', o4', o5'] [] (s, c') ∧ FM k c c' ∧ MA T n K k c' (andL (tkA T n) (nvA T n) f j).2.1 0 (X ++ (andL (tkA T n) (nvA T n) f j).2.2) ∧ ((X ++ (andL (tkA T n) (nvA T n) f j).2.2).length : Int) + v2 ≤ (andL (tkA T n) (nvA T n) f j).2.1) := by
  intro f
  induction f with
  | zero =>
    intro j c X o1 o3 o4 o5 hf hE h hl
    have e : j = K := by have := h.2.1; omega
    refine Or.inr ⟨rfl, by show tkA T n j ≠ 8; rw [e, hz]; decide, c, o1, o3, o4, o5, rfl, FM.rf k c, ?_, ?_⟩
    · show MA T n K k c j 0 (X ++ []); rw [List.append_nil]; exact h
    · show ((X ++ []).length : Int) + v2 ≤ j; rw [List.append_nil]; exact hl
  | succ f ih =>
    intro j c X o1 o3 o4 o5 hf hE h hl
    by_cases h8 : tkA T n j = 8
    · obtain ⟨c1, r1, f1, a1⟩ := t_and (v2 := v2) d hs hz hE h h8 o1 o3 o4 o5
      have E1 := EM_of f1 hE
      rcases t_6 (v1 := 1) (v2 := v2) d hs hk hz hK E1 a1 (Or.inr rfl) (by omega) o4 (some (vI 0)) with ⟨hr, c2, r2', f2, e2⟩ | ⟨hr, c2, r2', f2, a2⟩
      · rw [andL_e h8 hr]
        exact Or.inl ⟨hr, c2, r1.trans r2', f1.tr f2, e2⟩
      · have w := cmpP_w hz (nv := nvA T n) 8 (j + 1) a1.2.1.1 a1.2.1.2
        have w3 := w.2.1 hr
        have e21 : ofl 1 21 = [(21, 0)] := rfl
        rw [e21] at a2
        rw [andL_s h8 hr]
        rcases ih (cmpP (tkA T n) (nvA T n) 8 (j + 1)).2.1 c2 _ (some (vI 1)) (some (vI 1)) (some (vI 0)) (some (vI 0)) (by have := w.1.1; omega) (EM_of f2 E1) a2 (by rw [List.length_append, List.length_append]; simp only [List.length_cons, List.length_nil]; omega) with ⟨hr3, c3, r3, f3, e3⟩ | ⟨hr3, n8, c3, b1, b3, b4, b5, r3, f3, a3, l3⟩
        · exact Or.inl ⟨hr3, c3, r1.trans (r2'.trans r3), (f1.tr f2).tr f3, e3⟩
        · refine Or.inr ⟨hr3, n8, c3, b1, b3, b4, b5, r1.trans (r2'.trans r3), (f1.tr f2).tr f3, ?_, ?_⟩
          · simp only [List.append_assoc] at a3 ⊢; exact a3
          · simp only [List.append_assoc] at l3 ⊢; exact l3
    · rw [andL_n h8]
      refine Or.inr ⟨rfl, h8, c, o1, o3, o4, o5, rfl, FM.rf k c, ?_, ?_⟩
      · show MA T n K k c j 0 (X ++ []); rw [List.append_nil]; exact h
      · show ((X ++ []).length : Int) + v2 ≤ j; rw [List.append_nil]; exact hl
/-- things joined by and -/
theorem t_andP (d : Nat) (hs : SpL s) (hk : k < 8) (hz : tkA T n K = 0) (hK : K ≤ 300) {v2 : Int} (h2 : v2 = 0 ∨ v2 = 1) {i : Int} {c : Nat → Nat → Int} {X : List (Int × Int)} (o4 o5 : Option AV) (hE : EM T n k c) (h : MA T n K k c i 0 X) (hl : (X.length : Int) + v2 ≤ i) : ((andP (tkA T n) (nvA T n) i).1 ≠ 0 ∧ ∃ c', Rr (Cd (d + 8)) 215 6 [some (vA 142), some (vI 0), some (vI v2), some (vI 1), o4, o5] [] (s, c) = some ([vI (andP (tkA T n) (nvA T n) i).1], (s, c')) ∧ FM k c c' ∧ MT T n (andP (tkA T n) (nvA T n) i).2.1 c') ∨ ((andP (tkA T n) (nvA T n) i).1 = 0 ∧ tkA T n (andP (tkA T n) (nvA T n) i).2.1 ≠ 8 ∧ ∃ c' o1' o3' o4' o5', Rr (Cd (d + 8)) 215 6 [some (vA 142), some (vI 0), some (vI v2), some (vI 1), o4, o5] [] (s, c) = Rr (Cd (d + 8)) 215 21 [some (vA 142), o1', some (vI v2), o3', o4', o5'] [] (s, c') ∧ FM k c c' ∧ MA T n K k c' (andP (tkA T n) (nvA T n) i).2.1 0 (X ++ (andP (tkA T n) (nvA T n) i).2.2) ∧ ((X ++ (andP (tkA T n) (nvA T n) i).2.2).length : Int) + v2 ≤ (andP (tkA T n) (nvA T n) i).2.1) := by
  unfold andP
  rcases t_6 (v1 := 0) (v2 := v2) d hs hk hz hK hE h (Or.inl rfl) (by have := h.2.2.2.2.2; omega) o4 o5 with ⟨hr, c2, r2', f2, e2⟩ | ⟨hr, c2, r2', f2, a2⟩
  · rw [pBd_er hr]
    exact Or.inl ⟨hr, c2, r2', f2, e2⟩
  · have w := cmpP_w hz (nv := nvA T n) 8 i h.2.1.1 h.2.1.2
    have w3 := w.2.1 hr
    have w1 := w.1
    have hi := h.2.1
    have e21 : ofl 0 21 = [] := rfl
    rw [e21, List.append_nil] at a2
    rw [pBd_s hr]
    rcases t_andL d hs hk hz hK h2 300 (cmpP (tkA T n) (nvA T n) 8 i).2.1 c2 _ (some (vI 0)) (some (vI 1)) (some (vI 0)) o5 (by omega) (EM_of f2 hE) a2 (by rw [List.length_append]; omega) with ⟨hr3, c3, r3, f3, e3⟩ | ⟨hr3, n8, c3, b1, b3, b4, b5, r3, f3, a3, l3⟩
    · exact Or.inl ⟨hr3, c3, r2'.trans r3, f2.tr f3, e3⟩
    · refine Or.inr ⟨hr3, n8, c3, b1, b3, b4, b5, r2'.trans r3, f2.tr f3, ?_, ?_⟩
      · simp only [List.append_assoc] at a3 ⊢; exact a3
      · simp only [List.append_assoc] at l3 ⊢; exact l3
theorem t_orL (d : Nat) (hs : SpL s) (hk : k < 8) (hz : tkA T n K = 0) (hK : K ≤ 300) : ∀ (f : Nat) (j v2 : Int) (c : Nat → Nat → Int) (X : List (Int × Int)) (o1 o3 o4 o5 : Option AV), (v2 = 0 ∨ v2 = 1) → K ≤ j + f → EM T n k c → MA T n K k c j 0 X → tkA T n j ≠ 8 → (X.length : Int) + v2 ≤ j → ∃ c', Rr (Cd (d + 8)) 215 21 [some (vA 142), o1, some (vI v2), o3, o4, o5] [] (s, c) = some ([vI (orL (tkA T n) (nvA T n) f j).1], (s, c')) ∧ QR T n K k c c' (X ++ ofl v2 22) (orL (tkA T n) (nvA T n) f j) := by
  intro f
  induction f with
  | zero =>
    intro j v2 c X o1 o3 o4 o5 h2 hf hE h h8 hl
    have e : j = K := by have := h.2.1; omega
    rcases t_or d hs hk hz hK hE h h8 h2 hl o1 o3 o4 o5 with ⟨h9, _⟩ | ⟨_, c1, r1, f1, a1⟩
    · rw [e, hz] at h9; exact absurd h9 (by decide)
    · refine ⟨c1, r1, f1, fun g => absurd rfl g, fun _ => ?_⟩
      show MA T n K k c1 j 0 (X ++ ofl v2 22 ++ []); rw [List.append_nil]; exact a1
  | succ f ih =>
    intro j v2 c X o1 o3 o4 o5 h2 hf hE h h8 hl
    rcases t_or d hs hk hz hK hE h h8 h2 hl o1 o3 o4 o5 with ⟨h9, c1, r1, f1, a1⟩ | ⟨h9, c1, r1, f1, a1⟩
    · have E1 := EM_of f1 hE
      have ol := ofl_l v2 22 h2
      rcases t_andP d hs hk hz hK (v2 := 1) (Or.inr rfl) o4 (some (vI 1)) E1 a1 (by rw [List.length_append]; omega) with ⟨hr, c2, r2', f2, e2⟩ | ⟨hr, n8, c2, b1, b3, b4, b5, r2', f2, a2, l2⟩
      · rw [orL_e h9 hr]
        exact ⟨c2, r1.trans r2', f1.tr f2, fun _ => e2, fun g => absurd g hr⟩
      · have w := andP_w hz (nv := nvA T n) (j + 1) a1.2.1.1 a1.2.1.2
        have w1 := w.1
        obtain ⟨c3, r3, f3, e3, a3⟩ := ih (andP (tkA T n) (nvA T n) (j + 1)).2.1 1 c2 _ b1 b3 b4 b5 (Or.inr rfl) (by omega) (EM_of f2 E1) a2 n8 l2
        rw [orL_s h9 hr]
        refine ⟨c3, r1.trans (r2'.trans r3), (f1.tr f2).tr f3, e3, fun g => ?_⟩
        have q := a3 g
        have e22 : ofl 1 22 = [(22, 0)] := rfl
        rw [e22] at q
        simp only [List.append_assoc] at q ⊢
        exact q
    · rw [orL_n h9]
      refine ⟨c1, r1, f1, fun g => absurd rfl g, fun _ => ?_⟩
      show MA T n K k c1 j 0 (X ++ ofl v2 22 ++ []); rw [List.append_nil]; exact a1
/-- what judge says -/
theorem m215 (d : Nat) (hs : SpL s) (hk : k < 8) (hz : tkA T n K = 0) (hK : K ≤ 300) {i : Int} {c : Nat → Nat → Int} {X : List (Int × Int)} (hE : EM T n k c) (h : MA T n K k c i 0 X) : ∃ c', Cd (d + 9) 215 [vA 142] (s, c) = some ([vI (orP (tkA T n) (nvA T n) i).1], (s, c')) ∧ QR T n K k c c' X (orP (tkA T n) (nvA T n) i) := by
  have e : Cd (d + 9) 215 [vA 142] (s, c) = Rr (Cd (d + 8)) 215 6 [some (vA 142), some (vI 0), some (vI 0), some (vI 1), none, none] [] (s, c) := c215 (hg := gC142 hs c) ..
  rw [e]
  unfold orP
  rcases t_andP d hs hk hz hK (v2 := 0) (Or.inl rfl) none none hE h (by have := h.2.2.2.2.2; omega) with ⟨hr, c2, r2', f2, e2⟩ | ⟨hr, n8, c2, b1, b3, b4, b5, r2', f2, a2, l2⟩
  · rw [pBd_er hr]
    exact ⟨c2, r2', f2, fun _ => e2, fun g => absurd g hr⟩
  · have w := andP_w hz (nv := nvA T n) i h.2.1.1 h.2.1.2
    have w1 := w.1
    have hi := h.2.1
    obtain ⟨c3, r3, f3, e3, a3⟩ := t_orL d hs hk hz hK 300 (andP (tkA T n) (nvA T n) i).2.1 0 c2 _ b1 b3 b4 b5 (Or.inl rfl) (by omega) (EM_of f2 hE) a2 n8 l2
    rw [pBd_s hr]
    refine ⟨c3, r2'.trans r3, f2.tr f3, e3, fun g => ?_⟩
    have q := a3 g
    have e22 : ofl 0 22 = [] := rfl
    rw [e22, List.append_nil] at q
    simp only [List.append_assoc] at q ⊢
    exact q
end
