/-! the law -/
theorem rdX {s : List (Nat × Nat)} {c : Nat → Nat → Int} {L : Nat} {X : Nat → Int} (h : ∃ E, s = xSh L ++ E) (e : c 1 = X) {i : Int} (i0 : 0 ≤ i) (i1 : i < L) : gA (s, c) 0 1 i = some (X i.toNat) := by
  obtain ⟨E, rfl⟩ := h
  have : (xSh L ++ E)[1]? = some (110 + 0, L) := by
    rw [List.getElem?_append_left (by rw [xSh_len]; decide)]; rfl
  have := gA_x (o := 1) (a := 0) (n := L) this c i0 i1
  rw [e] at this
  exact this
theorem step_of {s : List (Nat × Nat)} {c : Nat → Nat → Int} {n zc zm L : Nat} {av : List AV} {X : Nat → Int} (hI : Inv s c n) (hP : ∃ E, s = xSh L ++ E) (e : c 1 = X) (hop : Op zc zm av) : ∃ (r : AV) (s1 s2 : List (Nat × Nat)) (c1 c2 : Nat → Nat → Int) (n2 : Nat), Cd 999 zc (vA 29 :: av) (s, c) = some ([r], (s1, c1)) ∧ Cd 999 zm (vA 142 :: av) (s1, c1) = some ([r], (s2, c2)) ∧ n2 ≤ n + 2 ∧ Inv s2 c2 n2 ∧ (∃ E, s1 = xSh L ++ E) ∧ (∃ E, s2 = xSh L ++ E) ∧ c1 1 = X ∧ c2 1 = X := by
  obtain ⟨r, s1, s2, c1, c2, n2, h1, h2, h3, h4⟩ := hop s c n hI
  have g1 := Cd_gr _ _ _ _ _ h1
  have g2 := Cd_gr _ _ _ _ _ h2
  obtain ⟨E, hP⟩ := hP
  have p0 : Pre (s, c) := ⟨L, E, hP⟩
  obtain ⟨e1, g1⟩ := g1
  obtain ⟨e2, g2⟩ := g2
  have g1 : s1 = s ++ e1 := g1
  have g2 : s2 = s1 ++ e2 := g2
  have P1 : s1 = xSh L ++ (E ++ e1) := by rw [g1, hP, List.append_assoc]
  have P2 : s2 = xSh L ++ (E ++ e1 ++ e2) := by rw [g2, P1, List.append_assoc]
  have k1 : c1 1 = X := (Cd_kp _ _ _ _ _ h1 p0 1 (by decide)).trans e
  have k2 : c2 1 = X := (Cd_kp _ _ _ _ _ h2 ⟨L, _, P1⟩ 1 (by decide)).trans k1
  exact ⟨r, s1, s2, c1, c2, n2, h1, h2, h3, h4, ⟨_, P1⟩, ⟨_, P2⟩, k1, k2⟩
section
variable {s : List (Nat × Nat)} {c : Nat → Nat → Int} {n L : Nat} {X : Nat → Int}
theorem lw_22 (hI : Inv s c n) (hP : ∃ E, s = xSh L ++ E) (e : c 1 = X) {j : Int} (j0 : 0 ≤ j) (j1 : j + 6 ≤ L) (hL : L ≤ 3072) : ∃ s2 c2 n2, Rr (Cd 999) 302 22 [some (vA 1), some (vA 29), some (vA 142), some (vI j)] [] (s, c) = Rr (Cd 999) 302 1054 [some (vA 1), some (vA 29), some (vA 142), some (vI j)] [] (s2, c2) ∧ n2 ≤ n + 2 ∧ Inv s2 c2 n2 ∧ (∃ E, s2 = xSh L ++ E) ∧ c2 1 = X := by
  obtain ⟨r, s1, s2, c1, c2, n2, h1, h2, h3, h4, P1, P2, k1, k2⟩ := step_of hI hP e (op_map (X (j + 1).toNat))
  obtain ⟨x, hx⟩ := Cd_rt (z := 117) (by decide +kernel) h1
  have hx : r = vI x := by simpa using hx
  subst hx
  refine ⟨s2, c2, n2, ?_, h3, h4, P2, k2⟩
  rw [c302_22]
  repeat (first | rw [bnd_s] | rw [tI_m] | rw [tL_m] | rw [tA_m] | rw [tV_m] | rw [w32_id (z := j + 1) (by omega) (by omega)] | rw [rdX hP e (show 0 ≤ j + 1 by omega) (by omega)] | rw [rdX P1 k1 (show 0 ≤ j + 1 by omega) (by omega)] | rw [h1] | rw [h2])
  rw [if_pos rfl]
theorem lw_39 (hI : Inv s c n) (hP : ∃ E, s = xSh L ++ E) (e : c 1 = X) {j : Int} (j0 : 0 ≤ j) (j1 : j + 6 ≤ L) (hL : L ≤ 3072) : ∃ s2 c2 n2, Rr (Cd 999) 302 39 [some (vA 1), some (vA 29), some (vA 142), some (vI j)] [] (s, c) = Rr (Cd 999) 302 1054 [some (vA 1), some (vA 29), some (vA 142), some (vI j)] [] (s2, c2) ∧ n2 ≤ n + 2 ∧ Inv s2 c2 n2 ∧ (∃ E, s2 = xSh L ++ E) ∧ c2 1 = X := by
  obtain ⟨r, s1, s2, c1, c2, n2, h1, h2, h3, h4, P1, P2, k1, k2⟩ := step_of hI hP e (op_border (X (j + 1).toNat) (X (j + 2).toNat) (X (j + 3).toNat))
  obtain ⟨x, hx⟩ := Cd_rt (z := 118) (by decide +kernel) h1
  have hx : r = vI x := by simpa using hx
  subst hx
  refine ⟨s2, c2, n2, ?_, h3, h4, P2, k2⟩
  rw [c302_39]
  repeat (first | rw [bnd_s] | rw [tI_m] | rw [tL_m] | rw [tA_m] | rw [tV_m] | rw [w32_id (z := j + 1) (by omega) (by omega)] | rw [rdX hP e (show 0 ≤ j + 1 by omega) (by omega)] | rw [rdX P1 k1 (show 0 ≤ j + 1 by omega) (by omega)] | rw [w32_id (z := j + 2) (by omega) (by omega)] | rw [rdX hP e (show 0 ≤ j + 2 by omega) (by omega)] | rw [rdX P1 k1 (show 0 ≤ j + 2 by omega) (by omega)] | rw [w32_id (z := j + 3) (by omega) (by omega)] | rw [rdX hP e (show 0 ≤ j + 3 by omega) (by omega)] | rw [rdX P1 k1 (show 0 ≤ j + 3 by omega) (by omega)] | rw [h1] | rw [h2])
  rw [if_pos rfl]
theorem lw_76 (hI : Inv s c n) (hP : ∃ E, s = xSh L ++ E) (e : c 1 = X) {j : Int} (j0 : 0 ≤ j) (j1 : j + 6 ≤ L) (hL : L ≤ 3072) : ∃ s2 c2 n2, Rr (Cd 999) 302 76 [some (vA 1), some (vA 29), some (vA 142), some (vI j)] [] (s, c) = Rr (Cd 999) 302 1054 [some (vA 1), some (vA 29), some (vA 142), some (vI j)] [] (s2, c2) ∧ n2 ≤ n + 2 ∧ Inv s2 c2 n2 ∧ (∃ E, s2 = xSh L ++ E) ∧ c2 1 = X := by
  obtain ⟨r, s1, s2, c1, c2, n2, h1, h2, h3, h4, P1, P2, k1, k2⟩ := step_of hI hP e (op_answer (X (j + 1).toNat) (X (j + 2).toNat))
  obtain ⟨x, hx⟩ := Cd_rt (z := 119) (by decide +kernel) h1
  have hx : r = vI x := by simpa using hx
  subst hx
  refine ⟨s2, c2, n2, ?_, h3, h4, P2, k2⟩
  rw [c302_76]
  repeat (first | rw [bnd_s] | rw [tI_m] | rw [tL_m] | rw [tA_m] | rw [tV_m] | rw [w32_id (z := j + 1) (by omega) (by omega)] | rw [rdX hP e (show 0 ≤ j + 1 by omega) (by omega)] | rw [rdX P1 k1 (show 0 ≤ j + 1 by omega) (by omega)] | rw [w32_id (z := j + 2) (by omega) (by omega)] | rw [rdX hP e (show 0 ≤ j + 2 by omega) (by omega)] | rw [rdX P1 k1 (show 0 ≤ j + 2 by omega) (by omega)] | rw [h1] | rw [h2])
  rw [if_pos rfl]
theorem lw_103 (hI : Inv s c n) (hP : ∃ E, s = xSh L ++ E) (e : c 1 = X) {j : Int} (j0 : 0 ≤ j) (j1 : j + 6 ≤ L) (hL : L ≤ 3072) : ∃ s2 c2 n2, Rr (Cd 999) 302 103 [some (vA 1), some (vA 29), some (vA 142), some (vI j)] [] (s, c) = Rr (Cd 999) 302 1054 [some (vA 1), some (vA 29), some (vA 142), some (vI j)] [] (s2, c2) ∧ n2 ≤ n + 2 ∧ Inv s2 c2 n2 ∧ (∃ E, s2 = xSh L ++ E) ∧ c2 1 = X := by
  obtain ⟨r, s1, s2, c1, c2, n2, h1, h2, h3, h4, P1, P2, k1, k2⟩ := step_of hI hP e (op_swapped (X (j + 1).toNat) (X (j + 2).toNat) (X (j + 3).toNat))
  obtain ⟨x, hx⟩ := Cd_rt (z := 120) (by decide +kernel) h1
  have hx : r = vI x := by simpa using hx
  subst hx
  refine ⟨s2, c2, n2, ?_, h3, h4, P2, k2⟩
  rw [c302_103]
  repeat (first | rw [bnd_s] | rw [tI_m] | rw [tL_m] | rw [tA_m] | rw [tV_m] | rw [w32_id (z := j + 1) (by omega) (by omega)] | rw [rdX hP e (show 0 ≤ j + 1 by omega) (by omega)] | rw [rdX P1 k1 (show 0 ≤ j + 1 by omega) (by omega)] | rw [w32_id (z := j + 2) (by omega) (by omega)] | rw [rdX hP e (show 0 ≤ j + 2 by omega) (by omega)] | rw [rdX P1 k1 (show 0 ≤ j + 2 by omega) (by omega)] | rw [w32_id (z := j + 3) (by omega) (by omega)] | rw [rdX hP e (show 0 ≤ j + 3 by omega) (by omega)] | rw [rdX P1 k1 (show 0 ≤ j + 3 by omega) (by omega)] | rw [h1] | rw [h2])
  rw [if_pos rfl]
theorem lw_140 (hI : Inv s c n) (hP : ∃ E, s = xSh L ++ E) (e : c 1 = X) {j : Int} (j0 : 0 ≤ j) (j1 : j + 6 ≤ L) (hL : L ≤ 3072) : ∃ s2 c2 n2, Rr (Cd 999) 302 140 [some (vA 1), some (vA 29), some (vA 142), some (vI j)] [] (s, c) = Rr (Cd 999) 302 1054 [some (vA 1), some (vA 29), some (vA 142), some (vI j)] [] (s2, c2) ∧ n2 ≤ n + 2 ∧ Inv s2 c2 n2 ∧ (∃ E, s2 = xSh L ++ E) ∧ c2 1 = X := by
  obtain ⟨r, s1, s2, c1, c2, n2, h1, h2, h3, h4, P1, P2, k1, k2⟩ := step_of hI hP e (op_rings (X (j + 1).toNat))
  obtain ⟨x, hx⟩ := Cd_rt (z := 121) (by decide +kernel) h1
  have hx : r = vI x := by simpa using hx
  subst hx
  refine ⟨s2, c2, n2, ?_, h3, h4, P2, k2⟩
  rw [c302_140]
  repeat (first | rw [bnd_s] | rw [tI_m] | rw [tL_m] | rw [tA_m] | rw [tV_m] | rw [w32_id (z := j + 1) (by omega) (by omega)] | rw [rdX hP e (show 0 ≤ j + 1 by omega) (by omega)] | rw [rdX P1 k1 (show 0 ≤ j + 1 by omega) (by omega)] | rw [h1] | rw [h2])
  rw [if_pos rfl]
theorem lw_157 (hI : Inv s c n) (hP : ∃ E, s = xSh L ++ E) (e : c 1 = X) {j : Int} (j0 : 0 ≤ j) (j1 : j + 6 ≤ L) (hL : L ≤ 3072) : ∃ s2 c2 n2, Rr (Cd 999) 302 157 [some (vA 1), some (vA 29), some (vA 142), some (vI j)] [] (s, c) = Rr (Cd 999) 302 1054 [some (vA 1), some (vA 29), some (vA 142), some (vI j)] [] (s2, c2) ∧ n2 ≤ n + 2 ∧ Inv s2 c2 n2 ∧ (∃ E, s2 = xSh L ++ E) ∧ c2 1 = X := by
  obtain ⟨r, s1, s2, c1, c2, n2, h1, h2, h3, h4, P1, P2, k1, k2⟩ := step_of hI hP e (op_turnings (X (j + 1).toNat) (X (j + 2).toNat) (X (j + 3).toNat))
  obtain ⟨x, hx⟩ := Cd_rt (z := 122) (by decide +kernel) h1
  have hx : r = vI x := by simpa using hx
  subst hx
  refine ⟨s2, c2, n2, ?_, h3, h4, P2, k2⟩
  rw [c302_157]
  repeat (first | rw [bnd_s] | rw [tI_m] | rw [tL_m] | rw [tA_m] | rw [tV_m] | rw [w32_id (z := j + 1) (by omega) (by omega)] | rw [rdX hP e (show 0 ≤ j + 1 by omega) (by omega)] | rw [rdX P1 k1 (show 0 ≤ j + 1 by omega) (by omega)] | rw [w32_id (z := j + 2) (by omega) (by omega)] | rw [rdX hP e (show 0 ≤ j + 2 by omega) (by omega)] | rw [rdX P1 k1 (show 0 ≤ j + 2 by omega) (by omega)] | rw [w32_id (z := j + 3) (by omega) (by omega)] | rw [rdX hP e (show 0 ≤ j + 3 by omega) (by omega)] | rw [rdX P1 k1 (show 0 ≤ j + 3 by omega) (by omega)] | rw [h1] | rw [h2])
  rw [if_pos rfl]
theorem lw_194 (hI : Inv s c n) (hP : ∃ E, s = xSh L ++ E) (e : c 1 = X) {j : Int} (j0 : 0 ≤ j) (j1 : j + 6 ≤ L) (hL : L ≤ 3072) : ∃ s2 c2 n2, Rr (Cd 999) 302 194 [some (vA 1), some (vA 29), some (vA 142), some (vI j)] [] (s, c) = Rr (Cd 999) 302 1054 [some (vA 1), some (vA 29), some (vA 142), some (vI j)] [] (s2, c2) ∧ n2 ≤ n + 2 ∧ Inv s2 c2 n2 ∧ (∃ E, s2 = xSh L ++ E) ∧ c2 1 = X := by
  obtain ⟨r, s1, s2, c1, c2, n2, h1, h2, h3, h4, P1, P2, k1, k2⟩ := step_of hI hP e (op_feed (X (j + 1).toNat) (X (j + 2).toNat) (X (j + 3).toNat) (X (j + 4).toNat) (X (j + 5).toNat))
  obtain ⟨x, hx⟩ := Cd_rt (z := 123) (by decide +kernel) h1
  have hx : r = vI x := by simpa using hx
  subst hx
  refine ⟨s2, c2, n2, ?_, h3, h4, P2, k2⟩
  rw [c302_194]
  repeat (first | rw [bnd_s] | rw [tI_m] | rw [tL_m] | rw [tA_m] | rw [tV_m] | rw [w32_id (z := j + 1) (by omega) (by omega)] | rw [rdX hP e (show 0 ≤ j + 1 by omega) (by omega)] | rw [rdX P1 k1 (show 0 ≤ j + 1 by omega) (by omega)] | rw [w32_id (z := j + 2) (by omega) (by omega)] | rw [rdX hP e (show 0 ≤ j + 2 by omega) (by omega)] | rw [rdX P1 k1 (show 0 ≤ j + 2 by omega) (by omega)] | rw [w32_id (z := j + 3) (by omega) (by omega)] | rw [rdX hP e (show 0 ≤ j + 3 by omega) (by omega)] | rw [rdX P1 k1 (show 0 ≤ j + 3 by omega) (by omega)] | rw [w32_id (z := j + 4) (by omega) (by omega)] | rw [rdX hP e (show 0 ≤ j + 4 by omega) (by omega)] | rw [rdX P1 k1 (show 0 ≤ j + 4 by omega) (by omega)] | rw [w32_id (z := j + 5) (by omega) (by omega)] | rw [rdX hP e (show 0 ≤ j + 5 by omega) (by omega)] | rw [rdX P1 k1 (show 0 ≤ j + 5 by omega) (by omega)] | rw [h1] | rw [h2])
  rw [if_pos rfl]
theorem lw_251 (hI : Inv s c n) (hP : ∃ E, s = xSh L ++ E) (e : c 1 = X) {j : Int} (j0 : 0 ≤ j) (j1 : j + 6 ≤ L) (hL : L ≤ 3072) : ∃ s2 c2 n2, Rr (Cd 999) 302 251 [some (vA 1), some (vA 29), some (vA 142), some (vI j)] [] (s, c) = Rr (Cd 999) 302 1054 [some (vA 1), some (vA 29), some (vA 142), some (vI j)] [] (s2, c2) ∧ n2 ≤ n + 2 ∧ Inv s2 c2 n2 ∧ (∃ E, s2 = xSh L ++ E) ∧ c2 1 = X := by
  obtain ⟨r, s1, s2, c1, c2, n2, h1, h2, h3, h4, P1, P2, k1, k2⟩ := step_of hI hP e (op_end (X (j + 1).toNat))
  obtain ⟨x, hx⟩ := Cd_rt (z := 124) (by decide +kernel) h1
  have hx : r = vI x := by simpa using hx
  subst hx
  refine ⟨s2, c2, n2, ?_, h3, h4, P2, k2⟩
  rw [c302_251]
  repeat (first | rw [bnd_s] | rw [tI_m] | rw [tL_m] | rw [tA_m] | rw [tV_m] | rw [w32_id (z := j + 1) (by omega) (by omega)] | rw [rdX hP e (show 0 ≤ j + 1 by omega) (by omega)] | rw [rdX P1 k1 (show 0 ≤ j + 1 by omega) (by omega)] | rw [h1] | rw [h2])
  rw [if_pos rfl]
theorem lw_268 (hsh : Op 125 219 []) (hI : Inv s c n) (hP : ∃ E, s = xSh L ++ E) (e : c 1 = X) {j : Int} (j0 : 0 ≤ j) (j1 : j + 6 ≤ L) (hL : L ≤ 3072) : ∃ s2 c2 n2, Rr (Cd 999) 302 268 [some (vA 1), some (vA 29), some (vA 142), some (vI j)] [] (s, c) = Rr (Cd 999) 302 1054 [some (vA 1), some (vA 29), some (vA 142), some (vI j)] [] (s2, c2) ∧ n2 ≤ n + 2 ∧ Inv s2 c2 n2 ∧ (∃ E, s2 = xSh L ++ E) ∧ c2 1 = X := by
  obtain ⟨r, s1, s2, c1, c2, n2, h1, h2, h3, h4, P1, P2, k1, k2⟩ := step_of hI hP e hsh
  obtain ⟨x, hx⟩ := Cd_rt (z := 125) (by decide +kernel) h1
  have hx : r = vI x := by simpa using hx
  subst hx
  refine ⟨s2, c2, n2, ?_, h3, h4, P2, k2⟩
  rw [c302_268]
  repeat (first | rw [bnd_s] | rw [tI_m] | rw [tL_m] | rw [tA_m] | rw [tV_m] | rw [h1] | rw [h2])
  rw [if_pos rfl]
theorem lw_275 (hI : Inv s c n) (hP : ∃ E, s = xSh L ++ E) (e : c 1 = X) {j : Int} (j0 : 0 ≤ j) (j1 : j + 6 ≤ L) (hL : L ≤ 3072) : ∃ s2 c2 n2, Rr (Cd 999) 302 275 [some (vA 1), some (vA 29), some (vA 142), some (vI j)] [] (s, c) = Rr (Cd 999) 302 1054 [some (vA 1), some (vA 29), some (vA 142), some (vI j)] [] (s2, c2) ∧ n2 ≤ n + 2 ∧ Inv s2 c2 n2 ∧ (∃ E, s2 = xSh L ++ E) ∧ c2 1 = X := by
  obtain ⟨r, s1, s2, c1, c2, n2, h1, h2, h3, h4, P1, P2, k1, k2⟩ := step_of hI hP e (op_fault (X (j + 1).toNat))
  obtain ⟨x, hx⟩ := Cd_rt (z := 126) (by decide +kernel) h1
  have hx : r = vI x := by simpa using hx
  subst hx
  refine ⟨s2, c2, n2, ?_, h3, h4, P2, k2⟩
  rw [c302_275]
  repeat (first | rw [bnd_s] | rw [tI_m] | rw [tL_m] | rw [tA_m] | rw [tV_m] | rw [w32_id (z := j + 1) (by omega) (by omega)] | rw [rdX hP e (show 0 ≤ j + 1 by omega) (by omega)] | rw [rdX P1 k1 (show 0 ≤ j + 1 by omega) (by omega)] | rw [h1] | rw [h2])
  rw [if_pos rfl]
theorem lw_292 (hI : Inv s c n) (hP : ∃ E, s = xSh L ++ E) (e : c 1 = X) {j : Int} (j0 : 0 ≤ j) (j1 : j + 6 ≤ L) (hL : L ≤ 3072) : ∃ s2 c2 n2, Rr (Cd 999) 302 292 [some (vA 1), some (vA 29), some (vA 142), some (vI j)] [] (s, c) = Rr (Cd 999) 302 1054 [some (vA 1), some (vA 29), some (vA 142), some (vI j)] [] (s2, c2) ∧ n2 ≤ n + 2 ∧ Inv s2 c2 n2 ∧ (∃ E, s2 = xSh L ++ E) ∧ c2 1 = X := by
  obtain ⟨r, s1, s2, c1, c2, n2, h1, h2, h3, h4, P1, P2, k1, k2⟩ := step_of hI hP e (op_believed (X (j + 1).toNat) (X (j + 2).toNat) (X (j + 3).toNat) (X (j + 4).toNat) (X (j + 5).toNat))
  obtain ⟨x, hx⟩ := Cd_rt (z := 127) (by decide +kernel) h1
  have hx : r = vI x := by simpa using hx
  subst hx
  refine ⟨s2, c2, n2, ?_, h3, h4, P2, k2⟩
  rw [c302_292]
  repeat (first | rw [bnd_s] | rw [tI_m] | rw [tL_m] | rw [tA_m] | rw [tV_m] | rw [w32_id (z := j + 1) (by omega) (by omega)] | rw [rdX hP e (show 0 ≤ j + 1 by omega) (by omega)] | rw [rdX P1 k1 (show 0 ≤ j + 1 by omega) (by omega)] | rw [w32_id (z := j + 2) (by omega) (by omega)] | rw [rdX hP e (show 0 ≤ j + 2 by omega) (by omega)] | rw [rdX P1 k1 (show 0 ≤ j + 2 by omega) (by omega)] | rw [w32_id (z := j + 3) (by omega) (by omega)] | rw [rdX hP e (show 0 ≤ j + 3 by omega) (by omega)] | rw [rdX P1 k1 (show 0 ≤ j + 3 by omega) (by omega)] | rw [w32_id (z := j + 4) (by omega) (by omega)] | rw [rdX hP e (show 0 ≤ j + 4 by omega) (by omega)] | rw [rdX P1 k1 (show 0 ≤ j + 4 by omega) (by omega)] | rw [w32_id (z := j + 5) (by omega) (by omega)] | rw [rdX hP e (show 0 ≤ j + 5 by omega) (by omega)] | rw [rdX P1 k1 (show 0 ≤ j + 5 by omega) (by omega)] | rw [h1] | rw [h2])
  rw [if_pos rfl]
theorem lw_349 (hI : Inv s c n) (hP : ∃ E, s = xSh L ++ E) (e : c 1 = X) {j : Int} (j0 : 0 ≤ j) (j1 : j + 6 ≤ L) (hL : L ≤ 3072) : ∃ s2 c2 n2, Rr (Cd 999) 302 349 [some (vA 1), some (vA 29), some (vA 142), some (vI j)] [] (s, c) = Rr (Cd 999) 302 1054 [some (vA 1), some (vA 29), some (vA 142), some (vI j)] [] (s2, c2) ∧ n2 ≤ n + 2 ∧ Inv s2 c2 n2 ∧ (∃ E, s2 = xSh L ++ E) ∧ c2 1 = X := by
  obtain ⟨r, s1, s2, c1, c2, n2, h1, h2, h3, h4, P1, P2, k1, k2⟩ := step_of hI hP e (op_right (X (j + 1).toNat) (X (j + 2).toNat) (X (j + 3).toNat))
  obtain ⟨x, hx⟩ := Cd_rt (z := 128) (by decide +kernel) h1
  have hx : r = vI x := by simpa using hx
  subst hx
  refine ⟨s2, c2, n2, ?_, h3, h4, P2, k2⟩
  rw [c302_349]
  repeat (first | rw [bnd_s] | rw [tI_m] | rw [tL_m] | rw [tA_m] | rw [tV_m] | rw [w32_id (z := j + 1) (by omega) (by omega)] | rw [rdX hP e (show 0 ≤ j + 1 by omega) (by omega)] | rw [rdX P1 k1 (show 0 ≤ j + 1 by omega) (by omega)] | rw [w32_id (z := j + 2) (by omega) (by omega)] | rw [rdX hP e (show 0 ≤ j + 2 by omega) (by omega)] | rw [rdX P1 k1 (show 0 ≤ j + 2 by omega) (by omega)] | rw [w32_id (z := j + 3) (by omega) (by omega)] | rw [rdX hP e (show 0 ≤ j + 3 by omega) (by omega)] | rw [rdX P1 k1 (show 0 ≤ j + 3 by omega) (by omega)] | rw [h1] | rw [h2])
  rw [if_pos rfl]
theorem lw_386 (hI : Inv s c n) (hP : ∃ E, s = xSh L ++ E) (e : c 1 = X) {j : Int} (j0 : 0 ≤ j) (j1 : j + 6 ≤ L) (hL : L ≤ 3072) : ∃ s2 c2 n2, Rr (Cd 999) 302 386 [some (vA 1), some (vA 29), some (vA 142), some (vI j)] [] (s, c) = Rr (Cd 999) 302 1054 [some (vA 1), some (vA 29), some (vA 142), some (vI j)] [] (s2, c2) ∧ n2 ≤ n + 2 ∧ Inv s2 c2 n2 ∧ (∃ E, s2 = xSh L ++ E) ∧ c2 1 = X := by
  obtain ⟨r, s1, s2, c1, c2, n2, h1, h2, h3, h4, P1, P2, k1, k2⟩ := step_of hI hP e (op_cheat (X (j + 1).toNat) (X (j + 2).toNat) (X (j + 3).toNat))
  obtain ⟨x, hx⟩ := Cd_rt (z := 129) (by decide +kernel) h1
  have hx : r = vI x := by simpa using hx
  subst hx
  refine ⟨s2, c2, n2, ?_, h3, h4, P2, k2⟩
  rw [c302_386]
  repeat (first | rw [bnd_s] | rw [tI_m] | rw [tL_m] | rw [tA_m] | rw [tV_m] | rw [w32_id (z := j + 1) (by omega) (by omega)] | rw [rdX hP e (show 0 ≤ j + 1 by omega) (by omega)] | rw [rdX P1 k1 (show 0 ≤ j + 1 by omega) (by omega)] | rw [w32_id (z := j + 2) (by omega) (by omega)] | rw [rdX hP e (show 0 ≤ j + 2 by omega) (by omega)] | rw [rdX P1 k1 (show 0 ≤ j + 2 by omega) (by omega)] | rw [w32_id (z := j + 3) (by omega) (by omega)] | rw [rdX hP e (show 0 ≤ j + 3 by omega) (by omega)] | rw [rdX P1 k1 (show 0 ≤ j + 3 by omega) (by omega)] | rw [h1] | rw [h2])
  rw [if_pos rfl]
theorem lw_423 (hI : Inv s c n) (hP : ∃ E, s = xSh L ++ E) (e : c 1 = X) {j : Int} (j0 : 0 ≤ j) (j1 : j + 6 ≤ L) (hL : L ≤ 3072) : ∃ s2 c2 n2, Rr (Cd 999) 302 423 [some (vA 1), some (vA 29), some (vA 142), some (vI j)] [] (s, c) = Rr (Cd 999) 302 1054 [some (vA 1), some (vA 29), some (vA 142), some (vI j)] [] (s2, c2) ∧ n2 ≤ n + 2 ∧ Inv s2 c2 n2 ∧ (∃ E, s2 = xSh L ++ E) ∧ c2 1 = X := by
  obtain ⟨r, s1, s2, c1, c2, n2, h1, h2, h3, h4, P1, P2, k1, k2⟩ := step_of hI hP e (op_nights (X (j + 1).toNat) (X (j + 2).toNat) (X (j + 3).toNat))
  obtain ⟨x, hx⟩ := Cd_rt (z := 130) (by decide +kernel) h1
  have hx : r = vI x := by simpa using hx
  subst hx
  refine ⟨s2, c2, n2, ?_, h3, h4, P2, k2⟩
  rw [c302_423]
  repeat (first | rw [bnd_s] | rw [tI_m] | rw [tL_m] | rw [tA_m] | rw [tV_m] | rw [w32_id (z := j + 1) (by omega) (by omega)] | rw [rdX hP e (show 0 ≤ j + 1 by omega) (by omega)] | rw [rdX P1 k1 (show 0 ≤ j + 1 by omega) (by omega)] | rw [w32_id (z := j + 2) (by omega) (by omega)] | rw [rdX hP e (show 0 ≤ j + 2 by omega) (by omega)] | rw [rdX P1 k1 (show 0 ≤ j + 2 by omega) (by omega)] | rw [w32_id (z := j + 3) (by omega) (by omega)] | rw [rdX hP e (show 0 ≤ j + 3 by omega) (by omega)] | rw [rdX P1 k1 (show 0 ≤ j + 3 by omega) (by omega)] | rw [h1] | rw [h2])
  rw [if_pos rfl]
theorem lw_460 (hI : Inv s c n) (hP : ∃ E, s = xSh L ++ E) (e : c 1 = X) {j : Int} (j0 : 0 ≤ j) (j1 : j + 6 ≤ L) (hL : L ≤ 3072) : ∃ s2 c2 n2, Rr (Cd 999) 302 460 [some (vA 1), some (vA 29), some (vA 142), some (vI j)] [] (s, c) = Rr (Cd 999) 302 1054 [some (vA 1), some (vA 29), some (vA 142), some (vI j)] [] (s2, c2) ∧ n2 ≤ n + 2 ∧ Inv s2 c2 n2 ∧ (∃ E, s2 = xSh L ++ E) ∧ c2 1 = X := by
  obtain ⟨r, s1, s2, c1, c2, n2, h1, h2, h3, h4, P1, P2, k1, k2⟩ := step_of hI hP e (op_tells (X (j + 1).toNat) (X (j + 2).toNat) (X (j + 3).toNat) (X (j + 4).toNat))
  obtain ⟨x, hx⟩ := Cd_rt (z := 131) (by decide +kernel) h1
  have hx : r = vI x := by simpa using hx
  subst hx
  refine ⟨s2, c2, n2, ?_, h3, h4, P2, k2⟩
  rw [c302_460]
  repeat (first | rw [bnd_s] | rw [tI_m] | rw [tL_m] | rw [tA_m] | rw [tV_m] | rw [w32_id (z := j + 1) (by omega) (by omega)] | rw [rdX hP e (show 0 ≤ j + 1 by omega) (by omega)] | rw [rdX P1 k1 (show 0 ≤ j + 1 by omega) (by omega)] | rw [w32_id (z := j + 2) (by omega) (by omega)] | rw [rdX hP e (show 0 ≤ j + 2 by omega) (by omega)] | rw [rdX P1 k1 (show 0 ≤ j + 2 by omega) (by omega)] | rw [w32_id (z := j + 3) (by omega) (by omega)] | rw [rdX hP e (show 0 ≤ j + 3 by omega) (by omega)] | rw [rdX P1 k1 (show 0 ≤ j + 3 by omega) (by omega)] | rw [w32_id (z := j + 4) (by omega) (by omega)] | rw [rdX hP e (show 0 ≤ j + 4 by omega) (by omega)] | rw [rdX P1 k1 (show 0 ≤ j + 4 by omega) (by omega)] | rw [h1] | rw [h2])
  rw [if_pos rfl]
theorem lw_507 (hI : Inv s c n) (hP : ∃ E, s = xSh L ++ E) (e : c 1 = X) {j : Int} (j0 : 0 ≤ j) (j1 : j + 6 ≤ L) (hL : L ≤ 3072) : ∃ s2 c2 n2, Rr (Cd 999) 302 507 [some (vA 1), some (vA 29), some (vA 142), some (vI j)] [] (s, c) = Rr (Cd 999) 302 1054 [some (vA 1), some (vA 29), some (vA 142), some (vI j)] [] (s2, c2) ∧ n2 ≤ n + 2 ∧ Inv s2 c2 n2 ∧ (∃ E, s2 = xSh L ++ E) ∧ c2 1 = X := by
  obtain ⟨r, s1, s2, c1, c2, n2, h1, h2, h3, h4, P1, P2, k1, k2⟩ := step_of hI hP e (op_see (X (j + 1).toNat) (X (j + 2).toNat) (X (j + 3).toNat))
  obtain ⟨x, hx⟩ := Cd_rt (z := 132) (by decide +kernel) h1
  have hx : r = vI x := by simpa using hx
  subst hx
  refine ⟨s2, c2, n2, ?_, h3, h4, P2, k2⟩
  rw [c302_507]
  repeat (first | rw [bnd_s] | rw [tI_m] | rw [tL_m] | rw [tA_m] | rw [tV_m] | rw [w32_id (z := j + 1) (by omega) (by omega)] | rw [rdX hP e (show 0 ≤ j + 1 by omega) (by omega)] | rw [rdX P1 k1 (show 0 ≤ j + 1 by omega) (by omega)] | rw [w32_id (z := j + 2) (by omega) (by omega)] | rw [rdX hP e (show 0 ≤ j + 2 by omega) (by omega)] | rw [rdX P1 k1 (show 0 ≤ j + 2 by omega) (by omega)] | rw [w32_id (z := j + 3) (by omega) (by omega)] | rw [rdX hP e (show 0 ≤ j + 3 by omega) (by omega)] | rw [rdX P1 k1 (show 0 ≤ j + 3 by omega) (by omega)] | rw [h1] | rw [h2])
  rw [if_pos rfl]
theorem lw_544 (hI : Inv s c n) (hP : ∃ E, s = xSh L ++ E) (e : c 1 = X) {j : Int} (j0 : 0 ≤ j) (j1 : j + 6 ≤ L) (hL : L ≤ 3072) : ∃ s2 c2 n2, Rr (Cd 999) 302 544 [some (vA 1), some (vA 29), some (vA 142), some (vI j)] [] (s, c) = Rr (Cd 999) 302 1054 [some (vA 1), some (vA 29), some (vA 142), some (vI j)] [] (s2, c2) ∧ n2 ≤ n + 2 ∧ Inv s2 c2 n2 ∧ (∃ E, s2 = xSh L ++ E) ∧ c2 1 = X := by
  obtain ⟨r, s1, s2, c1, c2, n2, h1, h2, h3, h4, P1, P2, k1, k2⟩ := step_of hI hP e (op_weight (X (j + 1).toNat) (X (j + 2).toNat) (X (j + 3).toNat))
  obtain ⟨x, hx⟩ := Cd_rl (z := 133) (by decide +kernel) h1
  have hx : r = vL x := by simpa using hx
  subst hx
  refine ⟨s2, c2, n2, ?_, h3, h4, P2, k2⟩
  rw [c302_544]
  repeat (first | rw [bnd_s] | rw [tI_m] | rw [tL_m] | rw [tA_m] | rw [tV_m] | rw [w32_id (z := j + 1) (by omega) (by omega)] | rw [rdX hP e (show 0 ≤ j + 1 by omega) (by omega)] | rw [rdX P1 k1 (show 0 ≤ j + 1 by omega) (by omega)] | rw [w32_id (z := j + 2) (by omega) (by omega)] | rw [rdX hP e (show 0 ≤ j + 2 by omega) (by omega)] | rw [rdX P1 k1 (show 0 ≤ j + 2 by omega) (by omega)] | rw [w32_id (z := j + 3) (by omega) (by omega)] | rw [rdX hP e (show 0 ≤ j + 3 by omega) (by omega)] | rw [rdX P1 k1 (show 0 ≤ j + 3 by omega) (by omega)] | rw [h1] | rw [h2])
  rw [if_pos ((lcmp_eq _ _).mpr rfl)]
theorem lw_582 (hI : Inv s c n) (hP : ∃ E, s = xSh L ++ E) (e : c 1 = X) {j : Int} (j0 : 0 ≤ j) (j1 : j + 6 ≤ L) (hL : L ≤ 3072) : ∃ s2 c2 n2, Rr (Cd 999) 302 582 [some (vA 1), some (vA 29), some (vA 142), some (vI j)] [] (s, c) = Rr (Cd 999) 302 1054 [some (vA 1), some (vA 29), some (vA 142), some (vI j)] [] (s2, c2) ∧ n2 ≤ n + 2 ∧ Inv s2 c2 n2 ∧ (∃ E, s2 = xSh L ++ E) ∧ c2 1 = X := by
  obtain ⟨r, s1, s2, c1, c2, n2, h1, h2, h3, h4, P1, P2, k1, k2⟩ := step_of hI hP e (op_possible (X (j + 1).toNat) (X (j + 2).toNat) (X (j + 3).toNat))
  obtain ⟨x, hx⟩ := Cd_rt (z := 134) (by decide +kernel) h1
  have hx : r = vI x := by simpa using hx
  subst hx
  refine ⟨s2, c2, n2, ?_, h3, h4, P2, k2⟩
  rw [c302_582]
  repeat (first | rw [bnd_s] | rw [tI_m] | rw [tL_m] | rw [tA_m] | rw [tV_m] | rw [w32_id (z := j + 1) (by omega) (by omega)] | rw [rdX hP e (show 0 ≤ j + 1 by omega) (by omega)] | rw [rdX P1 k1 (show 0 ≤ j + 1 by omega) (by omega)] | rw [w32_id (z := j + 2) (by omega) (by omega)] | rw [rdX hP e (show 0 ≤ j + 2 by omega) (by omega)] | rw [rdX P1 k1 (show 0 ≤ j + 2 by omega) (by omega)] | rw [w32_id (z := j + 3) (by omega) (by omega)] | rw [rdX hP e (show 0 ≤ j + 3 by omega) (by omega)] | rw [rdX P1 k1 (show 0 ≤ j + 3 by omega) (by omega)] | rw [h1] | rw [h2])
  rw [if_pos rfl]
theorem lw_619 (hI : Inv s c n) (hP : ∃ E, s = xSh L ++ E) (e : c 1 = X) {j : Int} (j0 : 0 ≤ j) (j1 : j + 6 ≤ L) (hL : L ≤ 3072) : ∃ s2 c2 n2, Rr (Cd 999) 302 619 [some (vA 1), some (vA 29), some (vA 142), some (vI j)] [] (s, c) = Rr (Cd 999) 302 1054 [some (vA 1), some (vA 29), some (vA 142), some (vI j)] [] (s2, c2) ∧ n2 ≤ n + 2 ∧ Inv s2 c2 n2 ∧ (∃ E, s2 = xSh L ++ E) ∧ c2 1 = X := by
  obtain ⟨r, s1, s2, c1, c2, n2, h1, h2, h3, h4, P1, P2, k1, k2⟩ := step_of hI hP e (op_shut (X (j + 1).toNat) (X (j + 2).toNat) (X (j + 3).toNat))
  obtain ⟨x, hx⟩ := Cd_rt (z := 135) (by decide +kernel) h1
  have hx : r = vI x := by simpa using hx
  subst hx
  refine ⟨s2, c2, n2, ?_, h3, h4, P2, k2⟩
  rw [c302_619]
  repeat (first | rw [bnd_s] | rw [tI_m] | rw [tL_m] | rw [tA_m] | rw [tV_m] | rw [w32_id (z := j + 1) (by omega) (by omega)] | rw [rdX hP e (show 0 ≤ j + 1 by omega) (by omega)] | rw [rdX P1 k1 (show 0 ≤ j + 1 by omega) (by omega)] | rw [w32_id (z := j + 2) (by omega) (by omega)] | rw [rdX hP e (show 0 ≤ j + 2 by omega) (by omega)] | rw [rdX P1 k1 (show 0 ≤ j + 2 by omega) (by omega)] | rw [w32_id (z := j + 3) (by omega) (by omega)] | rw [rdX hP e (show 0 ≤ j + 3 by omega) (by omega)] | rw [rdX P1 k1 (show 0 ≤ j + 3 by omega) (by omega)] | rw [h1] | rw [h2])
  rw [if_pos rfl]
theorem lw_656 (hI : Inv s c n) (hP : ∃ E, s = xSh L ++ E) (e : c 1 = X) {j : Int} (j0 : 0 ≤ j) (j1 : j + 6 ≤ L) (hL : L ≤ 3072) : ∃ s2 c2 n2, Rr (Cd 999) 302 656 [some (vA 1), some (vA 29), some (vA 142), some (vI j)] [] (s, c) = Rr (Cd 999) 302 1054 [some (vA 1), some (vA 29), some (vA 142), some (vI j)] [] (s2, c2) ∧ n2 ≤ n + 2 ∧ Inv s2 c2 n2 ∧ (∃ E, s2 = xSh L ++ E) ∧ c2 1 = X := by
  obtain ⟨r, s1, s2, c1, c2, n2, h1, h2, h3, h4, P1, P2, k1, k2⟩ := step_of hI hP e (op_ask (X (j + 1).toNat))
  obtain ⟨x, hx⟩ := Cd_rt (z := 136) (by decide +kernel) h1
  have hx : r = vI x := by simpa using hx
  subst hx
  refine ⟨s2, c2, n2, ?_, h3, h4, P2, k2⟩
  rw [c302_656]
  repeat (first | rw [bnd_s] | rw [tI_m] | rw [tL_m] | rw [tA_m] | rw [tV_m] | rw [w32_id (z := j + 1) (by omega) (by omega)] | rw [rdX hP e (show 0 ≤ j + 1 by omega) (by omega)] | rw [rdX P1 k1 (show 0 ≤ j + 1 by omega) (by omega)] | rw [h1] | rw [h2])
  rw [if_pos rfl]
theorem lw_673 (hI : Inv s c n) (hP : ∃ E, s = xSh L ++ E) (e : c 1 = X) {j : Int} (j0 : 0 ≤ j) (j1 : j + 6 ≤ L) (hL : L ≤ 3072) : ∃ s2 c2 n2, Rr (Cd 999) 302 673 [some (vA 1), some (vA 29), some (vA 142), some (vI j)] [] (s, c) = Rr (Cd 999) 302 1054 [some (vA 1), some (vA 29), some (vA 142), some (vI j)] [] (s2, c2) ∧ n2 ≤ n + 2 ∧ Inv s2 c2 n2 ∧ (∃ E, s2 = xSh L ++ E) ∧ c2 1 = X := by
  obtain ⟨r, s1, s2, c1, c2, n2, h1, h2, h3, h4, P1, P2, k1, k2⟩ := step_of hI hP e (op_pulled (X (j + 1).toNat))
  obtain ⟨x, hx⟩ := Cd_rt (z := 137) (by decide +kernel) h1
  have hx : r = vI x := by simpa using hx
  subst hx
  refine ⟨s2, c2, n2, ?_, h3, h4, P2, k2⟩
  rw [c302_673]
  repeat (first | rw [bnd_s] | rw [tI_m] | rw [tL_m] | rw [tA_m] | rw [tV_m] | rw [w32_id (z := j + 1) (by omega) (by omega)] | rw [rdX hP e (show 0 ≤ j + 1 by omega) (by omega)] | rw [rdX P1 k1 (show 0 ≤ j + 1 by omega) (by omega)] | rw [h1] | rw [h2])
  rw [if_pos rfl]
theorem lw_690 (hI : Inv s c n) (hP : ∃ E, s = xSh L ++ E) (e : c 1 = X) {j : Int} (j0 : 0 ≤ j) (j1 : j + 6 ≤ L) (hL : L ≤ 3072) : ∃ s2 c2 n2, Rr (Cd 999) 302 690 [some (vA 1), some (vA 29), some (vA 142), some (vI j)] [] (s, c) = Rr (Cd 999) 302 1054 [some (vA 1), some (vA 29), some (vA 142), some (vI j)] [] (s2, c2) ∧ n2 ≤ n + 2 ∧ Inv s2 c2 n2 ∧ (∃ E, s2 = xSh L ++ E) ∧ c2 1 = X := by
  obtain ⟨r, s1, s2, c1, c2, n2, h1, h2, h3, h4, P1, P2, k1, k2⟩ := step_of hI hP e (op_lock (X (j + 1).toNat) (X (j + 2).toNat) (X (j + 3).toNat) (X (j + 4).toNat) (X (j + 5).toNat))
  obtain ⟨x, hx⟩ := Cd_rt (z := 138) (by decide +kernel) h1
  have hx : r = vI x := by simpa using hx
  subst hx
  refine ⟨s2, c2, n2, ?_, h3, h4, P2, k2⟩
  rw [c302_690]
  repeat (first | rw [bnd_s] | rw [tI_m] | rw [tL_m] | rw [tA_m] | rw [tV_m] | rw [w32_id (z := j + 1) (by omega) (by omega)] | rw [rdX hP e (show 0 ≤ j + 1 by omega) (by omega)] | rw [rdX P1 k1 (show 0 ≤ j + 1 by omega) (by omega)] | rw [w32_id (z := j + 2) (by omega) (by omega)] | rw [rdX hP e (show 0 ≤ j + 2 by omega) (by omega)] | rw [rdX P1 k1 (show 0 ≤ j + 2 by omega) (by omega)] | rw [w32_id (z := j + 3) (by omega) (by omega)] | rw [rdX hP e (show 0 ≤ j + 3 by omega) (by omega)] | rw [rdX P1 k1 (show 0 ≤ j + 3 by omega) (by omega)] | rw [w32_id (z := j + 4) (by omega) (by omega)] | rw [rdX hP e (show 0 ≤ j + 4 by omega) (by omega)] | rw [rdX P1 k1 (show 0 ≤ j + 4 by omega) (by omega)] | rw [w32_id (z := j + 5) (by omega) (by omega)] | rw [rdX hP e (show 0 ≤ j + 5 by omega) (by omega)] | rw [rdX P1 k1 (show 0 ≤ j + 5 by omega) (by omega)] | rw [h1] | rw [h2])
  rw [if_pos rfl]
theorem lw_747 (hI : Inv s c n) (hP : ∃ E, s = xSh L ++ E) (e : c 1 = X) {j : Int} (j0 : 0 ≤ j) (j1 : j + 6 ≤ L) (hL : L ≤ 3072) : ∃ s2 c2 n2, Rr (Cd 999) 302 747 [some (vA 1), some (vA 29), some (vA 142), some (vI j)] [] (s, c) = Rr (Cd 999) 302 1054 [some (vA 1), some (vA 29), some (vA 142), some (vI j)] [] (s2, c2) ∧ n2 ≤ n + 2 ∧ Inv s2 c2 n2 ∧ (∃ E, s2 = xSh L ++ E) ∧ c2 1 = X := by
  obtain ⟨r, s1, s2, c1, c2, n2, h1, h2, h3, h4, P1, P2, k1, k2⟩ := step_of hI hP e (op_shows (X (j + 1).toNat) (X (j + 2).toNat))
  obtain ⟨x, hx⟩ := Cd_rt (z := 139) (by decide +kernel) h1
  have hx : r = vI x := by simpa using hx
  subst hx
  refine ⟨s2, c2, n2, ?_, h3, h4, P2, k2⟩
  rw [c302_747]
  repeat (first | rw [bnd_s] | rw [tI_m] | rw [tL_m] | rw [tA_m] | rw [tV_m] | rw [w32_id (z := j + 1) (by omega) (by omega)] | rw [rdX hP e (show 0 ≤ j + 1 by omega) (by omega)] | rw [rdX P1 k1 (show 0 ≤ j + 1 by omega) (by omega)] | rw [w32_id (z := j + 2) (by omega) (by omega)] | rw [rdX hP e (show 0 ≤ j + 2 by omega) (by omega)] | rw [rdX P1 k1 (show 0 ≤ j + 2 by omega) (by omega)] | rw [h1] | rw [h2])
  rw [if_pos rfl]
theorem lw_774 (hI : Inv s c n) (hP : ∃ E, s = xSh L ++ E) (e : c 1 = X) {j : Int} (j0 : 0 ≤ j) (j1 : j + 6 ≤ L) (hL : L ≤ 3072) : ∃ s2 c2 n2, Rr (Cd 999) 302 774 [some (vA 1), some (vA 29), some (vA 142), some (vI j)] [] (s, c) = Rr (Cd 999) 302 1054 [some (vA 1), some (vA 29), some (vA 142), some (vI j)] [] (s2, c2) ∧ n2 ≤ n + 2 ∧ Inv s2 c2 n2 ∧ (∃ E, s2 = xSh L ++ E) ∧ c2 1 = X := by
  obtain ⟨r, s1, s2, c1, c2, n2, h1, h2, h3, h4, P1, P2, k1, k2⟩ := step_of hI hP e (op_locks (X (j + 1).toNat))
  obtain ⟨x, hx⟩ := Cd_rt (z := 140) (by decide +kernel) h1
  have hx : r = vI x := by simpa using hx
  subst hx
  refine ⟨s2, c2, n2, ?_, h3, h4, P2, k2⟩
  rw [c302_774]
  repeat (first | rw [bnd_s] | rw [tI_m] | rw [tL_m] | rw [tA_m] | rw [tV_m] | rw [w32_id (z := j + 1) (by omega) (by omega)] | rw [rdX hP e (show 0 ≤ j + 1 by omega) (by omega)] | rw [rdX P1 k1 (show 0 ≤ j + 1 by omega) (by omega)] | rw [h1] | rw [h2])
  rw [if_pos rfl]
theorem lw_791 (hI : Inv s c n) (hP : ∃ E, s = xSh L ++ E) (e : c 1 = X) {j : Int} (j0 : 0 ≤ j) (j1 : j + 6 ≤ L) (hL : L ≤ 3072) : ∃ s2 c2 n2, Rr (Cd 999) 302 791 [some (vA 1), some (vA 29), some (vA 142), some (vI j)] [] (s, c) = Rr (Cd 999) 302 1054 [some (vA 1), some (vA 29), some (vA 142), some (vI j)] [] (s2, c2) ∧ n2 ≤ n + 2 ∧ Inv s2 c2 n2 ∧ (∃ E, s2 = xSh L ++ E) ∧ c2 1 = X := by
  obtain ⟨r, s1, s2, c1, c2, n2, h1, h2, h3, h4, P1, P2, k1, k2⟩ := step_of hI hP e (op_alone (X (j + 1).toNat) (X (j + 2).toNat) (X (j + 3).toNat) (X (j + 4).toNat) (X (j + 5).toNat))
  obtain ⟨x, hx⟩ := Cd_rt (z := 141) (by decide +kernel) h1
  have hx : r = vI x := by simpa using hx
  subst hx
  refine ⟨s2, c2, n2, ?_, h3, h4, P2, k2⟩
  rw [c302_791]
  repeat (first | rw [bnd_s] | rw [tI_m] | rw [tL_m] | rw [tA_m] | rw [tV_m] | rw [w32_id (z := j + 1) (by omega) (by omega)] | rw [rdX hP e (show 0 ≤ j + 1 by omega) (by omega)] | rw [rdX P1 k1 (show 0 ≤ j + 1 by omega) (by omega)] | rw [w32_id (z := j + 2) (by omega) (by omega)] | rw [rdX hP e (show 0 ≤ j + 2 by omega) (by omega)] | rw [rdX P1 k1 (show 0 ≤ j + 2 by omega) (by omega)] | rw [w32_id (z := j + 3) (by omega) (by omega)] | rw [rdX hP e (show 0 ≤ j + 3 by omega) (by omega)] | rw [rdX P1 k1 (show 0 ≤ j + 3 by omega) (by omega)] | rw [w32_id (z := j + 4) (by omega) (by omega)] | rw [rdX hP e (show 0 ≤ j + 4 by omega) (by omega)] | rw [rdX P1 k1 (show 0 ≤ j + 4 by omega) (by omega)] | rw [w32_id (z := j + 5) (by omega) (by omega)] | rw [rdX hP e (show 0 ≤ j + 5 by omega) (by omega)] | rw [rdX P1 k1 (show 0 ≤ j + 5 by omega) (by omega)] | rw [h1] | rw [h2])
  rw [if_pos rfl]
theorem lw_848 (hI : Inv s c n) (hP : ∃ E, s = xSh L ++ E) (e : c 1 = X) {j : Int} (j0 : 0 ≤ j) (j1 : j + 6 ≤ L) (hL : L ≤ 3072) : ∃ s2 c2 n2, Rr (Cd 999) 302 848 [some (vA 1), some (vA 29), some (vA 142), some (vI j)] [] (s, c) = Rr (Cd 999) 302 1054 [some (vA 1), some (vA 29), some (vA 142), some (vI j)] [] (s2, c2) ∧ n2 ≤ n + 2 ∧ Inv s2 c2 n2 ∧ (∃ E, s2 = xSh L ++ E) ∧ c2 1 = X := by
  obtain ⟨r, s1, s2, c1, c2, n2, h1, h2, h3, h4, P1, P2, k1, k2⟩ := step_of hI hP e (op_unlike (X (j + 1).toNat) (X (j + 2).toNat) (X (j + 3).toNat) (X (j + 4).toNat) (X (j + 5).toNat))
  obtain ⟨x, hx⟩ := Cd_rt (z := 142) (by decide +kernel) h1
  have hx : r = vI x := by simpa using hx
  subst hx
  refine ⟨s2, c2, n2, ?_, h3, h4, P2, k2⟩
  rw [c302_848]
  repeat (first | rw [bnd_s] | rw [tI_m] | rw [tL_m] | rw [tA_m] | rw [tV_m] | rw [w32_id (z := j + 1) (by omega) (by omega)] | rw [rdX hP e (show 0 ≤ j + 1 by omega) (by omega)] | rw [rdX P1 k1 (show 0 ≤ j + 1 by omega) (by omega)] | rw [w32_id (z := j + 2) (by omega) (by omega)] | rw [rdX hP e (show 0 ≤ j + 2 by omega) (by omega)] | rw [rdX P1 k1 (show 0 ≤ j + 2 by omega) (by omega)] | rw [w32_id (z := j + 3) (by omega) (by omega)] | rw [rdX hP e (show 0 ≤ j + 3 by omega) (by omega)] | rw [rdX P1 k1 (show 0 ≤ j + 3 by omega) (by omega)] | rw [w32_id (z := j + 4) (by omega) (by omega)] | rw [rdX hP e (show 0 ≤ j + 4 by omega) (by omega)] | rw [rdX P1 k1 (show 0 ≤ j + 4 by omega) (by omega)] | rw [w32_id (z := j + 5) (by omega) (by omega)] | rw [rdX hP e (show 0 ≤ j + 5 by omega) (by omega)] | rw [rdX P1 k1 (show 0 ≤ j + 5 by omega) (by omega)] | rw [h1] | rw [h2])
  rw [if_pos rfl]
theorem lw_905 (hI : Inv s c n) (hP : ∃ E, s = xSh L ++ E) (e : c 1 = X) {j : Int} (j0 : 0 ≤ j) (j1 : j + 6 ≤ L) (hL : L ≤ 3072) : ∃ s2 c2 n2, Rr (Cd 999) 302 905 [some (vA 1), some (vA 29), some (vA 142), some (vI j)] [] (s, c) = Rr (Cd 999) 302 1054 [some (vA 1), some (vA 29), some (vA 142), some (vI j)] [] (s2, c2) ∧ n2 ≤ n + 2 ∧ Inv s2 c2 n2 ∧ (∃ E, s2 = xSh L ++ E) ∧ c2 1 = X := by
  obtain ⟨r, s1, s2, c1, c2, n2, h1, h2, h3, h4, P1, P2, k1, k2⟩ := step_of hI hP e (op_letters (X (j + 1).toNat))
  obtain ⟨x, hx⟩ := Cd_rt (z := 143) (by decide +kernel) h1
  have hx : r = vI x := by simpa using hx
  subst hx
  refine ⟨s2, c2, n2, ?_, h3, h4, P2, k2⟩
  rw [c302_905]
  repeat (first | rw [bnd_s] | rw [tI_m] | rw [tL_m] | rw [tA_m] | rw [tV_m] | rw [w32_id (z := j + 1) (by omega) (by omega)] | rw [rdX hP e (show 0 ≤ j + 1 by omega) (by omega)] | rw [rdX P1 k1 (show 0 ≤ j + 1 by omega) (by omega)] | rw [h1] | rw [h2])
  rw [if_pos rfl]
theorem lw_922 (hI : Inv s c n) (hP : ∃ E, s = xSh L ++ E) (e : c 1 = X) {j : Int} (j0 : 0 ≤ j) (j1 : j + 6 ≤ L) (hL : L ≤ 3072) : ∃ s2 c2 n2, Rr (Cd 999) 302 922 [some (vA 1), some (vA 29), some (vA 142), some (vI j)] [] (s, c) = Rr (Cd 999) 302 1054 [some (vA 1), some (vA 29), some (vA 142), some (vI j)] [] (s2, c2) ∧ n2 ≤ n + 2 ∧ Inv s2 c2 n2 ∧ (∃ E, s2 = xSh L ++ E) ∧ c2 1 = X := by
  obtain ⟨r, s1, s2, c1, c2, n2, h1, h2, h3, h4, P1, P2, k1, k2⟩ := step_of hI hP e (op_row (X (j + 1).toNat) (X (j + 2).toNat) (X (j + 3).toNat))
  obtain ⟨x, hx⟩ := Cd_rt (z := 144) (by decide +kernel) h1
  have hx : r = vI x := by simpa using hx
  subst hx
  refine ⟨s2, c2, n2, ?_, h3, h4, P2, k2⟩
  rw [c302_922]
  repeat (first | rw [bnd_s] | rw [tI_m] | rw [tL_m] | rw [tA_m] | rw [tV_m] | rw [w32_id (z := j + 1) (by omega) (by omega)] | rw [rdX hP e (show 0 ≤ j + 1 by omega) (by omega)] | rw [rdX P1 k1 (show 0 ≤ j + 1 by omega) (by omega)] | rw [w32_id (z := j + 2) (by omega) (by omega)] | rw [rdX hP e (show 0 ≤ j + 2 by omega) (by omega)] | rw [rdX P1 k1 (show 0 ≤ j + 2 by omega) (by omega)] | rw [w32_id (z := j + 3) (by omega) (by omega)] | rw [rdX hP e (show 0 ≤ j + 3 by omega) (by omega)] | rw [rdX P1 k1 (show 0 ≤ j + 3 by omega) (by omega)] | rw [h1] | rw [h2])
  rw [if_pos rfl]
theorem lw_959 (hI : Inv s c n) (hP : ∃ E, s = xSh L ++ E) (e : c 1 = X) {j : Int} (j0 : 0 ≤ j) (j1 : j + 6 ≤ L) (hL : L ≤ 3072) : ∃ s2 c2 n2, Rr (Cd 999) 302 959 [some (vA 1), some (vA 29), some (vA 142), some (vI j)] [] (s, c) = Rr (Cd 999) 302 1054 [some (vA 1), some (vA 29), some (vA 142), some (vI j)] [] (s2, c2) ∧ n2 ≤ n + 2 ∧ Inv s2 c2 n2 ∧ (∃ E, s2 = xSh L ++ E) ∧ c2 1 = X := by
  obtain ⟨r, s1, s2, c1, c2, n2, h1, h2, h3, h4, P1, P2, k1, k2⟩ := step_of hI hP e (op_riddle (X (j + 1).toNat))
  obtain ⟨x, hx⟩ := Cd_rt (z := 145) (by decide +kernel) h1
  have hx : r = vI x := by simpa using hx
  subst hx
  refine ⟨s2, c2, n2, ?_, h3, h4, P2, k2⟩
  rw [c302_959]
  repeat (first | rw [bnd_s] | rw [tI_m] | rw [tL_m] | rw [tA_m] | rw [tV_m] | rw [w32_id (z := j + 1) (by omega) (by omega)] | rw [rdX hP e (show 0 ≤ j + 1 by omega) (by omega)] | rw [rdX P1 k1 (show 0 ≤ j + 1 by omega) (by omega)] | rw [h1] | rw [h2])
  rw [if_pos rfl]
theorem lw_976 (hI : Inv s c n) (hP : ∃ E, s = xSh L ++ E) (e : c 1 = X) {j : Int} (j0 : 0 ≤ j) (j1 : j + 6 ≤ L) (hL : L ≤ 3072) : ∃ s2 c2 n2, Rr (Cd 999) 302 976 [some (vA 1), some (vA 29), some (vA 142), some (vI j)] [] (s, c) = Rr (Cd 999) 302 1054 [some (vA 1), some (vA 29), some (vA 142), some (vI j)] [] (s2, c2) ∧ n2 ≤ n + 2 ∧ Inv s2 c2 n2 ∧ (∃ E, s2 = xSh L ++ E) ∧ c2 1 = X := by
  obtain ⟨r, s1, s2, c1, c2, n2, h1, h2, h3, h4, P1, P2, k1, k2⟩ := step_of hI hP e (op_mended (X (j + 1).toNat) (X (j + 2).toNat) (X (j + 3).toNat) (X (j + 4).toNat))
  obtain ⟨x, hx⟩ := Cd_rt (z := 146) (by decide +kernel) h1
  have hx : r = vI x := by simpa using hx
  subst hx
  refine ⟨s2, c2, n2, ?_, h3, h4, P2, k2⟩
  rw [c302_976]
  repeat (first | rw [bnd_s] | rw [tI_m] | rw [tL_m] | rw [tA_m] | rw [tV_m] | rw [w32_id (z := j + 1) (by omega) (by omega)] | rw [rdX hP e (show 0 ≤ j + 1 by omega) (by omega)] | rw [rdX P1 k1 (show 0 ≤ j + 1 by omega) (by omega)] | rw [w32_id (z := j + 2) (by omega) (by omega)] | rw [rdX hP e (show 0 ≤ j + 2 by omega) (by omega)] | rw [rdX P1 k1 (show 0 ≤ j + 2 by omega) (by omega)] | rw [w32_id (z := j + 3) (by omega) (by omega)] | rw [rdX hP e (show 0 ≤ j + 3 by omega) (by omega)] | rw [rdX P1 k1 (show 0 ≤ j + 3 by omega) (by omega)] | rw [w32_id (z := j + 4) (by omega) (by omega)] | rw [rdX hP e (show 0 ≤ j + 4 by omega) (by omega)] | rw [rdX P1 k1 (show 0 ≤ j + 4 by omega) (by omega)] | rw [h1] | rw [h2])
  rw [if_pos rfl]
theorem lw_1023 (hI : Inv s c n) (hP : ∃ E, s = xSh L ++ E) (e : c 1 = X) {j : Int} (j0 : 0 ≤ j) (j1 : j + 6 ≤ L) (hL : L ≤ 3072) : ∃ s2 c2 n2, Rr (Cd 999) 302 1023 [some (vA 1), some (vA 29), some (vA 142), some (vI j)] [] (s, c) = Rr (Cd 999) 302 1054 [some (vA 1), some (vA 29), some (vA 142), some (vI j)] [] (s2, c2) ∧ n2 ≤ n + 2 ∧ Inv s2 c2 n2 ∧ (∃ E, s2 = xSh L ++ E) ∧ c2 1 = X := by
  obtain ⟨r, s1, s2, c1, c2, n2, h1, h2, h3, h4, P1, P2, k1, k2⟩ := step_of hI hP e (op_image)
  obtain ⟨x, hx⟩ := Cd_rt (z := 147) (by decide +kernel) h1
  have hx : r = vI x := by simpa using hx
  subst hx
  refine ⟨s2, c2, n2, ?_, h3, h4, P2, k2⟩
  rw [c302_1023]
  repeat (first | rw [bnd_s] | rw [tI_m] | rw [tL_m] | rw [tA_m] | rw [tV_m] | rw [h1] | rw [h2])
  rw [if_pos rfl]
theorem lw_1030 (hI : Inv s c n) (hP : ∃ E, s = xSh L ++ E) (e : c 1 = X) {j : Int} (j0 : 0 ≤ j) (j1 : j + 6 ≤ L) (hL : L ≤ 3072) : ∃ s2 c2 n2, Rr (Cd 999) 302 1030 [some (vA 1), some (vA 29), some (vA 142), some (vI j)] [] (s, c) = Rr (Cd 999) 302 1054 [some (vA 1), some (vA 29), some (vA 142), some (vI j)] [] (s2, c2) ∧ n2 ≤ n + 2 ∧ Inv s2 c2 n2 ∧ (∃ E, s2 = xSh L ++ E) ∧ c2 1 = X := by
  obtain ⟨r, s1, s2, c1, c2, n2, h1, h2, h3, h4, P1, P2, k1, k2⟩ := step_of hI hP e (op_back)
  obtain ⟨x, hx⟩ := Cd_rt (z := 148) (by decide +kernel) h1
  have hx : r = vI x := by simpa using hx
  subst hx
  refine ⟨s2, c2, n2, ?_, h3, h4, P2, k2⟩
  rw [c302_1030]
  repeat (first | rw [bnd_s] | rw [tI_m] | rw [tL_m] | rw [tA_m] | rw [tV_m] | rw [h1] | rw [h2])
  rw [if_pos rfl]
theorem lw_1037 (hI : Inv s c n) (hP : ∃ E, s = xSh L ++ E) (e : c 1 = X) {j : Int} (j0 : 0 ≤ j) (j1 : j + 6 ≤ L) (hL : L ≤ 3072) : ∃ s2 c2 n2, Rr (Cd 999) 302 1037 [some (vA 1), some (vA 29), some (vA 142), some (vI j)] [] (s, c) = Rr (Cd 999) 302 1054 [some (vA 1), some (vA 29), some (vA 142), some (vI j)] [] (s2, c2) ∧ n2 ≤ n + 2 ∧ Inv s2 c2 n2 ∧ (∃ E, s2 = xSh L ++ E) ∧ c2 1 = X := by
  obtain ⟨r, s1, s2, c1, c2, n2, h1, h2, h3, h4, P1, P2, k1, k2⟩ := step_of hI hP e (op_about (X (j + 1).toNat))
  obtain ⟨x, hx⟩ := Cd_rt (z := 149) (by decide +kernel) h1
  have hx : r = vI x := by simpa using hx
  subst hx
  refine ⟨s2, c2, n2, ?_, h3, h4, P2, k2⟩
  rw [c302_1037]
  repeat (first | rw [bnd_s] | rw [tI_m] | rw [tL_m] | rw [tA_m] | rw [tV_m] | rw [w32_id (z := j + 1) (by omega) (by omega)] | rw [rdX hP e (show 0 ≤ j + 1 by omega) (by omega)] | rw [rdX P1 k1 (show 0 ≤ j + 1 by omega) (by omega)] | rw [h1] | rw [h2])
  rw [if_pos rfl]
theorem law_loop (hsh : Op 125 219 []) (hL : L ≤ 3072) : ∀ (f : Nat) (j : Int) (s : List (Nat × Nat)) (c : Nat → Nat → Int) (n : Nat), Inv s c n → (∃ E, s = xSh L ++ E) → c 1 = X → 0 ≤ j → (L : Int) < j + 6 * (f + 1) → j ≤ 4000 → ∃ s' c' n', Rr (Cd 999) 302 10 [some (vA 1), some (vA 29), some (vA 142), some (vI j)] [] (s, c) = some ([vI 1], (s', c')) ∧ Inv s' c' n' ∧ n' ≤ n + 2 * f := fun f => by
  have gl : ∀ (s : List (Nat × Nat)) (c : Nat → Nat → Int), (∃ E, s = xSh L ++ E) → gL (s, c) 1 = some (L : Int) := fun s c hP => by
    obtain ⟨E, rfl⟩ := hP
    exact gL_g (t := 110) (o := 1) (n := L) (by rw [List.getElem?_append_left (by rw [xSh_len]; decide)]; rfl) (by decide) c
  induction f with
  | zero =>
    intro j s c n hI hP e j0 hf jb
    refine ⟨s, c, n, ?_, hI, by omega⟩
    rw [c302_10, gl s c hP, bnd_s, w32_id (by omega) (by omega), if_pos (by omega)]
  | succ f IH =>
    intro j s c n hI hP e j0 hf jb
    rw [c302_10, gl s c hP, bnd_s, w32_id (by omega) (by omega)]
    by_cases g : (L : Int) - 6 < j
    · rw [if_pos g]; exact ⟨s, c, n, rfl, hI, by omega⟩
    · rw [if_neg g, rdX hP e j0 (by omega), bnd_s]
      have fin : ∀ s2 c2 n2, n2 ≤ n + 2 → Inv s2 c2 n2 → (∃ E, s2 = xSh L ++ E) → c2 1 = X → ∃ s' c' n', Rr (Cd 999) 302 1054 [some (vA 1), some (vA 29), some (vA 142), some (vI j)] [] (s2, c2) = some ([vI 1], (s', c')) ∧ Inv s' c' n' ∧ n' ≤ n + 2 * (f + 1) := fun s2 c2 n2 h1 h2 h3 h4 => by
        obtain ⟨s', c', n', y1, y2, y3⟩ := IH (j + 6) s2 c2 n2 h2 h3 h4 (by omega) (by omega) (by omega)
        exact ⟨s', c', n', by rw [c302_1054, w32_id (by omega) (by omega)]; exact y1, y2, by omega⟩
      have go : ∀ lab, (∃ s2 c2 n2, Rr (Cd 999) 302 lab [some (vA 1), some (vA 29), some (vA 142), some (vI j)] [] (s, c) = Rr (Cd 999) 302 1054 [some (vA 1), some (vA 29), some (vA 142), some (vI j)] [] (s2, c2) ∧ n2 ≤ n + 2 ∧ Inv s2 c2 n2 ∧ (∃ E, s2 = xSh L ++ E) ∧ c2 1 = X) → ∃ s' c' n', Rr (Cd 999) 302 lab [some (vA 1), some (vA 29), some (vA 142), some (vI j)] [] (s, c) = some ([vI 1], (s', c')) ∧ Inv s' c' n' ∧ n' ≤ n + 2 * (f + 1) := fun lab ⟨s2, c2, n2, h0, h1, h2, h3, h4⟩ => by
        rw [h0]; exact fin s2 c2 n2 h1 h2 h3 h4
      by_cases h0 : iand (X j.toNat) 63 = 0
      · rw [if_pos h0]; exact go 22 (lw_22 hI hP e j0 (by omega) hL)
      rw [if_neg h0]
      by_cases h1 : iand (X j.toNat) 63 = 1
      · rw [if_pos h1]; exact go 39 (lw_39 hI hP e j0 (by omega) hL)
      rw [if_neg h1]
      by_cases h2 : iand (X j.toNat) 63 = 2
      · rw [if_pos h2]; exact go 76 (lw_76 hI hP e j0 (by omega) hL)
      rw [if_neg h2]
      by_cases h3 : iand (X j.toNat) 63 = 3
      · rw [if_pos h3]; exact go 103 (lw_103 hI hP e j0 (by omega) hL)
      rw [if_neg h3]
      by_cases h4 : iand (X j.toNat) 63 = 4
      · rw [if_pos h4]; exact go 140 (lw_140 hI hP e j0 (by omega) hL)
      rw [if_neg h4]
      by_cases h5 : iand (X j.toNat) 63 = 5
      · rw [if_pos h5]; exact go 157 (lw_157 hI hP e j0 (by omega) hL)
      rw [if_neg h5]
      by_cases h6 : iand (X j.toNat) 63 = 6
      · rw [if_pos h6]; exact go 194 (lw_194 hI hP e j0 (by omega) hL)
      rw [if_neg h6]
      by_cases h7 : iand (X j.toNat) 63 = 7
      · rw [if_pos h7]; exact go 251 (lw_251 hI hP e j0 (by omega) hL)
      rw [if_neg h7]
      by_cases h8 : iand (X j.toNat) 63 = 8
      · rw [if_pos h8]; exact go 268 (lw_268 hsh hI hP e j0 (by omega) hL)
      rw [if_neg h8]
      by_cases h9 : iand (X j.toNat) 63 = 9
      · rw [if_pos h9]; exact go 275 (lw_275 hI hP e j0 (by omega) hL)
      rw [if_neg h9]
      by_cases h10 : iand (X j.toNat) 63 = 10
      · rw [if_pos h10]; exact go 292 (lw_292 hI hP e j0 (by omega) hL)
      rw [if_neg h10]
      by_cases h11 : iand (X j.toNat) 63 = 11
      · rw [if_pos h11]; exact go 349 (lw_349 hI hP e j0 (by omega) hL)
      rw [if_neg h11]
      by_cases h12 : iand (X j.toNat) 63 = 12
      · rw [if_pos h12]; exact go 386 (lw_386 hI hP e j0 (by omega) hL)
      rw [if_neg h12]
      by_cases h13 : iand (X j.toNat) 63 = 13
      · rw [if_pos h13]; exact go 423 (lw_423 hI hP e j0 (by omega) hL)
      rw [if_neg h13]
      by_cases h14 : iand (X j.toNat) 63 = 14
      · rw [if_pos h14]; exact go 460 (lw_460 hI hP e j0 (by omega) hL)
      rw [if_neg h14]
      by_cases h15 : iand (X j.toNat) 63 = 15
      · rw [if_pos h15]; exact go 507 (lw_507 hI hP e j0 (by omega) hL)
      rw [if_neg h15]
      by_cases h16 : iand (X j.toNat) 63 = 16
      · rw [if_pos h16]; exact go 544 (lw_544 hI hP e j0 (by omega) hL)
      rw [if_neg h16]
      by_cases h17 : iand (X j.toNat) 63 = 17
      · rw [if_pos h17]; exact go 582 (lw_582 hI hP e j0 (by omega) hL)
      rw [if_neg h17]
      by_cases h18 : iand (X j.toNat) 63 = 18
      · rw [if_pos h18]; exact go 619 (lw_619 hI hP e j0 (by omega) hL)
      rw [if_neg h18]
      by_cases h19 : iand (X j.toNat) 63 = 19
      · rw [if_pos h19]; exact go 656 (lw_656 hI hP e j0 (by omega) hL)
      rw [if_neg h19]
      by_cases h20 : iand (X j.toNat) 63 = 20
      · rw [if_pos h20]; exact go 673 (lw_673 hI hP e j0 (by omega) hL)
      rw [if_neg h20]
      by_cases h21 : iand (X j.toNat) 63 = 21
      · rw [if_pos h21]; exact go 690 (lw_690 hI hP e j0 (by omega) hL)
      rw [if_neg h21]
      by_cases h22 : iand (X j.toNat) 63 = 22
      · rw [if_pos h22]; exact go 747 (lw_747 hI hP e j0 (by omega) hL)
      rw [if_neg h22]
      by_cases h23 : iand (X j.toNat) 63 = 23
      · rw [if_pos h23]; exact go 774 (lw_774 hI hP e j0 (by omega) hL)
      rw [if_neg h23]
      by_cases h24 : iand (X j.toNat) 63 = 24
      · rw [if_pos h24]; exact go 791 (lw_791 hI hP e j0 (by omega) hL)
      rw [if_neg h24]
      by_cases h25 : iand (X j.toNat) 63 = 25
      · rw [if_pos h25]; exact go 848 (lw_848 hI hP e j0 (by omega) hL)
      rw [if_neg h25]
      by_cases h26 : iand (X j.toNat) 63 = 26
      · rw [if_pos h26]; exact go 905 (lw_905 hI hP e j0 (by omega) hL)
      rw [if_neg h26]
      by_cases h27 : iand (X j.toNat) 63 = 27
      · rw [if_pos h27]; exact go 922 (lw_922 hI hP e j0 (by omega) hL)
      rw [if_neg h27]
      by_cases h28 : iand (X j.toNat) 63 = 28
      · rw [if_pos h28]; exact go 959 (lw_959 hI hP e j0 (by omega) hL)
      rw [if_neg h28]
      by_cases h29 : iand (X j.toNat) 63 = 29
      · rw [if_pos h29]; exact go 976 (lw_976 hI hP e j0 (by omega) hL)
      rw [if_neg h29]
      by_cases h30 : iand (X j.toNat) 63 = 30
      · rw [if_pos h30]; exact go 1023 (lw_1023 hI hP e j0 (by omega) hL)
      rw [if_neg h30]
      by_cases h31 : iand (X j.toNat) 63 = 31
      · rw [if_pos h31]; exact go 1030 (lw_1030 hI hP e j0 (by omega) hL)
      rw [if_neg h31]
      by_cases h32 : iand (X j.toNat) 63 = 32
      · rw [if_pos h32]; exact go 1037 (lw_1037 hI hP e j0 (by omega) hL)
      rw [if_neg h32]
      exact fin s c n (by omega) hI hP e
end
theorem sl_ap2 (a b : List (Nat × Nat)) : sl (a ++ b) = sl a + sl b := by
  unfold sl; rw [List.map_append, List.sum_append]
theorem sl_rep (n : Nat) : sl (List.replicate n ((100 : Nat), (2187 : Nat))) = n * 2187 := by
  induction n with
  | zero => rfl
  | succ n ih =>
    rw [List.replicate_succ, show ((100 : Nat), (2187 : Nat)) :: List.replicate n (100, 2187) = [(100, 2187)] ++ List.replicate n (100, 2187) from rfl, sl_ap2, ih]
    have : sl [((100 : Nat), (2187 : Nat))] = 2187 := rfl
    omega
theorem sl_x (L : Nat) : sl (xSh L) ≤ L + 2000 := by
  have : xSh L = [(98, 0), (110, L)] ++ (statA.map (fun q => (110, q.2.length)) ++ strT.flatMap (fun q => [(50, 2), (112, q.length)])) := by
    unfold xSh; rw [List.append_assoc]
  rw [this, sl_ap2]
  have h1 : sl [((98 : Nat), (0 : Nat)), (110, L)] = L := by unfold sl; simp
  have h2 : sl (statA.map (fun q => ((110 : Nat), q.2.length)) ++ strT.flatMap (fun q => [((50 : Nat), (2 : Nat)), (112, q.length)])) ≤ 2000 := by decide +kernel
  omega
theorem sl_t : sl tlShp ≤ 100000 := by decide +kernel
/-- the law holds, if it holds at the start -/
theorem law_of (hsh : Op 125 219 []) (hst : ∀ (L : Nat) (xs : Nat → Int32), L ≤ 3072 → ∃ s c, Cd 1000 302 [vA 1] (xSh L, xCt xs) = Rr (Cd 999) 302 10 [some (vA 1), some (vA 29), some (vA 142), some (vI 0)] [] (s, c) ∧ Inv s c 0 ∧ ∃ E, s = xSh L ++ E) : LawOK := fun L xs hL => by
  obtain ⟨s, c, h1, h2, h3⟩ := hst L xs hL
  obtain ⟨s', c', n', y1, y2, y3⟩ := law_loop (X := c 1) hsh hL 512 0 s c 0 h2 h3 rfl (by omega) (by omega) (by omega)
  refine ⟨(s', c'), by rw [h1]; exact y1, ?_, ?_⟩
  · show s'.length ≤ 600029
    rw [y2.1.len]; omega
  · show sl s' ≤ 7302250
    obtain ⟨L', hL', e⟩ := y2.1
    have a := sl_x L'
    have b := sl_t
    rw [e, sl_ap2, sl_ap2, sl_rep]
    omega
