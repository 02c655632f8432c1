/-! the start: the reference laid -/
def mdB : List (Nat × Nat) := [(100, 340), (100, 340), (100, 6400), (100, 18), (100, 8), (100, 2187), (100, 7), (100, 300), (100, 160), (100, 4), (101, 330), (102, 330), (100, 200), (100, 200), (100, 81), (100, 81)]
def mdF (p : Nat) : List (Nat × Int) := [(40, ((p + 1 + 15 : Nat) : Int)), (39, ((p + 1 + 14 : Nat) : Int)), (38, ((p + 1 + 13 : Nat) : Int)), (37, ((p + 1 + 12 : Nat) : Int)), (31, ((p + 1 + 11 : Nat) : Int)), (30, ((p + 1 + 10 : Nat) : Int)), (29, ((p + 1 + 9 : Nat) : Int)), (21, ((p + 1 + 8 : Nat) : Int)), (11, -1), (10, -1), (8, ((p + 1 + 7 : Nat) : Int)), (7, ((p + 1 + 6 : Nat) : Int)), (5, ((p + 1 + 5 : Nat) : Int)), (4, ((p + 1 + 4 : Nat) : Int)), (3, ((p + 1 + 3 : Nat) : Int)), (2, ((p + 1 + 2 : Nat) : Int)), (1, ((p + 1 + 1 : Nat) : Int)), (0, ((p + 1 + 0 : Nat) : Int))]
def mdG : List (Nat × Nat × (Nat → Int)) := [(16, 81, dfl 100), (15, 81, dfl 100), (14, 200, dfl 100), (13, 200, dfl 100), (12, 330, dfl 102), (11, 330, dfl 101), (10, 4, dfl 100), (9, 160, dfl 100), (8, 300, dfl 100), (7, 7, dfl 100), (6, 2187, dfl 100), (5, 8, fun k => ([1, 3, 9, 27, 81, 243, 729, 2187] : List Int).getD k 0), (4, 18, fun k => ([0, 1, 2, 1, 0, 2, 1, 2, 0, 2, 0, 1, 0, 2, 1, 2, 1, 0] : List Int).getD k 0), (3, 6400, dfl 100), (2, 340, dfl 100), (1, 340, dfl 100)]
set_option maxHeartbeats 4000000 in
theorem n170a (d : Nat) {s : List (Nat × Nat)} {c : Nat → Nat → Int} {p : Nat} (h0 : 0 < p) (h : s[p]? = some (12, 44)) (hl : s.length = p + 1 + 0) : ∃ S c', Cd (d + 1) 170 [vA (p : Int)] (s, c) = Rr (Cd d) 170 178 [some (vA (p : Int)), some (vI 0)] [] (S, c') ∧ S = s ++ mdB ∧ Ly p c c' (mdF p) mdG := by
  have y0 : Ly p c c [] [] := ⟨fun _ _ _ => rfl, fun _ _ => rfl, fun q hq => absurd hq (by simp), fun q hq => absurd hq (by simp)⟩
  rw [c170 (hg := (gS_p s c p).trans h), if_pos ⟨by omega, by decide⟩]
  try dsimp only
  obtain ⟨S1, c1, r1, e1, h1, l1, y1⟩ := ly_n y0 h hl 100 340 0 (by decide) rfl rfl
  rw [r1, bnd_s]
  try dsimp only
  obtain ⟨S2, c2, r2, e2, h2, l2, y2⟩ := ly_n y1 h1 l1 100 340 1 (by decide) rfl rfl
  rw [r2, bnd_s]
  try dsimp only
  obtain ⟨S3, c3, r3, e3, h3, l3, y3⟩ := ly_n y2 h2 l2 100 6400 2 (by decide) rfl rfl
  rw [r3, bnd_s]
  try dsimp only
  obtain ⟨S4, d4, c4, e4, x4, r4, q4, h4, l4, y4⟩ := ly_w18 y3 h3 l3 3 (by decide) rfl rfl
  rw [mk_p, l3, ← e4, pA_g (a := 0) q4 _ _ (by decide) (by decide), bnd_s, pA_g (a := 0) q4 _ _ (by decide) (by decide), bnd_s, pA_g (a := 0) q4 _ _ (by decide) (by decide), bnd_s, pA_g (a := 0) q4 _ _ (by decide) (by decide), bnd_s, pA_g (a := 0) q4 _ _ (by decide) (by decide), bnd_s, pA_g (a := 0) q4 _ _ (by decide) (by decide), bnd_s, pA_g (a := 0) q4 _ _ (by decide) (by decide), bnd_s, pA_g (a := 0) q4 _ _ (by decide) (by decide), bnd_s, pA_g (a := 0) q4 _ _ (by decide) (by decide), bnd_s, pA_g (a := 0) q4 _ _ (by decide) (by decide), bnd_s, pA_g (a := 0) q4 _ _ (by decide) (by decide), bnd_s, pA_g (a := 0) q4 _ _ (by decide) (by decide), bnd_s, pA_g (a := 0) q4 _ _ (by decide) (by decide), bnd_s, pA_g (a := 0) q4 _ _ (by decide) (by decide), bnd_s, pA_g (a := 0) q4 _ _ (by decide) (by decide), bnd_s, pA_g (a := 0) q4 _ _ (by decide) (by decide), bnd_s, pA_g (a := 0) q4 _ _ (by decide) (by decide), bnd_s, pA_g (a := 0) q4 _ _ (by decide) (by decide), bnd_s, ← x4, r4, bnd_s]
  try dsimp only
  obtain ⟨S5, d5, c5, e5, x5, r5, q5, h5, l5, y5⟩ := ly_w8 y4 h4 l4 4 (by decide) rfl rfl
  rw [mk_p, l4, ← e5, pA_g (a := 0) q5 _ _ (by decide) (by decide), bnd_s, pA_g (a := 0) q5 _ _ (by decide) (by decide), bnd_s, pA_g (a := 0) q5 _ _ (by decide) (by decide), bnd_s, pA_g (a := 0) q5 _ _ (by decide) (by decide), bnd_s, pA_g (a := 0) q5 _ _ (by decide) (by decide), bnd_s, pA_g (a := 0) q5 _ _ (by decide) (by decide), bnd_s, pA_g (a := 0) q5 _ _ (by decide) (by decide), bnd_s, pA_g (a := 0) q5 _ _ (by decide) (by decide), bnd_s, ← x5, r5, bnd_s]
  try dsimp only
  obtain ⟨S6, c6, r6, e6, h6, l6, y6⟩ := ly_n y5 h5 l5 100 2187 5 (by decide) rfl rfl
  rw [r6, bnd_s]
  try dsimp only
  obtain ⟨S7, c7, r7, e7, h7, l7, y7⟩ := ly_n y6 h6 l6 100 7 7 (by decide) rfl rfl
  rw [r7, bnd_s]
  try dsimp only
  obtain ⟨S8, c8, r8, e8, h8, l8, y8⟩ := ly_n y7 h7 l7 100 300 8 (by decide) rfl rfl
  rw [r8, bnd_s]
  try dsimp only
  have y9 := ly_f y8 10 (-1) rfl (fun q hq => (all_le (m := 8) rfl q hq).1)
  rw [pF_g h8 _ _ (by decide), bnd_s]
  obtain ⟨c9, x9⟩ : ∃ x, x = u2 c8 p 10 (-1) := ⟨_, rfl⟩
  rw [← x9] at y9 ⊢
  try dsimp only
  have y10 := ly_f y9 11 (-1) rfl (fun q hq => (all_le (m := 8) rfl q hq).1)
  rw [pF_g h8 _ _ (by decide), bnd_s]
  obtain ⟨c10, x10⟩ : ∃ x, x = u2 c9 p 11 (-1) := ⟨_, rfl⟩
  rw [← x10] at y10 ⊢
  try dsimp only
  obtain ⟨S11, c11, r11, e11, h11, l11, y11⟩ := ly_n y10 h8 l8 100 160 21 (by decide) rfl rfl
  rw [r11, bnd_s]
  try dsimp only
  obtain ⟨S12, c12, r12, e12, h12, l12, y12⟩ := ly_n y11 h11 l11 100 4 29 (by decide) rfl rfl
  rw [r12, bnd_s]
  try dsimp only
  obtain ⟨S13, c13, r13, e13, h13, l13, y13⟩ := ly_n y12 h12 l12 101 330 30 (by decide) rfl rfl
  rw [r13, bnd_s]
  try dsimp only
  obtain ⟨S14, c14, r14, e14, h14, l14, y14⟩ := ly_n y13 h13 l13 102 330 31 (by decide) rfl rfl
  rw [r14, bnd_s]
  try dsimp only
  obtain ⟨S15, c15, r15, e15, h15, l15, y15⟩ := ly_n y14 h14 l14 100 200 37 (by decide) rfl rfl
  rw [r15, bnd_s]
  try dsimp only
  obtain ⟨S16, c16, r16, e16, h16, l16, y16⟩ := ly_n y15 h15 l15 100 200 38 (by decide) rfl rfl
  rw [r16, bnd_s]
  try dsimp only
  obtain ⟨S17, c17, r17, e17, h17, l17, y17⟩ := ly_n y16 h16 l16 100 81 39 (by decide) rfl rfl
  rw [r17, bnd_s]
  try dsimp only
  obtain ⟨S18, c18, r18, e18, h18, l18, y18⟩ := ly_n y17 h17 l17 100 81 40 (by decide) rfl rfl
  rw [r18, bnd_s]
  try dsimp only
  refine ⟨S18, c18, rfl, ?_, y18⟩
  rw [e18, e17, e16, e15, e14, e13, e12, e11, e8, e7, e6, e5, e4, e3, e2, e1]
  simp [mdB]
