/-! the start: the end of the reference's laying; all holds at the start -/
def ini (k : Nat) : Int := if 150 ≤ k ∧ k < 290 then -1 else if k = 10 then 1 else if k = 13 then 3 else if k = 14 then 1 else if k = 3 then 1 else 0
theorem n170_178 (d : Nat) {s : List (Nat × Nat)} (hs : SpL s) : ∀ (n m : Nat) (c : Nat → Nat → Int), m + n = 140 → c 142 0 = 143 → ∃ c', Rr (Cd d) 170 178 [some (vA 142), some (vI (m : Int))] [] (s, c) = Rr (Cd d) 170 178 [some (vA 142), some (vI 140)] [] (s, c') ∧ (∀ o k, ¬ (o = 143 ∧ 150 + m ≤ k ∧ k < 290) → c' o k = c o k) ∧ ∀ k, 150 + m ≤ k → k < 290 → c' 143 k = -1
  | 0, m, c, hm, h0 => by
    have : m = 140 := by omega
    subst this
    exact ⟨c, rfl, fun _ _ _ => rfl, fun k h1 h2 => by omega⟩
  | n + 1, m, c, hm, h0 => by
    obtain ⟨c', y1, y2, y3⟩ := n170_178 d hs n (m + 1) (u2 c 143 (150 + m) (-1)) (by omega) (by rw [u2_n (by omega)]; exact h0)
    refine ⟨c', ?_, fun o k hn => by rw [y2 o k (by omega), u2_n (by omega)], fun k h1 h2 => ?_⟩
    · rw [← y1, c170_178, if_pos (by omega), fC142 hs _ (by decide), bnd_s, h0, w32_id (by omega) (by omega), qC143 hs _ _ (by omega) (by omega), bnd_s, w32_id (by omega) (by omega), show (150 + (m : Int)).toNat = 150 + m by omega]
      rfl
    · by_cases e : k = 150 + m
      · rw [y2 _ _ (by omega), e, u2_e]
      · exact y3 k (by omega) h2
theorem n170_e (d : Nat) {s : List (Nat × Nat)} (hs : SpL s) (c : Nat → Nat → Int) (h0 : c 142 0 = 143) (h1 : c 142 1 = 144) (hz : ∀ k, k < 340 → c 143 k = 0) : ∃ c', Rr (Cd (d + 1)) 170 178 [some (vA 142), some (vI 0)] [] (s, c) = some ([], (s, c')) ∧ (∀ o k, o ≠ 143 → o ≠ 144 → c' o k = c o k) ∧ (∀ k, k < 340 → c' 143 k = ini k) ∧ ∀ k, k < 340 → c' 144 k = ini k := by
  obtain ⟨c1, r1, f1, g1⟩ := n170_178 (d + 1) hs 140 0 c (by omega) h0
  have r1' : Rr (Cd (d + 1)) 170 178 [some (vA 142), some (vI 0)] [] (s, c) = _ := r1
  obtain ⟨c2, e2⟩ : ∃ x, x = u2 (u2 (u2 (u2 c1 143 10 1) 143 13 3) 143 14 1) 143 3 1 := ⟨_, rfl⟩
  have f2 : ∀ o k, o ≠ 143 → c2 o k = c1 o k := fun o k ho => by rw [e2, u2_n (fun w => ho w.1), u2_n (fun w => ho w.1), u2_n (fun w => ho w.1), u2_n (fun w => ho w.1)]
  have v2 : ∀ k, k < 340 → c2 143 k = ini k := fun k hk => by
    have hc1 : c1 143 k = if 150 ≤ k ∧ k < 290 then -1 else 0 := by
      split
      · rename_i w; exact g1 k (by omega) w.2
      · rename_i w; rw [f1 143 k (by omega)]; exact hz k hk
    rw [e2]
    unfold u2 ini
    by_cases e3 : k = 3
    · subst e3; rfl
    by_cases e4 : k = 14
    · subst e4; rfl
    by_cases e5 : k = 13
    · subst e5; rfl
    by_cases e6 : k = 10
    · subst e6; rfl
    rw [if_neg (by omega), if_neg (by omega), if_neg (by omega), if_neg (by omega), hc1]
    split
    · rfl
    · first | rfl | rw [if_neg e6, if_neg e5, if_neg e4, if_neg e3]
  obtain ⟨c3, r3, f3, g3, -⟩ := m171_143_2 d hs 340 0 c2 (by omega)
  have r3' : Cd (d + 1) 171 [vA 143, vA 144] (s, c2) = some ([], (s, c3)) := (c171 d _ _ _).trans r3
  have p0 : ∀ c' : Nat → Nat → Int, (∀ k, c' 142 k = c1 142 k) → c' 142 0 = 143 := fun c' h => by rw [h, f1 _ _ (by omega)]; exact h0
  have p1 : c2 142 1 = 144 := by rw [f2 _ _ (by decide), f1 _ _ (by omega)]; exact h1
  refine ⟨c3, ?_, fun o k h3 h4 => by rw [f3 o k (by omega), f2 o k h3, f1 o k (by omega)], fun k hk => by rw [f3 _ _ (by omega)]; exact v2 k hk, fun k hk => by rw [g3 k (by omega) hk]; exact v2 k hk⟩
  rw [r1', c170_178, if_neg (by decide), fC142 hs _ (by decide), bnd_s, p0 c1 (fun _ => rfl), qC143 hs _ _ (by decide) (by decide), bnd_s, fC142 hs _ (by decide), bnd_s, p0 (u2 c1 143 (10 : Int).toNat 1) (fun k => by rw [u2_n (by omega)]), qC143 hs _ _ (by decide) (by decide), bnd_s, fC142 hs _ (by decide), bnd_s, p0 (u2 (u2 c1 143 (10 : Int).toNat 1) 143 (13 : Int).toNat 3) (fun k => by rw [u2_n (by omega), u2_n (by omega)]), qC143 hs _ _ (by decide) (by decide), bnd_s, fC142 hs _ (by decide), bnd_s, p0 (u2 (u2 (u2 c1 143 (10 : Int).toNat 1) 143 (13 : Int).toNat 3) 143 (14 : Int).toNat 1) (fun k => by rw [u2_n (by omega), u2_n (by omega), u2_n (by omega)]), qC143 hs _ _ (by decide) (by decide), bnd_s, show u2 (u2 (u2 (u2 c1 143 (10 : Int).toNat 1) 143 (13 : Int).toNat 3) 143 (14 : Int).toNat 1) 143 (3 : Int).toNat 1 = c2 from e2.symm, fC142 hs _ (by decide), bnd_s, p0 c2 (fun k => f2 _ _ (by decide)), fC142 hs _ (by decide), bnd_s, p1, r3', bnd_s, tV_m, bnd_s]
theorem StRel0 {f tx : Nat → Int} {c : Nat → Nat → Int} {b : Nat} (hf : ∀ k, k < 340 → f k = ini k) (h : StF c b) : StRel f tx c b := by
  obtain ⟨⟨-, -, -, -, -, -, a6, a7⟩, ⟨-, -, b2, b3⟩, ⟨l0, l1, l2, l3, l4⟩, ⟨-, r1, r2⟩, -, -⟩ := h
  have v0 : f 0 = 0 := hf 0 (by decide)
  have v1 : f 1 = 0 := hf 1 (by decide)
  have v2 : f 2 = 0 := hf 2 (by decide)
  have v3 : f 3 = 1 := hf 3 (by decide)
  have v4 : f 4 = 0 := hf 4 (by decide)
  have v10 : f 10 = 1 := hf 10 (by decide)
  have v11 : f 11 = 0 := hf 11 (by decide)
  have v12 : f 12 = 0 := hf 12 (by decide)
  have v13 : f 13 = 3 := hf 13 (by decide)
  have v14 : f 14 = 1 := hf 14 (by decide)
  refine ⟨⟨by rw [a6, v0], by omega, by omega⟩, fun m hm => by omega, fun m hm _ => ?_, ⟨by rw [a7, v1], by omega, by omega⟩, fun k hk => by omega, fun n l h1 h2 h3 h4 => ?_, Or.inl ⟨v4, b3⟩, ⟨⟨by rw [l0, v10], by rw [l1, v11], by rw [l2, v12], by rw [l3, v13], by rw [l4, v14]⟩, by omega, by omega, by omega, by omega, by omega⟩, ⟨⟨by rw [r1, v3], by rw [r2, v2]⟩, by omega, by omega, fun i h1 h2 => by omega⟩⟩
  · rw [show (24 + (m : Int)).toNat = 24 + m by omega, hf _ (by omega)]
    unfold ini
    rw [if_neg (by omega), if_neg (by omega), if_neg (by omega), if_neg (by omega), if_neg (by omega)]
  · have e : f (150 + 7 * n + l).toNat = -1 := by
      rw [hf _ (by omega)]
      unfold ini
      rw [if_pos (by omega)]
    rw [e, b2]
    refine ⟨by omega, by omega, ?_, fun w => absurd w (by decide)⟩
    unfold bt
    rw [show (0 : Int).toNat = 0 from rfl, Nat.zero_testBit]; rfl
theorem fcs {α : Type} {P : α → Prop} {a : α} {l : List α} (h : P a) (g : ∀ q ∈ l, P q) : ∀ q ∈ a :: l, P q := fun q hq => by
  rcases List.mem_cons.mp hq with e | e
  · rw [e]; exact h
  · exact g q e
set_option maxRecDepth 10000 in
theorem CS0 {c : Nat → Nat → Int} (h : ClF c 29) : CS c := by
  obtain ⟨⟨a0, a1, a2, a3, a4, a5, a6⟩, ⟨⟨aa0, aa1, aa2, aa3, aa4, aa5, -, -⟩, ⟨bA0, bA1, -, -⟩, -, ⟨rA0, -, -⟩, mA, kA⟩, ⟨⟨bb0, bb1, bb2, bb3, bb4, bb5, -, -⟩, ⟨bB0, bB1, -, -⟩, -, ⟨rB0, -, -⟩, mB, kB⟩, ⟨⟨t0, t1, t2, t3, t4⟩, -, u0, u1, u2'⟩, ⟨p0, p1, p2, p3, p4⟩, hk, w0, w1⟩ := h
  refine ⟨?_, hk⟩
  let P : Nat × Nat × Int → Prop := fun q => c q.1 q.2.1 = q.2.2
  exact (fcs (P := P) (a := (29, 0, 30)) (a0)
    (fcs (P := P) (a := (29, 1, 76)) (a1)
    (fcs (P := P) (a := (29, 2, 122)) (a2)
    (fcs (P := P) (a := (29, 3, 131)) (a3)
    (fcs (P := P) (a := (29, 4, 137)) (a4)
    (fcs (P := P) (a := (29, 5, 138)) (a5)
    (fcs (P := P) (a := (29, 6, 140)) (a6)
    (fcs (P := P) (a := (30, 0, 31)) (aa0)
    (fcs (P := P) (a := (30, 1, 32)) (aa1)
    (fcs (P := P) (a := (30, 2, 33)) (aa2)
    (fcs (P := P) (a := (30, 3, 36)) (aa3)
    (fcs (P := P) (a := (30, 4, 37)) (aa4)
    (fcs (P := P) (a := (30, 5, 38)) (aa5)
    (fcs (P := P) (a := (31, 0, 40)) ((mA 0 (by decide)).1)
    (fcs (P := P) (a := (31, 1, 45)) ((mA 1 (by decide)).1)
    (fcs (P := P) (a := (31, 2, 50)) ((mA 2 (by decide)).1)
    (fcs (P := P) (a := (31, 3, 55)) ((mA 3 (by decide)).1)
    (fcs (P := P) (a := (32, 0, 60)) ((kA 0 (by decide)).1)
    (fcs (P := P) (a := (32, 1, 62)) ((kA 1 (by decide)).1)
    (fcs (P := P) (a := (32, 2, 64)) ((kA 2 (by decide)).1)
    (fcs (P := P) (a := (32, 3, 66)) ((kA 3 (by decide)).1)
    (fcs (P := P) (a := (32, 4, 68)) ((kA 4 (by decide)).1)
    (fcs (P := P) (a := (32, 5, 70)) ((kA 5 (by decide)).1)
    (fcs (P := P) (a := (32, 6, 72)) ((kA 6 (by decide)).1)
    (fcs (P := P) (a := (32, 7, 74)) ((kA 7 (by decide)).1)
    (fcs (P := P) (a := (33, 0, 34)) (bA0)
    (fcs (P := P) (a := (33, 1, 35)) (bA1)
    (fcs (P := P) (a := (38, 0, 39)) (rA0)
    (fcs (P := P) (a := (40, 0, 41)) ((mA 0 (by decide)).2.1 0 (by decide))
    (fcs (P := P) (a := (40, 1, 42)) ((mA 0 (by decide)).2.1 1 (by decide))
    (fcs (P := P) (a := (40, 2, 43)) ((mA 0 (by decide)).2.1 2 (by decide))
    (fcs (P := P) (a := (40, 3, 44)) ((mA 0 (by decide)).2.1 3 (by decide))
    (fcs (P := P) (a := (45, 0, 46)) ((mA 1 (by decide)).2.1 0 (by decide))
    (fcs (P := P) (a := (45, 1, 47)) ((mA 1 (by decide)).2.1 1 (by decide))
    (fcs (P := P) (a := (45, 2, 48)) ((mA 1 (by decide)).2.1 2 (by decide))
    (fcs (P := P) (a := (45, 3, 49)) ((mA 1 (by decide)).2.1 3 (by decide))
    (fcs (P := P) (a := (50, 0, 51)) ((mA 2 (by decide)).2.1 0 (by decide))
    (fcs (P := P) (a := (50, 1, 52)) ((mA 2 (by decide)).2.1 1 (by decide))
    (fcs (P := P) (a := (50, 2, 53)) ((mA 2 (by decide)).2.1 2 (by decide))
    (fcs (P := P) (a := (50, 3, 54)) ((mA 2 (by decide)).2.1 3 (by decide))
    (fcs (P := P) (a := (55, 0, 56)) ((mA 3 (by decide)).2.1 0 (by decide))
    (fcs (P := P) (a := (55, 1, 57)) ((mA 3 (by decide)).2.1 1 (by decide))
    (fcs (P := P) (a := (55, 2, 58)) ((mA 3 (by decide)).2.1 2 (by decide))
    (fcs (P := P) (a := (55, 3, 59)) ((mA 3 (by decide)).2.1 3 (by decide))
    (fcs (P := P) (a := (60, 0, 61)) ((kA 0 (by decide)).2)
    (fcs (P := P) (a := (62, 0, 63)) ((kA 1 (by decide)).2)
    (fcs (P := P) (a := (64, 0, 65)) ((kA 2 (by decide)).2)
    (fcs (P := P) (a := (66, 0, 67)) ((kA 3 (by decide)).2)
    (fcs (P := P) (a := (68, 0, 69)) ((kA 4 (by decide)).2)
    (fcs (P := P) (a := (70, 0, 71)) ((kA 5 (by decide)).2)
    (fcs (P := P) (a := (72, 0, 73)) ((kA 6 (by decide)).2)
    (fcs (P := P) (a := (74, 0, 75)) ((kA 7 (by decide)).2)
    (fcs (P := P) (a := (76, 0, 77)) (bb0)
    (fcs (P := P) (a := (76, 1, 78)) (bb1)
    (fcs (P := P) (a := (76, 2, 79)) (bb2)
    (fcs (P := P) (a := (76, 3, 82)) (bb3)
    (fcs (P := P) (a := (76, 4, 83)) (bb4)
    (fcs (P := P) (a := (76, 5, 84)) (bb5)
    (fcs (P := P) (a := (77, 0, 86)) ((mB 0 (by decide)).1)
    (fcs (P := P) (a := (77, 1, 91)) ((mB 1 (by decide)).1)
    (fcs (P := P) (a := (77, 2, 96)) ((mB 2 (by decide)).1)
    (fcs (P := P) (a := (77, 3, 101)) ((mB 3 (by decide)).1)
    (fcs (P := P) (a := (78, 0, 106)) ((kB 0 (by decide)).1)
    (fcs (P := P) (a := (78, 1, 108)) ((kB 1 (by decide)).1)
    (fcs (P := P) (a := (78, 2, 110)) ((kB 2 (by decide)).1)
    (fcs (P := P) (a := (78, 3, 112)) ((kB 3 (by decide)).1)
    (fcs (P := P) (a := (78, 4, 114)) ((kB 4 (by decide)).1)
    (fcs (P := P) (a := (78, 5, 116)) ((kB 5 (by decide)).1)
    (fcs (P := P) (a := (78, 6, 118)) ((kB 6 (by decide)).1)
    (fcs (P := P) (a := (78, 7, 120)) ((kB 7 (by decide)).1)
    (fcs (P := P) (a := (79, 0, 80)) (bB0)
    (fcs (P := P) (a := (79, 1, 81)) (bB1)
    (fcs (P := P) (a := (84, 0, 85)) (rB0)
    (fcs (P := P) (a := (86, 0, 87)) ((mB 0 (by decide)).2.1 0 (by decide))
    (fcs (P := P) (a := (86, 1, 88)) ((mB 0 (by decide)).2.1 1 (by decide))
    (fcs (P := P) (a := (86, 2, 89)) ((mB 0 (by decide)).2.1 2 (by decide))
    (fcs (P := P) (a := (86, 3, 90)) ((mB 0 (by decide)).2.1 3 (by decide))
    (fcs (P := P) (a := (91, 0, 92)) ((mB 1 (by decide)).2.1 0 (by decide))
    (fcs (P := P) (a := (91, 1, 93)) ((mB 1 (by decide)).2.1 1 (by decide))
    (fcs (P := P) (a := (91, 2, 94)) ((mB 1 (by decide)).2.1 2 (by decide))
    (fcs (P := P) (a := (91, 3, 95)) ((mB 1 (by decide)).2.1 3 (by decide))
    (fcs (P := P) (a := (96, 0, 97)) ((mB 2 (by decide)).2.1 0 (by decide))
    (fcs (P := P) (a := (96, 1, 98)) ((mB 2 (by decide)).2.1 1 (by decide))
    (fcs (P := P) (a := (96, 2, 99)) ((mB 2 (by decide)).2.1 2 (by decide))
    (fcs (P := P) (a := (96, 3, 100)) ((mB 2 (by decide)).2.1 3 (by decide))
    (fcs (P := P) (a := (101, 0, 102)) ((mB 3 (by decide)).2.1 0 (by decide))
    (fcs (P := P) (a := (101, 1, 103)) ((mB 3 (by decide)).2.1 1 (by decide))
    (fcs (P := P) (a := (101, 2, 104)) ((mB 3 (by decide)).2.1 2 (by decide))
    (fcs (P := P) (a := (101, 3, 105)) ((mB 3 (by decide)).2.1 3 (by decide))
    (fcs (P := P) (a := (106, 0, 107)) ((kB 0 (by decide)).2)
    (fcs (P := P) (a := (108, 0, 109)) ((kB 1 (by decide)).2)
    (fcs (P := P) (a := (110, 0, 111)) ((kB 2 (by decide)).2)
    (fcs (P := P) (a := (112, 0, 113)) ((kB 3 (by decide)).2)
    (fcs (P := P) (a := (114, 0, 115)) ((kB 4 (by decide)).2)
    (fcs (P := P) (a := (116, 0, 117)) ((kB 5 (by decide)).2)
    (fcs (P := P) (a := (118, 0, 119)) ((kB 6 (by decide)).2)
    (fcs (P := P) (a := (120, 0, 121)) ((kB 7 (by decide)).2)
    (fcs (P := P) (a := (122, 0, 123)) (t0)
    (fcs (P := P) (a := (122, 1, 124)) (t1)
    (fcs (P := P) (a := (122, 2, 125)) (t2)
    (fcs (P := P) (a := (122, 3, 126)) (t3)
    (fcs (P := P) (a := (122, 4, 127)) (t4)
    (fcs (P := P) (a := (127, 0, 128)) (u0)
    (fcs (P := P) (a := (127, 1, 129)) (u1)
    (fcs (P := P) (a := (127, 2, 130)) (u2')
    (fcs (P := P) (a := (131, 0, 132)) (p0)
    (fcs (P := P) (a := (131, 1, 133)) (p1)
    (fcs (P := P) (a := (131, 2, 134)) (p2)
    (fcs (P := P) (a := (131, 3, 135)) (p3)
    (fcs (P := P) (a := (131, 4, 136)) (p4)
    (fcs (P := P) (a := (138, 0, 139)) (w0)
    (fcs (P := P) (a := (140, 0, 141)) (w1)
    (fun q hq => absurd hq (by simp))))))))))))))))))))))))))))))))))))))))))))))))))))))))))))))))))))))))))))))))))))))))))))))))))))))))))))))))))
