/-! image and back -/
theorem cpy_n {c : Nat → Nat → Int} {so sp e dp n i k : Nat} (h : ¬ (i = e ∧ dp ≤ k ∧ k < dp + n)) : cpy c so sp e dp n i k = c i k := if_neg h
theorem cpy_e {c : Nat → Nat → Int} {so e n k : Nat} (h : k < n) : cpy c so 0 e 0 n e k = c so k := by
  unfold cpy
  rw [if_pos ⟨rfl, Nat.zero_le _, by omega⟩, Nat.zero_add, Nat.sub_zero]
section
variable {s : List (Nat × Nat)} {c : Nat → Nat → Int}
theorem k8 (d : Nat) {q p : Nat} (hq : CH s c q) (hp : CH s c p) (hd : q + 5 ≤ p ∨ p + 5 ≤ q) : ∃ c1, Cd (d + 1) 8 [vA (q : Int), vA (p : Int)] (s, c) = some ([], (s, c1)) ∧ (∀ o k, ¬ (o = q ∧ (k = 4 ∨ k = 5 ∨ k = 9)) → o ≠ q + 1 → o ≠ q + 2 → o ≠ q + 3 → c1 o k = c o k) ∧ c1 q 4 = c p 4 ∧ c1 q 5 = c p 5 ∧ c1 q 9 = 0 ∧ (∀ k, k < 15 → c1 (q + 1) k = c (p + 1) k) ∧ (∀ k, k < 15 → c1 (q + 2) k = c (p + 2) k) ∧ ∀ k, k < 7 → c1 (q + 3) k = c (p + 3) k := by
  have hg := hq.g
  obtain ⟨⟨s0, s1, s2, s3, s4⟩, r0, r1, r2, r3⟩ := hq
  obtain ⟨⟨t0, t1, t2, t3, t4⟩, u0, u1, u2', u3⟩ := hp
  refine ⟨cpy (cpy (cpy (u2 (u2 (u2 c q 4 (c p 4)) q 5 (c p 5)) q 9 0) (p + 1) 0 (q + 1) 0 15) (p + 2) 0 (q + 2) 0 15) (p + 3) 0 (q + 3) 0 7, ?_, fun o k h1 h2 h3 h4 => ?_, ?_, ?_, ?_, fun k hk => ?_, fun k hk => ?_, fun k hk => ?_⟩
  · rw [c8 (hg := hg)]
    repeat (first | rw [bnd_s] | rw [tI_m] | rw [tL_m] | rw [tA_m] | rw [tV_m] | rw [gF_g s0 _ (by decide)] | rw [gF_g t0 _ (by decide)] | rw [pF_g s0 _ _ (by decide)] | rw [u2_e] | rw [u2_n (by omega)] | rw [cpy_n (by omega)] | rw [r0] | rw [r1] | rw [r2] | rw [u0] | rw [u1] | rw [u2'] | rw [acp_g t1 s1 _ (by decide) (by decide) (by decide) (by decide) (by decide)] | rw [acp_g t2 s2 _ (by decide) (by decide) (by decide) (by decide) (by decide)] | rw [acp_g t3 s3 _ (by decide) (by decide) (by decide) (by decide) (by decide)])
    rfl
  · rw [cpy_n (by omega), cpy_n (by omega), cpy_n (by omega), u2_n (by omega), u2_n (by omega), u2_n (by omega)]
  · rw [cpy_n (by omega), cpy_n (by omega), cpy_n (by omega), u2_n (by omega), u2_n (by omega), u2_e]
  · rw [cpy_n (by omega), cpy_n (by omega), cpy_n (by omega), u2_n (by omega), u2_e]
  · rw [cpy_n (by omega), cpy_n (by omega), cpy_n (by omega), u2_e]
  · rw [cpy_n (by omega), cpy_n (by omega), cpy_e hk, u2_n (by omega), u2_n (by omega), u2_n (by omega)]
  · rw [cpy_n (by omega), cpy_e hk, cpy_n (by omega), u2_n (by omega), u2_n (by omega), u2_n (by omega)]
  · rw [cpy_e hk, cpy_n (by omega), cpy_n (by omega), u2_n (by omega), u2_n (by omega), u2_n (by omega)]
def SH (s : List (Nat × Nat)) (c : Nat → Nat → Int) (q : Nat) : Prop := (s[q]? = some (8, 4) ∧ s[q + 1]? = some (100, 49)) ∧ c q 0 = ((q + 1 : Nat) : Int)
theorem k105 (d : Nat) {q p : Nat} (hq : SH s c q) (hp : SH s c p) (hd : q + 2 ≤ p ∨ p + 2 ≤ q) (ho : c p 3 = 0 ∨ c p 3 = 1) : ∃ c1, Cd (d + 1) 105 [vA (q : Int), vA (p : Int)] (s, c) = some ([], (s, c1)) ∧ (∀ o k, ¬ (o = q ∧ 1 ≤ k ∧ k < 4) → o ≠ q + 1 → c1 o k = c o k) ∧ (∀ k, 1 ≤ k → k < 4 → c1 q k = c p k) ∧ ∀ k, k < 49 → c1 (q + 1) k = c (p + 1) k := by
  obtain ⟨⟨s0, s1⟩, r0⟩ := hq
  obtain ⟨⟨t0, t1⟩, u0⟩ := hp
  refine ⟨u2 (u2 (u2 (cpy c (p + 1) 0 (q + 1) 0 49) q 1 (c p 1)) q 2 (c p 2)) q 3 (c p 3), ?_, fun o k h1 h2 => ?_, fun k h1 h2 => ?_, fun k hk => ?_⟩
  · rw [c105 (hg := (gS_p s c q).trans s0)]
    repeat (first | rw [bnd_s] | rw [tI_m] | rw [tL_m] | rw [tA_m] | rw [tV_m] | rw [gF_g s0 _ (by decide)] | rw [gF_g t0 _ (by decide)] | rw [pF_g s0 _ _ (by decide)] | rw [r0] | rw [u0] | rw [gL_g s1 (by decide)] | rw [u2_e] | rw [u2_n (by omega)] | rw [cpy_n (by omega)] | rw [acp_g t1 s1 _ (by decide) (by decide) (by decide) (by decide) (by decide)] | rw [if_pos ho])
    rfl
  · rw [u2_n (by omega), u2_n (by omega), u2_n (by omega), cpy_n (by omega)]
  · have : k = 1 ∨ k = 2 ∨ k = 3 := by omega
    rcases this with rfl | rfl | rfl
    · rw [u2_n (by omega), u2_n (by omega), u2_e]
    · rw [u2_n (by omega), u2_e]
    · rw [u2_e]
  · rw [u2_n (by omega), u2_n (by omega), u2_n (by omega), cpy_e hk]
/-- a state, where it lies -/
def SB (s : List (Nat × Nat)) (c : Nat → Nat → Int) (b : Nat) : Prop := (s[b]? = some (10, 8) ∧ s[b + 1]? = some (103, 4) ∧ s[b + 2]? = some (104, 8) ∧ s[b + 3]? = some (9, 2) ∧ s[b + 4]? = some (100, 20) ∧ s[b + 5]? = some (100, 140) ∧ s[b + 6]? = some (0, 3) ∧ s[b + 7]? = some (3, 5) ∧ s[b + 8]? = some (7, 3) ∧ s[b + 9]? = some (100, 9)) ∧ (c b 0 = ((b + 1 : Nat) : Int) ∧ c b 1 = ((b + 2 : Nat) : Int) ∧ c b 2 = ((b + 3 : Nat) : Int) ∧ c b 3 = ((b + 6 : Nat) : Int) ∧ c b 4 = ((b + 7 : Nat) : Int) ∧ c b 5 = ((b + 8 : Nat) : Int)) ∧ (c (b + 3) 0 = ((b + 4 : Nat) : Int) ∧ c (b + 3) 1 = ((b + 5 : Nat) : Int) ∧ c (b + 8) 0 = ((b + 9 : Nat) : Int)) ∧ (∀ m, m < 4 → c (b + 1) m = ((b + 10 + 5 * m : Nat) : Int) ∧ CH s c (b + 10 + 5 * m)) ∧ ∀ j, j < 8 → c (b + 2) j = ((b + 30 + 2 * j : Nat) : Int) ∧ SH s c (b + 30 + 2 * j)
theorem SB_of {c' : Nat → Nat → Int} {b : Nat} (h : SB s c b) (e : ∀ o k, b ≤ o → o < b + 46 → (o = b → k < 6) → (o = b + 8 → k < 1) → (b + 10 ≤ o → o < b + 30 → k < 4) → (b + 30 ≤ o → k < 1) → o ≠ b + 4 → o ≠ b + 5 → o ≠ b + 6 → o ≠ b + 7 → o ≠ b + 9 → (b + 10 ≤ o → o < b + 30 → (o - b) % 5 = 0) → (b + 30 ≤ o → (o - b) % 2 = 0) → c' o k = c o k) : SB s c' b := by
  obtain ⟨h1, ⟨a0, a1, a2, a3, a4, a5⟩, ⟨g0, g1, g2⟩, h3, h4⟩ := h
  refine ⟨h1, ⟨?_, ?_, ?_, ?_, ?_, ?_⟩, ⟨?_, ?_, ?_⟩, fun m hm => ⟨?_, CH_of (h3 m hm).2 (fun k hk => ?_)⟩, fun j hj => ⟨?_, (h4 j hj).2.1, ?_⟩⟩
  all_goals rw [e _ _ (by omega) (by omega) (by omega) (by omega) (by omega) (by omega) (by omega) (by omega) (by omega) (by omega) (by omega) (by omega) (by omega)]
  all_goals first | assumption | exact (h3 m hm).1 | exact (h4 j hj).1 | exact (h4 j hj).2.2
theorem SB_30 (hs : SpL s) (hc : CS c) : SB s c 30 := by
  refine ⟨⟨sC30 hs, sC31 hs, sC32 hs, sC33 hs, sC34 hs, sC35 hs, sC36 hs, sC37 hs, sC38 hs, sC39 hs⟩, ⟨CS_30_0 hc, CS_30_1 hc, CS_30_2 hc, CS_30_3 hc, CS_30_4 hc, CS_30_5 hc⟩, ⟨CS_33_0 hc, CS_33_1 hc, CS_38_0 hc⟩, fun m hm => ⟨CS_31 hc hm, chN hs hc hm⟩, fun j hj => ⟨CS_32 hc hj, ?_⟩⟩
  rcases n8 hj with rfl | rfl | rfl | rfl | rfl | rfl | rfl | rfl
  · exact ⟨⟨sC60 hs, sC61 hs⟩, CS_60_0 hc⟩
  · exact ⟨⟨sC62 hs, sC63 hs⟩, CS_62_0 hc⟩
  · exact ⟨⟨sC64 hs, sC65 hs⟩, CS_64_0 hc⟩
  · exact ⟨⟨sC66 hs, sC67 hs⟩, CS_66_0 hc⟩
  · exact ⟨⟨sC68 hs, sC69 hs⟩, CS_68_0 hc⟩
  · exact ⟨⟨sC70 hs, sC71 hs⟩, CS_70_0 hc⟩
  · exact ⟨⟨sC72 hs, sC73 hs⟩, CS_72_0 hc⟩
  · exact ⟨⟨sC74 hs, sC75 hs⟩, CS_74_0 hc⟩
theorem SB_76 (hs : SpL s) (hc : CS c) : SB s c 76 := by
  refine ⟨⟨sC76 hs, sC77 hs, sC78 hs, sC79 hs, sC80 hs, sC81 hs, sC82 hs, sC83 hs, sC84 hs, sC85 hs⟩, ⟨CS_76_0 hc, CS_76_1 hc, CS_76_2 hc, CS_76_3 hc, CS_76_4 hc, CS_76_5 hc⟩, ⟨CS_79_0 hc, CS_79_1 hc, CS_84_0 hc⟩, fun m hm => ⟨CS_77 hc hm, chK hs hc hm⟩, fun j hj => ⟨CS_78 hc hj, ?_⟩⟩
  rcases n8 hj with rfl | rfl | rfl | rfl | rfl | rfl | rfl | rfl
  · exact ⟨⟨sC106 hs, sC107 hs⟩, CS_106_0 hc⟩
  · exact ⟨⟨sC108 hs, sC109 hs⟩, CS_108_0 hc⟩
  · exact ⟨⟨sC110 hs, sC111 hs⟩, CS_110_0 hc⟩
  · exact ⟨⟨sC112 hs, sC113 hs⟩, CS_112_0 hc⟩
  · exact ⟨⟨sC114 hs, sC115 hs⟩, CS_114_0 hc⟩
  · exact ⟨⟨sC116 hs, sC117 hs⟩, CS_116_0 hc⟩
  · exact ⟨⟨sC118 hs, sC119 hs⟩, CS_118_0 hc⟩
  · exact ⟨⟨sC120 hs, sC121 hs⟩, CS_120_0 hc⟩
/-- what a chart's copying may write -/
def CWm (b : Nat) (o k : Nat) : Prop := ((o - b) % 5 = 0 ∧ (k = 4 ∨ k = 5 ∨ k = 9)) ∨ (o - b) % 5 = 1 ∨ (o - b) % 5 = 2 ∨ (o - b) % 5 = 3
def CWs (b : Nat) (o k : Nat) : Prop := ((o - b) % 2 = 0 ∧ 1 ≤ k ∧ k < 4) ∨ (o - b) % 2 = 1
theorem k115_6 (d : Nat) {b e N : Nat} (hd : b + 46 ≤ e ∨ e + 46 ≤ b) (hN : N ≤ 4) : ∀ (n m : Nat) (c : Nat → Nat → Int), m + n = N → SB s c b → SB s c e → c b 6 = (N : Int) → ∃ c1, Rr (Cd (d + 1)) 115 6 [some (vA (b : Int)), some (vA (e : Int)), some (vI (m : Int))] [] (s, c) = Rr (Cd (d + 1)) 115 6 [some (vA (b : Int)), some (vA (e : Int)), some (vI (N : Int))] [] (s, c1) ∧ (∀ o k, ¬ (b + 10 + 5 * m ≤ o ∧ o < b + 30 ∧ CWm b o k) → c1 o k = c o k) ∧ ∀ j, m ≤ j → j < N → c1 (b + 10 + 5 * j) 4 = c (e + 10 + 5 * j) 4 ∧ c1 (b + 10 + 5 * j) 5 = c (e + 10 + 5 * j) 5 ∧ c1 (b + 10 + 5 * j) 9 = 0 ∧ (∀ k, k < 15 → c1 (b + 10 + 5 * j + 1) k = c (e + 10 + 5 * j + 1) k) ∧ (∀ k, k < 15 → c1 (b + 10 + 5 * j + 2) k = c (e + 10 + 5 * j + 2) k) ∧ ∀ k, k < 7 → c1 (b + 10 + 5 * j + 3) k = c (e + 10 + 5 * j + 3) k
  | 0, m, c, h, hb, he, h6 => ⟨c, by rw [show m = N by omega], fun _ _ _ => rfl, fun j h1 h2 => by omega⟩
  | n + 1, m, c, h, hb, he, h6 => by
    obtain ⟨c1, r1, f1, g1⟩ := k8 d (hb.2.2.2.1 m (by omega)).2 (he.2.2.2.1 m (by omega)).2 (by omega)
    have hb1 : SB s c1 b := SB_of hb (fun o k _ _ _ _ _ _ _ _ _ _ _ _ _ => f1 o k (by omega) (by omega) (by omega) (by omega))
    have he1 : SB s c1 e := SB_of he (fun o k _ _ _ _ _ _ _ _ _ _ _ _ _ => f1 o k (by omega) (by omega) (by omega) (by omega))
    obtain ⟨c2, r2, f2, g2⟩ := k115_6 d hd hN n (m + 1) c1 (by omega) hb1 he1 (by rw [f1 _ _ (by omega) (by omega) (by omega) (by omega)]; exact h6)
    refine ⟨c2, ?_, fun o k hk => ?_, fun j h1 h2 => ?_⟩
    · rw [c115_6]
      obtain ⟨⟨q0, q1, -⟩, ⟨a0, -⟩, -, q3, -⟩ := id hb
      obtain ⟨⟨p0, p1, -⟩, ⟨e0, -⟩, -, p3, -⟩ := id he
      have w := (q3 m (by omega)).1
      have w' := (p3 m (by omega)).1
      repeat (first | rw [bnd_s] | rw [tI_m] | rw [tL_m] | rw [tA_m] | rw [tV_m] | rw [gF_g q0 _ (by decide)] | rw [gF_g p0 _ (by decide)] | rw [h6] | rw [if_pos (show (m : Int) < (N : Int) by omega)] | rw [a0] | rw [e0] | rw [gR_g q1 (by decide) _ (show (0 : Int) ≤ (m : Int) by omega) (by omega)] | rw [gR_g p1 (by decide) _ (show (0 : Int) ≤ (m : Int) by omega) (by omega)] | rw [Int.toNat_natCast] | rw [w] | rw [w'] | rw [r1] | rw [w32_id (z := (m : Int) + 1) (by omega) (by omega)])
      exact r2
    · unfold CWm at hk f2
      rw [f2 o k (by omega), f1 o k (by omega) (by omega) (by omega) (by omega)]
    · by_cases x : j = m
      · subst x
        unfold CWm at f2
        refine ⟨?_, ?_, ?_, fun k hk => ?_, fun k hk => ?_, fun k hk => ?_⟩ <;> rw [f2 _ _ (by omega)]
        · exact g1.1
        · exact g1.2.1
        · exact g1.2.2.1
        · exact g1.2.2.2.1 k hk
        · exact g1.2.2.2.2.1 k hk
        · exact g1.2.2.2.2.2 k hk
      · have z := g2 j (by omega) h2
        refine ⟨z.1.trans (f1 _ _ (by omega) (by omega) (by omega) (by omega)), z.2.1.trans (f1 _ _ (by omega) (by omega) (by omega) (by omega)), z.2.2.1, fun k hk => (z.2.2.2.1 k hk).trans (f1 _ _ (by omega) (by omega) (by omega) (by omega)), fun k hk => (z.2.2.2.2.1 k hk).trans (f1 _ _ (by omega) (by omega) (by omega) (by omega)), fun k hk => (z.2.2.2.2.2 k hk).trans (f1 _ _ (by omega) (by omega) (by omega) (by omega))⟩
theorem k115_27 (d : Nat) {b e S : Nat} (hd : b + 46 ≤ e ∨ e + 46 ≤ b) (hS : S ≤ 8) : ∀ (n m : Nat) (c : Nat → Nat → Int), m + n = S → SB s c b → SB s c e → c b 7 = (S : Int) → (∀ j, j < S → c (e + 30 + 2 * j) 3 = 0 ∨ c (e + 30 + 2 * j) 3 = 1) → ∃ c1, Rr (Cd (d + 1)) 115 27 [some (vA (b : Int)), some (vA (e : Int)), some (vI (m : Int))] [] (s, c) = Rr (Cd (d + 1)) 115 27 [some (vA (b : Int)), some (vA (e : Int)), some (vI (S : Int))] [] (s, c1) ∧ (∀ o k, ¬ (b + 30 + 2 * m ≤ o ∧ o < b + 46 ∧ CWs b o k) → c1 o k = c o k) ∧ ∀ j, m ≤ j → j < S → (∀ k, 1 ≤ k → k < 4 → c1 (b + 30 + 2 * j) k = c (e + 30 + 2 * j) k) ∧ ∀ k, k < 49 → c1 (b + 30 + 2 * j + 1) k = c (e + 30 + 2 * j + 1) k
  | 0, m, c, h, hb, he, h6, ho => ⟨c, by rw [show m = S by omega], fun _ _ _ => rfl, fun j h1 h2 => by omega⟩
  | n + 1, m, c, h, hb, he, h6, ho => by
    obtain ⟨c1, r1, f1, g1⟩ := k105 d (hb.2.2.2.2 m (by omega)).2 (he.2.2.2.2 m (by omega)).2 (by omega) (ho m (by omega))
    have hb1 : SB s c1 b := SB_of hb (fun o k _ _ _ _ _ _ _ _ _ _ _ _ _ => f1 o k (by omega) (by omega))
    have he1 : SB s c1 e := SB_of he (fun o k _ _ _ _ _ _ _ _ _ _ _ _ _ => f1 o k (by omega) (by omega))
    obtain ⟨c2, r2, f2, g2⟩ := k115_27 d hd hS n (m + 1) c1 (by omega) hb1 he1 (by rw [f1 _ _ (by omega) (by omega)]; exact h6) (fun j hj => by rw [f1 _ _ (by omega) (by omega)]; exact ho j hj)
    refine ⟨c2, ?_, fun o k hk => ?_, fun j h1 h2 => ?_⟩
    · rw [c115_27]
      obtain ⟨⟨q0, -, q1, -⟩, ⟨-, a0, -⟩, -, -, q3⟩ := id hb
      obtain ⟨⟨p0, -, p1, -⟩, ⟨-, e0, -⟩, -, -, p3⟩ := id he
      have w := (q3 m (by omega)).1
      have w' := (p3 m (by omega)).1
      repeat (first | rw [bnd_s] | rw [tI_m] | rw [tL_m] | rw [tA_m] | rw [tV_m] | rw [gF_g q0 _ (by decide)] | rw [gF_g p0 _ (by decide)] | rw [h6] | rw [if_pos (show (m : Int) < (S : Int) by omega)] | rw [a0] | rw [e0] | rw [gR_g q1 (by decide) _ (show (0 : Int) ≤ (m : Int) by omega) (by omega)] | rw [gR_g p1 (by decide) _ (show (0 : Int) ≤ (m : Int) by omega) (by omega)] | rw [Int.toNat_natCast] | rw [w] | rw [w'] | rw [r1] | rw [w32_id (z := (m : Int) + 1) (by omega) (by omega)])
      exact r2
    · unfold CWs at hk f2
      rw [f2 o k (by omega), f1 o k (by omega) (by omega)]
    · by_cases x : j = m
      · subst x
        unfold CWs at f2
        refine ⟨fun k h1 h2 => ?_, fun k hk => ?_⟩ <;> rw [f2 _ _ (by omega)]
        · exact g1.1 k h1 h2
        · exact g1.2 k hk
      · have z := g2 j (by omega) h2
        exact ⟨fun k h1 h2 => (z.1 k h1 h2).trans (f1 _ _ (by omega) (by omega)), fun k hk => (z.2 k hk).trans (f1 _ _ (by omega) (by omega))⟩
/-- what is copied, as far as it is read -/
def CpR (N S o k : Nat) : Prop := (o = 0 ∧ (k = 6 ∨ k = 7)) ∨ (o = 4 ∧ k < 20) ∨ (o = 5 ∧ k < 140) ∨ (o = 6 ∧ k < 3) ∨ (o = 7 ∧ k < 5) ∨ (o = 8 ∧ (k = 1 ∨ k = 2)) ∨ (o = 9 ∧ k < 9) ∨ (10 ≤ o ∧ o < 10 + 5 * N ∧ ((o % 5 = 0 ∧ (k = 4 ∨ k = 5)) ∨ ((o % 5 = 1 ∨ o % 5 = 2) ∧ k < 15) ∨ (o % 5 = 3 ∧ k < 7))) ∨ (30 ≤ o ∧ o < 30 + 2 * S ∧ ((o % 2 = 0 ∧ 1 ≤ k ∧ k < 4) ∨ (o % 2 = 1 ∧ k < 49)))
def CpW (b o k : Nat) : Prop := (o = b ∧ (k = 6 ∨ k = 7)) ∨ (b + 4 ≤ o ∧ o ≤ b + 7) ∨ (o = b + 8 ∧ 1 ≤ k) ∨ o = b + 9 ∨ (b + 10 ≤ o ∧ o < b + 30 ∧ CWm b o k) ∨ (b + 30 ≤ o ∧ o < b + 46 ∧ CWs b o k)
theorem k115_t (d : Nat) {b e S : Nat} (hd : b + 46 ≤ e ∨ e + 46 ≤ b) (hb : SB s c b) (he : SB s c e) (h7 : c b 7 = (S : Int)) : ∃ c1, Rr (Cd (d + 1)) 115 27 [some (vA (b : Int)), some (vA (e : Int)), some (vI (S : Int))] [] (s, c) = some ([], (s, c1)) ∧ (∀ o k, ¬ ((b + 4 ≤ o ∧ o ≤ b + 7) ∨ (o = b + 8 ∧ 1 ≤ k) ∨ o = b + 9) → c1 o k = c o k) ∧ ∀ o k, ((o = 4 ∧ k < 20) ∨ (o = 5 ∧ k < 140) ∨ (o = 6 ∧ k < 3) ∨ (o = 7 ∧ k < 5) ∨ (o = 8 ∧ (k = 1 ∨ k = 2)) ∨ (o = 9 ∧ k < 9)) → c1 (b + o) k = c (e + o) k := by
  obtain ⟨⟨x0, -, -, x3, x4, x5, x6, x7, x8, x9⟩, ⟨-, -, y2, y3, y4, y5⟩, ⟨z3, z4, z8⟩, -, -⟩ := hb
  obtain ⟨⟨x0', -, -, x3', x4', x5', x6', x7', x8', x9'⟩, ⟨-, -, y2', y3', y4', y5'⟩, ⟨z3', z4', z8'⟩, -, -⟩ := he
  refine ⟨(u2 (u2 (cpy (u2 (u2 (u2 (u2 (u2 (u2 (u2 (u2 (cpy (cpy c (e + 4) 0 (b + 4) 0 20) (e + 5) 0 (b + 5) 0 140) (b + 6) 0 (c (e + 6) 0)) (b + 6) 1 (c (e + 6) 1)) (b + 6) 2 (c (e + 6) 2)) (b + 7) 0 (c (e + 7) 0)) (b + 7) 1 (c (e + 7) 1)) (b + 7) 2 (c (e + 7) 2)) (b + 7) 3 (c (e + 7) 3)) (b + 7) 4 (c (e + 7) 4)) (e + 9) 0 (b + 9) 0 9) (b + 8) 1 (c (e + 8) 1)) (b + 8) 2 (c (e + 8) 2)), ?_, fun o k h => ?_, fun o k h => ?_⟩
  · rw [c115_27]
    repeat (first | rw [bnd_s] | rw [tI_m] | rw [tL_m] | rw [tA_m] | rw [tV_m] | rw [gF_g x0 _ (by decide)] | rw [gF_g x0' _ (by decide)] | rw [h7] | rw [if_neg (show ¬ (S : Int) < (S : Int) by omega)] | rw [gF_g x3 _ (by decide)] | rw [gF_g x6 _ (by decide)] | rw [gF_g x7 _ (by decide)] | rw [gF_g x8 _ (by decide)] | rw [gF_g x3' _ (by decide)] | rw [gF_g x6' _ (by decide)] | rw [gF_g x7' _ (by decide)] | rw [gF_g x8' _ (by decide)] | rw [pF_g x6 _ _ (by decide)] | rw [pF_g x7 _ _ (by decide)] | rw [pF_g x8 _ _ (by decide)] | rw [u2_e] | rw [u2_n (by omega)] | rw [cpy_n (by omega)] | rw [y2] | rw [y3] | rw [y4] | rw [y5] | rw [z3] | rw [z4] | rw [z8] | rw [y2'] | rw [y3'] | rw [y4'] | rw [y5'] | rw [z3'] | rw [z4'] | rw [z8'] | rw [c108 (hg := (gS_p s _ (b + 3)).trans x3)] | rw [c2 (hg := (gS_p s _ (b + 6)).trans x6)] | rw [c37 (hg := (gS_p s _ (b + 7)).trans x7)] | rw [c92 (hg := (gS_p s _ (b + 8)).trans x8)] | rw [gL_g x4 (by decide)] | rw [gL_g x5 (by decide)] | rw [gL_g x9 (by decide)] | rw [acp_g x4' x4 _ (by decide) (by decide) (by decide) (by decide) (by decide)] | rw [acp_g x5' x5 _ (by decide) (by decide) (by decide) (by decide) (by decide)] | rw [acp_g x9' x9 _ (by decide) (by decide) (by decide) (by decide) (by decide)])
    rfl
  · (repeat (first | rw [u2_n (by omega)] | rw [cpy_n (by omega)]))
  · rcases h with ⟨rfl, h⟩ | ⟨rfl, h⟩ | ⟨rfl, h⟩ | ⟨rfl, h⟩ | ⟨rfl, h⟩ | ⟨rfl, h⟩
    · (repeat (first | rw [u2_n (by omega)] | rw [cpy_e h] | rw [cpy_n (by omega)]))
    · (repeat (first | rw [u2_n (by omega)] | rw [cpy_e h] | rw [cpy_n (by omega)]))
    · have : k = 0 ∨ k = 1 ∨ k = 2 := by omega
      rcases this with rfl | rfl | rfl <;> (repeat (first | rw [u2_e] | rw [u2_n (by omega)] | rw [cpy_n (by omega)]))
    · have : k = 0 ∨ k = 1 ∨ k = 2 ∨ k = 3 ∨ k = 4 := by omega
      rcases this with rfl | rfl | rfl | rfl | rfl <;> (repeat (first | rw [u2_e] | rw [u2_n (by omega)] | rw [cpy_n (by omega)]))
    · rcases h with rfl | rfl <;> (repeat (first | rw [u2_e] | rw [u2_n (by omega)] | rw [cpy_n (by omega)]))
    · (repeat (first | rw [u2_n (by omega)] | rw [cpy_e h] | rw [cpy_n (by omega)]))
theorem k115 (d : Nat) {b e N S : Nat} (hd : b + 46 ≤ e ∨ e + 46 ≤ b) (hN : N ≤ 4) (hS : S ≤ 8) (hb : SB s c b) (he : SB s c e) (h6 : c e 6 = (N : Int)) (h7 : c e 7 = (S : Int)) (ho : ∀ j, j < S → c (e + 30 + 2 * j) 3 = 0 ∨ c (e + 30 + 2 * j) 3 = 1) : ∃ c1, Cd (d + 2) 115 [vA (b : Int), vA (e : Int)] (s, c) = some ([], (s, c1)) ∧ (∀ o k, ¬ CpW b o k → c1 o k = c o k) ∧ (∀ o k, CpR N S o k → c1 (b + o) k = c (e + o) k) ∧ ∀ j, j < N → c1 (b + 10 + 5 * j) 9 = 0 := by
  have q1 : ∀ o k, ¬ (o = b ∧ k = 6) → u2 c b 6 (N : Int) o k = c o k := fun o k h => u2_n h
  have q2 : u2 c b 6 (N : Int) b 6 = N := u2_e _ _ _ _
  have r0 : Cd (d + 2) 115 [vA (b : Int), vA (e : Int)] (s, c) = Rr (Cd (d + 1)) 115 6 [some (vA (b : Int)), some (vA (e : Int)), some (vI ((0 : Nat) : Int))] [] (s, u2 c b 6 (N : Int)) := by
    rw [c115 (hg := (gS_p s c b).trans hb.1.1)]
    repeat (first | rw [bnd_s] | rw [tI_m] | rw [tL_m] | rw [tA_m] | rw [tV_m] | rw [gF_g he.1.1 _ (by decide)] | rw [pF_g hb.1.1 _ _ (by decide)] | rw [h6])
    rfl
  generalize u2 c b 6 (N : Int) = a1 at *
  have hb1 : SB s a1 b := SB_of hb (fun o k _ _ _ _ _ _ _ _ _ _ _ _ _ => q1 o k (by omega))
  have he1 : SB s a1 e := SB_of he (fun o k _ _ _ _ _ _ _ _ _ _ _ _ _ => q1 o k (by omega))
  obtain ⟨a2, r2, f2, g2⟩ := k115_6 d hd hN N 0 a1 (by omega) hb1 he1 q2
  unfold CWm at f2
  have hb2 : SB s a2 b := SB_of hb1 (fun o k _ _ _ _ _ _ _ _ _ _ _ _ _ => f2 o k (by omega))
  have he2 : SB s a2 e := SB_of he1 (fun o k _ _ _ _ _ _ _ _ _ _ _ _ _ => f2 o k (by omega))
  have w1 : ∀ o k, ¬ (o = b ∧ k = 7) → u2 a2 b 7 (S : Int) o k = a2 o k := fun o k h => u2_n h
  have w2 : u2 a2 b 7 (S : Int) b 7 = S := u2_e _ _ _ _
  have r3 : Rr (Cd (d + 1)) 115 6 [some (vA (b : Int)), some (vA (e : Int)), some (vI (N : Int))] [] (s, a2) = Rr (Cd (d + 1)) 115 27 [some (vA (b : Int)), some (vA (e : Int)), some (vI ((0 : Nat) : Int))] [] (s, u2 a2 b 7 (S : Int)) := by
    have v6 : a2 b 6 = (N : Int) := by rw [f2 _ _ (by omega)]; exact q2
    have v7 : a2 e 7 = (S : Int) := by rw [f2 _ _ (by omega), q1 _ _ (by omega)]; exact h7
    rw [c115_6]
    repeat (first | rw [bnd_s] | rw [tI_m] | rw [tL_m] | rw [tA_m] | rw [tV_m] | rw [gF_g hb.1.1 _ (by decide)] | rw [gF_g he.1.1 _ (by decide)] | rw [pF_g hb.1.1 _ _ (by decide)] | rw [v6] | rw [v7] | rw [if_neg (show ¬ (N : Int) < (N : Int) by omega)])
    rfl
  generalize u2 a2 b 7 (S : Int) = a3 at *
  have hb3 : SB s a3 b := SB_of hb2 (fun o k _ _ _ _ _ _ _ _ _ _ _ _ _ => w1 o k (by omega))
  have he3 : SB s a3 e := SB_of he2 (fun o k _ _ _ _ _ _ _ _ _ _ _ _ _ => w1 o k (by omega))
  obtain ⟨a4, r4, f4, g4⟩ := k115_27 d hd hS S 0 a3 (by omega) hb3 he3 w2 (fun j hj => by rw [w1 _ _ (by omega), f2 _ _ (by omega), q1 _ _ (by omega)]; exact ho j hj)
  unfold CWs at f4
  have hb4 : SB s a4 b := SB_of hb3 (fun o k _ _ _ _ _ _ _ _ _ _ _ _ _ => f4 o k (by omega))
  have he4 : SB s a4 e := SB_of he3 (fun o k _ _ _ _ _ _ _ _ _ _ _ _ _ => f4 o k (by omega))
  obtain ⟨a5, r5, f5, g5⟩ := k115_t d hd hb4 he4 (by rw [f4 _ _ (by omega)]; exact w2)
  refine ⟨a5, by rw [r0, r2, r3, r4, r5], fun o k h => ?_, fun o k h => ?_, fun j hj => ?_⟩
  · rw [f5 _ _ (fun g => h (g.elim (fun g => Or.inr (Or.inl g)) (fun g => g.elim (fun g => Or.inr (Or.inr (Or.inl g))) (fun g => Or.inr (Or.inr (Or.inr (Or.inl g))))))), f4 _ _ (fun g => h (Or.inr (Or.inr (Or.inr (Or.inr (Or.inr ⟨g.1, g.2.1, g.2.2⟩)))))), w1 _ _ (fun g => h (Or.inl ⟨g.1, Or.inr g.2⟩)), f2 _ _ (fun g => h (Or.inr (Or.inr (Or.inr (Or.inr (Or.inl ⟨g.1, g.2.1, g.2.2⟩)))))), q1 _ _ (fun g => h (Or.inl ⟨g.1, Or.inl g.2⟩))]
  · have ho46 : o < 46 := by
      rcases h with h | h | h | h | h | h | h | ⟨-, h, -⟩ | ⟨-, h, -⟩ <;> omega
    have nb : ¬ (b ≤ e + o ∧ e + o < b + 46) := by clear h; omega
    have e1 : a1 (e + o) k = c (e + o) k := q1 _ _ (by clear h; omega)
    have e3 : a3 (e + o) k = c (e + o) k := by
      rw [w1 _ _ (by clear h; omega), f2 _ _ (by clear h; omega)]; exact e1
    have src : a4 (e + o) k = c (e + o) k := by
      rw [f4 _ _ (by clear h; omega)]; exact e3
    rcases h with ⟨rfl, h⟩ | h | h | h | h | h | h | ⟨h1, h2, h3⟩ | ⟨h1, h2, h3⟩
    · rw [f5 _ _ (by clear h; omega), f4 _ _ (by clear h; omega)]
      rcases h with rfl | rfl
      · rw [w1 _ _ (by omega), f2 _ _ (by omega)]; exact q2.trans h6.symm
      · exact w2.trans h7.symm
    · exact (g5 o k (Or.inl h)).trans src
    · exact (g5 o k (Or.inr (Or.inl h))).trans src
    · exact (g5 o k (Or.inr (Or.inr (Or.inl h)))).trans src
    · exact (g5 o k (Or.inr (Or.inr (Or.inr (Or.inl h))))).trans src
    · exact (g5 o k (Or.inr (Or.inr (Or.inr (Or.inr (Or.inl h)))))).trans src
    · exact (g5 o k (Or.inr (Or.inr (Or.inr (Or.inr (Or.inr h)))))).trans src
    · rw [f5 _ _ (by clear h3; omega), f4 _ _ (by clear h3; omega), w1 _ _ (by clear h3; omega)]
      have z := g2 ((o - 10) / 5) (by clear h3; omega) (by clear h3; omega)
      rw [← e1]
      rcases h3 with ⟨h1, rfl | rfl⟩ | ⟨h1 | h1, h2⟩ | ⟨h1, h2⟩
      · have := z.1; rw [show b + 10 + 5 * ((o - 10) / 5) = b + o by omega, show e + 10 + 5 * ((o - 10) / 5) = e + o by omega] at this; exact this
      · have := z.2.1; rw [show b + 10 + 5 * ((o - 10) / 5) = b + o by omega, show e + 10 + 5 * ((o - 10) / 5) = e + o by omega] at this; exact this
      · have := z.2.2.2.1 k h2; rw [show b + 10 + 5 * ((o - 10) / 5) + 1 = b + o by omega, show e + 10 + 5 * ((o - 10) / 5) + 1 = e + o by omega] at this; exact this
      · have := z.2.2.2.2.1 k h2; rw [show b + 10 + 5 * ((o - 10) / 5) + 2 = b + o by omega, show e + 10 + 5 * ((o - 10) / 5) + 2 = e + o by omega] at this; exact this
      · have := z.2.2.2.2.2 k h2; rw [show b + 10 + 5 * ((o - 10) / 5) + 3 = b + o by omega, show e + 10 + 5 * ((o - 10) / 5) + 3 = e + o by omega] at this; exact this
    · rw [f5 _ _ (by clear h3; omega)]
      have z := g4 ((o - 30) / 2) (by clear h3; omega) (by clear h3; omega)
      rw [← e3]
      rcases h3 with ⟨h1, h2, h3⟩ | ⟨h1, h2⟩
      · have := z.1 k h2 h3; rw [show b + 30 + 2 * ((o - 30) / 2) = b + o by omega, show e + 30 + 2 * ((o - 30) / 2) = e + o by omega] at this; exact this
      · have := z.2 k h2; rw [show b + 30 + 2 * ((o - 30) / 2) + 1 = b + o by omega, show e + 30 + 2 * ((o - 30) / 2) + 1 = e + o by omega] at this; exact this
  · rw [f5 _ _ (by omega), f4 _ _ (by omega), w1 _ _ (by omega)]
    exact (g2 j (by omega) hj).2.2.1
end
