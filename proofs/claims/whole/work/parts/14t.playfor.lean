/-! play for a showing and a map; believed -/
theorem k45 (d : Nat) {s : List (Nat × Nat)} {c : Nat → Nat → Int} (hs : SpL s) (hr : c 131 0 = 132 ∧ c 131 1 = 133 ∧ c 131 2 = 134) {j q : Nat} (hj : s[j]? = some (100, 49)) (hj2 : j < 122) {m : Int} (hq2 : q + 4 < 122) (hC : CH s c q) (hM : MapRel (c 143) c q m) {a : Int} (ha : a = 0 ∨ a = 1 ∨ a = 2) (w : Int) {o : Int} (ho : o = 0 ∨ o = 1) : ∃ c1, Cd (d + 2) 45 [vA 131, vA (q : Int), vI w, vI o, vI a, vA (j : Int)] (s, c) = some ([], (s, c1)) ∧ (∀ x i, ¬ (x = 131 ∧ 5 ≤ i) → x ≠ 132 → x ≠ 133 → x ≠ 134 → c1 x i = c x i) ∧ c1 131 5 = q ∧ c1 131 6 = drw w ∧ c1 131 7 = o ∧ c1 131 8 = asN a (c 143 (20 + m).toNat) (c 143 (24 + m).toNat) ∧ ∀ k, 0 ≤ k → k < asN a (c 143 (20 + m).toNat) (c 143 (24 + m).toNat) → c1 132 k.toNat = asX c m a k ∧ c1 133 k.toNat = asY c m a k ∧ c1 134 k.toNat = c j (7 * asX c m a k + asY c m a k).toNat := by
  have z : ∃ b, b = u2 (u2 (u2 (u2 c 131 5 (q : Int)) 131 6 (drw w)) 131 7 o) 131 8 0 := ⟨_, rfl⟩
  obtain ⟨b, zb⟩ := z
  have fb : ∀ x i, ¬ (x = 131 ∧ 5 ≤ i) → b x i = c x i := fun x i h => by rw [zb, u2_n (by omega), u2_n (by omega), u2_n (by omega), u2_n (by omega)]
  have b5 : b 131 5 = q := by rw [zb, u2_n (by omega), u2_n (by omega), u2_n (by omega), u2_e]
  have b6 : b 131 6 = drw w := by rw [zb, u2_n (by omega), u2_n (by omega), u2_e]
  have b7 : b 131 7 = o := by rw [zb, u2_n (by omega), u2_e]
  have b8 : b 131 8 = 0 := by rw [zb, u2_e]
  have e3 : b 143 = c 143 := funext fun i => fb _ _ (by omega)
  have hM' : MapRel (b 143) b q m := by
    rw [e3]; exact MapRel_of hM ⟨fb _ _ (by omega), fb _ _ (by omega)⟩ (funext fun i => fb _ _ (by omega)) (funext fun i => fb _ _ (by omega)) (funext fun i => fb _ _ (by omega))
  obtain ⟨c1, r, p8, pf, pk⟩ := k45_l d hs ⟨(fb _ _ (by omega)).trans hr.1, (fb _ _ (by omega)).trans hr.2.1, (fb _ _ (by omega)).trans hr.2.2⟩ hj hj2 hq2 (CH_of hC (fun i _ => fb _ _ (by omega))) hM' (some (vI w)) (some (vI o)) ha (c := b) ⟨b8, fun _ _ _ _ _ _ => rfl, fun k h1 h2 => by omega⟩
  rw [e3] at p8 pk
  refine ⟨c1, ?_, fun x i h1 h2 h3 h4 => (pf x i (by omega) h2 h3 h4).trans (fb x i h1), (pf _ _ (by omega) (by omega) (by omega) (by omega)).trans b5, (pf _ _ (by omega) (by omega) (by omega) (by omega)).trans b6, (pf _ _ (by omega) (by omega) (by omega) (by omega)).trans b7, p8, fun k h1 h2 => ?_⟩
  · rw [c45 (hg := gC131 hs c)]
    repeat (first | rw [bnd_s] | rw [tI_m] | rw [tL_m] | rw [tA_m] | rw [tV_m] | rw [fC131 hs _ (by decide)] | rw [pC131 hs _ _ (by decide)] | rw [k162] | rw [if_pos ho])
    rw [← zb]; exact r
  · have g := pk k h1 h2
    rw [asX_of e3, asY_of e3] at g
    exact ⟨g.1, g.2.1, g.2.2.trans (fb _ _ (by omega))⟩
/-- a play of SHOWING k and MAP m stands -/
def PlayR (c : Nat → Nat → Int) (k : Nat) (m : Int) : Prop := c 131 5 = ((40 + 5 * m.toNat : Nat) : Int) ∧ c 131 6 = drw (c 145 (800 * k + 1)) ∧ c 131 7 = c 145 (800 * k + 2) ∧ c 131 8 = asN (c 145 (800 * k + 3)) (c 143 (20 + m).toNat) (c 143 (24 + m).toNat) ∧ ∀ i, 0 ≤ i → i < asN (c 145 (800 * k + 3)) (c 143 (20 + m).toNat) (c 143 (24 + m).toNat) → c 132 i.toNat = asX c m (c 145 (800 * k + 3)) i ∧ c 133 i.toNat = asY c m (c 145 (800 * k + 3)) i ∧ (0 ≤ c 134 i.toNat ∧ c 134 i.toNat < 512) ∧ ∀ p q, 0 ≤ p → p < 3 → 0 ≤ q → q < 3 → bt (c 134 i.toNat) (3 * p + q) = jud (c 145) k p q (asX c m (c 145 (800 * k + 3)) i) (asY c m (c 145 (800 * k + 3)) i)
theorem k152_n (d : Nat) {s : List (Nat × Nat)} {c : Nat → Nat → Int} {n : Nat} (hI : Inv s c n) {k m : Int} (h : ¬ ((0 ≤ k ∧ k < c 143 1) ∧ (0 ≤ m ∧ m < c 143 0))) : Cd (d + 2) 152 [vA 29, vI k, vI m] (s, c) = some ([vI 0], (s, c)) := by
  have hs := hI.1.l
  have hc := hI.2.2.2.1
  have hm := hI.2.2.1
  have h6 := hI.2.2.2.2.1.1.1
  have hn := hI.nM
  rw [c152 (hg := gC29 hs c)]
  repeat (first | rw [bnd_s] | rw [tI_m] | rw [tL_m] | rw [tA_m] | rw [tV_m] | rw [fC29 hs _ (by decide)] | rw [pC29 hs _ _ (by decide)] | rw [CS_29_0 hc] | rw [k114 _ hI] | rw [k113 _ hs hc h6 hn])
  by_cases g : 0 ≤ k ∧ k < c 143 1
  · rw [if_pos g, if_neg (show ¬ ((60 + 2 * k.toNat : Nat) : Int) = 0 by omega), if_neg (show ¬ ((60 + 2 * k.toNat : Nat) : Int) < 0 by omega), if_neg (show ¬ (0 ≤ m ∧ m < c 143 0) from fun w => h ⟨g, w⟩), if_neg (show ¬ (-1 : Int) = 0 by decide), if_pos (show (-1 : Int) < 0 by decide), c152_14]
  · rw [if_neg g, if_neg (show ¬ (-1 : Int) = 0 by decide), if_pos (show (-1 : Int) < 0 by decide), c152_14]
theorem k152 (d : Nat) {s : List (Nat × Nat)} {c : Nat → Nat → Int} {n : Nat} (hI : Inv s c n) {k m : Int} (h1 : 0 ≤ k ∧ k < c 143 1) (h2 : 0 ≤ m ∧ m < c 143 0) : ∃ s' c' n', Cd (d + 4) 152 [vA 29, vI k, vI m] (s, c) = some ([vI 1], (s', c')) ∧ n' ≤ n + 1 ∧ Inv s' c' n' ∧ c' 143 = c 143 ∧ c' 145 = c 145 ∧ AnsC s' c' (40 + 5 * m.toNat) (c' 143 (20 + m).toNat) (ansL c' m) ∧ PlayR c' k.toNat m := by
  have hs := hI.1.l
  have hc := hI.2.2.2.1
  have hm := hI.2.2.1
  have h6 := hI.2.2.2.2.1.1.1
  have hn := hI.nM
  have n2 := hn.2
  obtain ⟨h7, a7, a8⟩ := hI.2.2.2.2.1.2.2.2.1
  obtain ⟨s1, c1, n1, g1, g2, g3, g4, g5, g6, g7, g8⟩ := k13 d hI.1 (m := m.toNat) (by omega) (by omega) (chN hs hc (by omega)) (hI.map (by omega)) hI.2.2.2.2.2.2.2.1 hI.2.2.2.2.2.2.2.2.1
  rw [Int.toNat_of_nonneg h2.1] at g8
  have hf1 := g5.frC (by omega)
  have hI1 := Inv_C hI hf1 g2 g6 g7
  have hs1 := hI1.1.l
  have hc1 := hI1.2.2.2.1
  have e3 : c1 143 = c 143 := funext fun i => hf1 143 i (cScr_n (by omega))
  have e5 : c1 145 = c 145 := funext fun i => hf1 145 i (cScr_n (by omega))
  have hmap := hI1.map (m := m.toNat) (by rw [e3]; omega)
  rw [Int.toNat_of_nonneg h2.1] at hmap
  have hch := chN hs1 hc1 (m := m.toNat) (by omega)
  have hsh : SH s1 c1 (60 + 2 * k.toNat) := ((SB_30 hs1 hc1).2.2.2.2 k.toNat (by omega)).2
  have hsr : ShRel (c1 145) c1 (60 + 2 * k.toNat) k.toNat := hI1.2.2.2.2.1.2.2.2.2.1 k.toNat (by rw [e3]; omega)
  obtain ⟨⟨t1, t2, t3⟩, t4, t5, t6, t7, t8⟩ := hsr
  obtain ⟨c2, r, f, p5, p6, p7, p8, pk⟩ := k45 (d + 1) hs1 ⟨CS_131_0 hc1, CS_131_1 hc1, CS_131_2 hc1⟩ hsh.1.2 (by omega) (by omega) hch hmap (a := c1 145 (800 * k.toNat + 3)) (by omega) (c1 145 (800 * k.toNat + 1)) t5
  have hf2 : FrC c1 c2 := fun o i hi => f o i (fun w => by rw [w.1] at hi; simp [cScr] at hi; omega) (fun w => by rw [w] at hi; simp [cScr] at hi) (fun w => by rw [w] at hi; simp [cScr] at hi) (fun w => by rw [w] at hi; simp [cScr] at hi)
  have E3 : c2 143 = c1 143 := funext fun i => f _ _ (by omega) (by omega) (by omega) (by omega)
  have E5 : c2 145 = c1 145 := funext fun i => f _ _ (by omega) (by omega) (by omega) (by omega)
  have hI2 := Inv_C hI1 hf2 g2 (RefI_of g6 (fun m' _ => ⟨f _ _ (by omega) (by omega) (by omega) (by omega), f _ _ (by omega) (by omega) (by omega) (by omega)⟩)) (AnsI_of g7 E3 (fun o i _ _ => f _ _ (by omega) (by omega) (by omega) (by omega)) (fun o _ => funext fun i => f _ _ (by omega) (by omega) (by omega) (by omega)))
  refine ⟨s1, c2, n1, ?_, g3, hI2, E3.trans e3, E5.trans e5, ?_, ?_⟩
  · rw [c152 (hg := gC29 hs c)]
    repeat (first | rw [bnd_s] | rw [tI_m] | rw [tL_m] | rw [tA_m] | rw [tV_m] | rw [fC29 hs _ (by decide)] | rw [pC29 hs _ _ (by decide)] | rw [CS_29_0 hc] | rw [k114 _ hI] | rw [k113 _ hs hc h6 hn] | rw [if_pos h1] | rw [if_pos h2] | rw [if_neg (show ¬ ((60 + 2 * k.toNat : Nat) : Int) = 0 by omega)] | rw [if_neg (show ¬ ((60 + 2 * k.toNat : Nat) : Int) < 0 by omega)] | rw [if_neg (show ¬ ((40 + 5 * m.toNat : Nat) : Int) = 0 by omega)] | rw [if_neg (show ¬ ((40 + 5 * m.toNat : Nat) : Int) < 0 by omega)] | rw [g1] | rw [fC29 hs1 _ (by decide)] | rw [CS_29_3 hc1] | rw [gF_g hsh.1.1 _ (by decide)] | rw [t1] | rw [t2] | rw [t3] | rw [hsh.2] | rw [r])
  · rw [show c2 143 = c 143 from E3.trans e3, ansL_of (E3.trans e3)]
    exact AnsC_of g8 ⟨[], by simp⟩ (fun i => f _ _ (by omega) (by omega) (by omega) (by omega)) (fun r' hr' _ => ⟨funext fun i => f _ _ (by omega) (by omega) (by omega) (by omega), funext fun i => f _ _ (by omega) (by omega) (by omega) (by omega)⟩)
  · unfold PlayR
    rw [E3, E5]
    refine ⟨p5, p6, p7, p8, fun i i0 i1 => ?_⟩
    have g := pk i i0 i1
    have xb := asX_b (hI1.mok m h2.1 (by rw [e3]; exact h2.2)) (a := c1 145 (800 * k.toNat + 3)) (by omega) i0 i1
    have xN := hmap.2.1
    have u := t8 _ _ xb.1.1 (by omega) xb.2.1 (by omega)
    rw [asX_of E3, asY_of E3, g.2.2]
    exact ⟨g.1, g.2.1, u.1, fun p q p0 p1 q0 q1 => u.2 p q p0 p1 q0 q1⟩
