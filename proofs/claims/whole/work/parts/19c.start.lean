/-! the start: the reader, the class -/
theorem al {s : List (Nat × Nat)} {c : Nat → Nat → Int} {T N t n k p q : Nat} (h : s[p]? = some (T, N)) (hl : s.length = q) (hk : k < N) (hp : p < q) : ∃ c', pF (mk (s, c) t n) T k (p : Int) ((s.length : Nat) : Int) = some (s ++ [(t, n)], c') ∧ (∀ i k', i < q → ¬ (i = p ∧ k' = k) → c' i k' = c i k') ∧ c' p k = (q : Int) ∧ ∀ k', c' q k' = dfl t k' := by
  refine ⟨u2 (mkC c q t) p k (q : Int), by rw [mk_p, pF_g (ap h) _ _ hk, hl], fun i k' hi hn => by rw [u2_n hn, mkC_n (by omega)], u2_e _ _ _ _, fun k' => by rw [u2_n (by omega), mkC_e]⟩
def rdB : List (Nat × Nat) := [(100, 300), (100, 301), (100, 301), (100, 301), (2, 8), (100, 300), (100, 300), (101, 300)]
theorem n66 (d : Nat) {s : List (Nat × Nat)} {c : Nat → Nat → Int} {o : Nat} (h0 : 0 < o) (h : s[o]? = some (6, 14)) (hl : s.length = o + 1) : ∃ c', Cd (d + 2) 66 [vA (o : Int)] (s, c) = some ([], (s ++ rdB, c')) ∧ (∀ i k, i < o → c' i k = c i k) ∧ (c' o 0 = ((o + 1 : Nat) : Int) ∧ c' o 1 = ((o + 2 : Nat) : Int) ∧ c' o 2 = ((o + 3 : Nat) : Int) ∧ c' o 3 = ((o + 4 : Nat) : Int) ∧ c' o 4 = ((o + 5 : Nat) : Int)) ∧ (c' o 5 = c o 5 ∧ c' o 6 = -1 ∧ c' o 7 = -1) ∧ c' (o + 5) 0 = ((o + 6 : Nat) : Int) ∧ c' (o + 5) 1 = ((o + 7 : Nat) : Int) ∧ c' (o + 5) 2 = ((o + 8 : Nat) : Int) := by
  obtain ⟨c1, r1, f1, a1, -⟩ := al (c := c) (t := 100) (n := 300) (k := 0) h hl (by decide) (by omega)
  have h1 := ap (e := [(100, 300)]) h
  have l1 : (s ++ [(100, 300)]).length = o + 2 := by rw [List.length_append, hl]; rfl
  obtain ⟨c2, r2, f2, a2, -⟩ := al (c := c1) (t := 100) (n := 301) (k := 1) h1 l1 (by decide) (by omega)
  have h2 := ap (e := [(100, 301)]) h1
  have l2 : (s ++ [(100, 300)] ++ [(100, 301)]).length = o + 3 := by rw [List.length_append, l1]; rfl
  obtain ⟨c3, r3, f3, a3, -⟩ := al (c := c2) (t := 100) (n := 301) (k := 2) h2 l2 (by decide) (by omega)
  have h3 := ap (e := [(100, 301)]) h2
  have l3 : (s ++ [(100, 300)] ++ [(100, 301)] ++ [(100, 301)]).length = o + 4 := by rw [List.length_append, l2]; rfl
  obtain ⟨c4, r4, f4, a4, -⟩ := al (c := c3) (t := 100) (n := 301) (k := 3) h3 l3 (by decide) (by omega)
  have h4 := ap (e := [(100, 301)]) h3
  have l4 : (s ++ [(100, 300)] ++ [(100, 301)] ++ [(100, 301)] ++ [(100, 301)]).length = o + 5 := by rw [List.length_append, l3]; rfl
  have hb : (s ++ [(100, 300)] ++ [(100, 301)] ++ [(100, 301)] ++ [(100, 301)] ++ [(2, 8)])[o + 5]? = some (2, 8) := at_e l4
  obtain ⟨c5, r5, f5, b0, b1, b2, -⟩ := n23 d (c := mkC c4 (o + 5) 2) (o := o + 5) (by omega) hb (by rw [List.length_append, l4]; rfl)
  have h5 := ap (e := [(101, 300)]) (ap (e := [(100, 300)]) (ap (e := [(100, 300)]) (ap (e := [(2, 8)]) h4)))
  have f5' : ∀ i k, i < o + 5 → c5 i k = c4 i k := fun i k hi => by rw [f5 i k hi, mkC_n (by omega)]
  have zf : ∃ cf, cf = u2 (u2 (u2 c5 o 4 ((o + 5 : Nat) : Int)) o 6 (-1)) o 7 (-1) := ⟨_, rfl⟩
  obtain ⟨cf, zf⟩ := zf
  have g : ∀ i k, ¬ (i = o ∧ (k = 4 ∨ k = 6 ∨ k = 7)) → cf i k = c5 i k := fun i k hn => by rw [zf, u2_n (by omega), u2_n (by omega), u2_n (by omega)]
  refine ⟨cf, ?_, fun i k hi => ?_, ⟨?_, ?_, ?_, ?_, ?_⟩, ⟨?_, ?_, ?_⟩, ?_, ?_, ?_⟩
  · rw [c66 (hg := (gS_p s c o).trans h), if_pos ⟨by omega, by decide⟩]
    dsimp only
    rw [r1, bnd_s]
    dsimp only
    rw [r2, bnd_s]
    dsimp only
    rw [r3, bnd_s]
    dsimp only
    rw [r4, bnd_s]
    dsimp only
    rw [mk_p, l4, r5, bnd_s, tV_m, bnd_s, pF_g h5 _ _ (by decide), bnd_s, pF_g h5 _ _ (by decide), bnd_s, pF_g h5 _ _ (by decide), bnd_s, ← zf]
    simp [rdB]
  · rw [g i k (by omega), f5' i k (by omega), f4 i k (by omega) (by omega), f3 i k (by omega) (by omega), f2 i k (by omega) (by omega), f1 i k (by omega) (by omega)]
  · rw [g _ _ (by omega), f5' _ _ (by omega), f4 _ _ (by omega) (by omega), f3 _ _ (by omega) (by omega), f2 _ _ (by omega) (by omega), a1]
  · rw [g _ _ (by omega), f5' _ _ (by omega), f4 _ _ (by omega) (by omega), f3 _ _ (by omega) (by omega), a2]
  · rw [g _ _ (by omega), f5' _ _ (by omega), f4 _ _ (by omega) (by omega), a3]
  · rw [g _ _ (by omega), f5' _ _ (by omega), a4]
  · rw [zf, u2_n (by omega), u2_n (by omega), u2_e]
  · rw [g _ _ (by omega), f5' _ _ (by omega), f4 _ _ (by omega) (by omega), f3 _ _ (by omega) (by omega), f2 _ _ (by omega) (by omega), f1 _ _ (by omega) (by omega)]
  · rw [zf, u2_n (by omega), u2_e]
  · rw [zf, u2_e]
  · rw [g _ _ (by omega), b0]
  · rw [g _ _ (by omega), b1]
  · rw [g _ _ (by omega), b2]
theorem n116_28 (d : Nat) {o q : Nat} {s : List (Nat × Nat)} (h1 : s[o]? = some (11, 7)) (h2 : s[q]? = some (100, 49)) (hn : o ≠ q) : ∀ (n m : Nat) (c : Nat → Nat → Int), m + n = 49 → c o 4 = (q : Int) → (∀ k, k < m → c q k = 238) → ∃ c', Rr (Cd d) 116 28 [some (vA (o : Int)), some (vI (m : Int))] [] (s, c) = Rr (Cd d) 116 28 [some (vA (o : Int)), some (vI 49)] [] (s, c') ∧ (∀ i k, i ≠ q → c' i k = c i k) ∧ ∀ k, k < 49 → c' q k = 238
  | 0, m, c, hm, h4, hk => by
    have : m = 49 := by omega
    subst this
    exact ⟨c, rfl, fun _ _ _ => rfl, hk⟩
  | n + 1, m, c, hm, h4, hk => by
    obtain ⟨c', y1, y2, y3⟩ := n116_28 d h1 h2 hn n (m + 1) (u2 c q m 238) (by omega) (by rw [u2_n (by omega)]; exact h4) (fun k hk' => by
      by_cases e : k = m
      · subst e; exact u2_e _ _ _ _
      · rw [u2_n (by omega)]; exact hk k (by omega))
    refine ⟨c', ?_, fun i k hi => by rw [y2 i k hi, u2_n (by omega)], y3⟩
    rw [← y1, c116_28, gF_g h1 _ (by decide), bnd_s, h4, gL_g h2 (by decide), bnd_s, if_pos (by omega), bnd_s, pA_g (a := 0) h2 _ _ (by omega) (by omega), bnd_s, w32_id (by omega) (by omega), Int.toNat_natCast]; rfl
