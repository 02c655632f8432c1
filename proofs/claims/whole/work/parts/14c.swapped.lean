/-! swapped rows; new maps and borders -/
theorem swF_hi (w : Int) : ∀ (k : Nat) (r : Int), 0 ≤ r → swF (k + 1) w r = swp w (r / (3 : Int) ^ k % 3) * (3 : Int) ^ k + swF k w r
  | 0, r, _ => by simp [swF]
  | k + 1, r, h => by
    have ih := swF_hi w k (r / 3) (by omega)
    have e : r / 3 / (3 : Int) ^ k = r / (3 : Int) ^ (k + 1) := by
      rw [Int.ediv_ediv_of_nonneg (by decide), Int.pow_succ, Int.mul_comm]
    rw [e] at ih
    rw [show swF (k + 1 + 1) w r = 3 * swF (k + 1) w (r / 3) + swp w (r % 3) from rfl, ih, show swF (k + 1) w r = 3 * swF k w (r / 3) + swp w (r % 3) from rfl, Int.pow_succ (n := k), Int.mul_add, ← Int.mul_assoc, ← Int.mul_assoc]
    rw [Int.mul_comm 3 (swp w _), Int.mul_assoc, Int.mul_comm 3 ((3 : Int) ^ k), Int.mul_assoc]
    omega
theorem swH_F {n r w : Int} (hr : 0 ≤ r) : ∀ (k : Nat) (l v : Int), l + k = n → swH n r w k l v = (3 : Int) ^ k * v + swF k w r
  | 0, l, v, _ => by simp [swH, swF]
  | k + 1, l, v, h => by
    have ih := swH_F (n := n) (w := w) hr k (l + 1) (3 * v + swp w (pnt n r l)) (by omega)
    have e : pnt n r l = r / (3 : Int) ^ k % 3 := by
      unfold pnt r3
      rw [show (n - 1 - l).toNat = k by omega]
    rw [show swH n r w (k + 1) l v = swH n r w k (l + 1) (3 * v + swp w (pnt n r l)) from rfl, ih, swF_hi w k r hr, e, Int.pow_succ, Int.mul_add, ← Int.mul_assoc, Int.mul_comm ((3 : Int) ^ k) (swp w _)]
    omega
theorem swH_0 {n r w : Int} (hn : 0 ≤ n) (hr : 0 ≤ r) : swH n r w n.toNat 0 0 = swF n.toNat w r := by
  rw [swH_F hr n.toNat 0 0 (by omega), Int.mul_zero, Int.zero_add]
theorem k120 (d : Nat) {s : List (Nat × Nat)} {c : Nat → Nat → Int} {n : Nat} (hI : Inv s c n) (m r w : Int) : Cd (d + 3) 120 [vA 29, vI m, vI r, vI w] (s, c) = some ([vI (if (0 ≤ m ∧ m < c 143 0) ∧ (0 ≤ r ∧ r < r3 (c 143 (20 + m).toNat)) ∧ 0 ≤ w ∧ w < 6 then swF (c 143 (20 + m).toNat).toNat w r else -1)], (s, c)) := by
  have hs := hI.1.l
  have hc := hI.2.2.2.1
  have hn := hI.nM
  have n2 := hn.2
  rw [c120 (hg := gC29 hs c), fC29 hs _ (by decide), bnd_s, CS_29_0 hc, k113 _ hs hc hI.2.2.2.2.1.1.1 hn, bnd_s, tA_m, bnd_s]
  by_cases h : 0 ≤ m ∧ m < c 143 0
  · rw [if_pos h, if_neg (by omega), if_neg (by omega)]
    have hr := hI.map (m := m.toNat) (by omega)
    have hch := chN hs hc (m := m.toNat) (by omega)
    rw [Int.toNat_of_nonneg h.1] at hr
    have hk := hI.mok m h.1 h.2
    have hb := r3_b hk.2.1.2
    rw [k11 _ hch hr, bnd_s, tI_m, bnd_s, if_b0]
    by_cases h1 : 0 ≤ r ∧ r < r3 (c 143 (20 + m).toNat)
    · rw [decide_eq_true h1, cond_t, k161, bnd_s, tI_m, bnd_s, if_b0]
      by_cases h2 : 0 ≤ w ∧ w < 6
      · rw [decide_eq_true h2, cond_t, gF_g hch.1.1 _ (by decide), bnd_s, hr.1.1, k167 _ hs hI.2.1 (by have := hk.2.1.1; omega) hk.2.1.2 h2.1 h2.2 h1.1 (by omega), bnd_s, tI_m, bnd_s, if_pos ⟨h, h1, h2⟩]
      · rw [decide_eq_false h2, cond_f, c120_14, if_neg (fun g => h2 g.2.2)]
    · rw [decide_eq_false h1, cond_f, c120_14, if_neg (fun g => h1 g.2.1)]
  · rw [if_neg h, if_neg (show ¬ (-1 : Int) = 0 by decide), if_pos (show (-1 : Int) < 0 by decide), c120_14, if_neg (fun g => h g.1)]
theorem op_swapped (m r w : Int) : Op 120 186 [vI m, vI r, vI w] := by
  intro s c n hI
  have g1 := k120 996 hI m r w
  have g2 := m186 996 hI.1.l hI.2.2.1 hI.nM hI.mok m r w
  refine ⟨_, s, s, c, c, n, g1, ?_, by omega, hI⟩
  rw [show (999 : Nat) = 996 + 3 from rfl, g2]
  by_cases h : (0 ≤ m ∧ m < c 143 0) ∧ (0 ≤ r ∧ r < r3 (c 143 (20 + m).toNat)) ∧ 0 ≤ w ∧ w < 6
  · rw [if_pos h, if_pos h, swH_0 (by have := (hI.mok m h.1.1 h.1.2).2.1.1; omega) h.2.1.1]
  · rw [if_neg h, if_neg h]
theorem k7_11 (d : Nat) {s : List (Nat × Nat)} {q : Nat} (o1 : Option AV) : ∀ (n : Nat) (j : Int) (c : Nat → Nat → Int), CH s c q → 0 ≤ j → j + n = 7 → (∀ i : Int, 0 ≤ i → i < j → c (q + 3) i.toNat = 0) → ∃ c', Rr (Cd d) 7 11 [some (vA q), o1, some (vI j)] [] (s, c) = some ([], (s, c')) ∧ (∀ o k, o ≠ q + 3 → c' o k = c o k) ∧ ∀ i : Int, 0 ≤ i → i < 7 → c' (q + 3) i.toNat = 0
  | 0, j, c, hc, h0, h, hz => by
    rw [c7_11, if_neg (by omega)]
    exact ⟨c, rfl, fun _ _ _ => rfl, fun i h1 h2 => hz i h1 (by omega)⟩
  | n + 1, j, c, hc, h0, h, hz => by
    rw [c7_11, if_pos (by omega), gF_g hc.1.1 _ (by decide), bnd_s, hc.2.2.2.1, pA_g (a := 0) hc.1.2.2.2.1 _ _ (by omega) (by omega), bnd_s, w32_id (by omega) (by omega)]
    obtain ⟨c', g1, g2, g3⟩ := k7_11 d o1 n (j + 1) (u2 c (q + 3) j.toNat 0) (CH_of hc (fun k hk => u2_n (by omega))) (by omega) (by omega) (fun i h1 h2 => by
      by_cases g : i = j
      · subst g; rw [u2_e]
      · rw [u2_n (by omega)]; exact hz i h1 (by omega))
    exact ⟨c', g1, fun o k ho => by rw [g2 o k ho, u2_n (by omega)], g3⟩
theorem k7 (d : Nat) {s : List (Nat × Nat)} {c : Nat → Nat → Int} {q : Nat} (hc : CH s c q) (l : Int) : ∃ c', Cd (d + 1) 7 [vA q, vI l] (s, c) = some ([], (s, c')) ∧ (∀ o k, o ≠ q + 3 → ¬ (o = q ∧ (k = 4 ∨ k = 5 ∨ k = 9)) → c' o k = c o k) ∧ (c' q 4 = l ∧ c' q 5 = 0 ∧ c' q 9 = 0) ∧ ∀ i : Int, 0 ≤ i → i < 7 → c' (q + 3) i.toNat = 0 := by
  rw [c7 (hg := hc.g), pF_g hc.1.1 _ _ (by decide), bnd_s, pF_g hc.1.1 _ _ (by decide), bnd_s, pF_g hc.1.1 _ _ (by decide), bnd_s]
  obtain ⟨c', g1, g2, g3⟩ := k7_11 d (some (vI l)) 7 0 (u2 (u2 (u2 c q 4 l) q 5 0) q 9 0) (CH_of hc (fun k hk => by rw [u2_n (by omega), u2_n (by omega), u2_n (by omega)])) (by omega) (by omega) (fun i h1 h2 => by omega)
  refine ⟨c', g1, fun o k ho hk => ?_, ⟨?_, ?_, ?_⟩, g3⟩
  · rw [g2 o k ho, u2_n (by omega), u2_n (by omega), u2_n (by omega)]
  · rw [g2 _ _ (by omega), u2_n (by omega), u2_n (by omega), u2_e]
  · rw [g2 _ _ (by omega), u2_n (by omega), u2_e]
  · rw [g2 _ _ (by omega), u2_e]
theorem Xt_of {c c' : Nat → Nat → Int} (h : Xt c) (e : ∀ o k, o < 29 → c' o k = c o k) : Xt c' := by
  obtain ⟨xs, h⟩ := h
  exact ⟨xs, fun i k hi => (e i k hi).trans (h i k hi)⟩
theorem CS_of {c c' : Nat → Nat → Int} (h : CS c) (e : ∀ q ∈ cRefs, c' q.1 q.2.1 = c q.1 q.2.1) (e2 : c' 137 = c 137) : CS c' := ⟨fun q hq => (e q hq).trans (h.1 q hq), by rw [e2]; exact h.2⟩
/-- cells and fields that are references of the class -/
def isRf (o k : Nat) : Bool := cRefs.any fun q => q.1 == o && q.2.1 == k
theorem CS_k {c c' : Nat → Nat → Int} (h : CS c) (e : ∀ o k, isRf o k = true → c' o k = c o k) (e2 : c' 137 = c 137) : CS c' := CS_of h (fun q hq => e _ _ (List.any_eq_true.mpr ⟨q, hq, by simp⟩)) e2
theorem MapRel_f {f f' : Nat → Int} {c : Nat → Nat → Int} {q : Nat} {m : Int} (h : MapRel f c q m) (h0 : 0 ≤ m) (h1 : m < 4) (e : ∀ k, (k = (20 + m).toNat ∨ k = (24 + m).toNat ∨ ((30 + 30 * m).toNat ≤ k ∧ k < (60 + 30 * m).toNat)) → f' k = f k) : MapRel f' c q m := by
  have e4 := e _ (Or.inl rfl)
  have e5 := e _ (Or.inr (Or.inl rfl))
  have b5 := h.2.2.1.2
  have hE : ∀ x y b, 0 ≤ b → b < f (24 + m).toNat → edf f' m x y b = edf f m x y b := fun x y b hb hb2 => by
    unfold edf
    rw [e _ (Or.inr (Or.inr ⟨by omega, by omega⟩)), e _ (Or.inr (Or.inr ⟨by omega, by omega⟩))]
  have hB : ∀ x y, isBf f' m x y = isBf f m x y := fun x y => by
    unfold isBf
    rw [e5]
    exact anyU_cg _ _ (fun i hi hi2 => hE x y i hi (by omega))
  obtain ⟨a1, a2, a3, a4, a5⟩ := h
  refine ⟨by rw [e4, e5]; exact a1, by rw [e4]; exact a2, by rw [e5]; exact a3, fun b hb hb2 => ?_, fun l hl hl2 => ⟨(a5 l hl hl2).1, fun o ho ho2 => by rw [hB]; exact (a5 l hl hl2).2 o ho ho2⟩⟩
  rw [e5] at hb2
  rw [e4, e _ (Or.inr (Or.inr ⟨by omega, by omega⟩)), e _ (Or.inr (Or.inr ⟨by omega, by omega⟩))]
  obtain ⟨g1, g2, g3, g4, g5⟩ := a4 b hb hb2
  exact ⟨g1, g2, g3, g4, fun b' h1 h2 => by rw [hE _ _ b' h1 (by omega)]; exact g5 b' h1 h2⟩
