/-! the class: its charts -/
/-- the shape, with n pairs of rows for answers behind it -/
def SpN (s : List (Nat × Nat)) (n : Nat) : Prop := ∃ L, L ≤ 3072 ∧ s = xSh L ++ (tlShp ++ List.replicate (2 * n) (100, 2187))
theorem SpN.l {s : List (Nat × Nat)} {n : Nat} (h : SpN s n) : SpL s := by obtain ⟨L, h1, h2⟩ := h; exact ⟨L, _, h1, h2⟩
theorem tl_len : tlShp.length = 130 := by decide +kernel
theorem SpN.len {s : List (Nat × Nat)} {n : Nat} (h : SpN s n) : s.length = 159 + 2 * n := by
  obtain ⟨L, h1, rfl⟩ := h
  simp only [List.length_append, List.length_replicate, xSh_len, tl_len]; omega
theorem SpN.at {s : List (Nat × Nat)} {n : Nat} (h : SpN s n) {j : Nat} (hj : 159 ≤ j) (hj2 : j < 159 + 2 * n) : s[j]? = some (100, 2187) := by
  obtain ⟨L, h1, rfl⟩ := h
  rw [List.getElem?_append_right (by rw [xSh_len]; omega), xSh_len, List.getElem?_append_right (by rw [tl_len]; omega), tl_len, List.getElem?_replicate, if_pos (by omega)]
theorem SpN.ext {s : List (Nat × Nat)} {n : Nat} (h : SpN s n) : SpN (s ++ [(100, 2187)] ++ [(100, 2187)]) (n + 1) := by
  obtain ⟨L, h1, rfl⟩ := h
  refine ⟨L, h1, ?_⟩
  rw [show 2 * (n + 1) = 2 * n + 1 + 1 by omega, List.replicate_succ', List.replicate_succ']
  simp only [List.append_assoc]
/-- a chart: its cells and how they hang together -/
def CH (s : List (Nat × Nat)) (c : Nat → Nat → Int) (q : Nat) : Prop := (s[q]? = some (1, 10) ∧ s[q + 1]? = some (100, 15) ∧ s[q + 2]? = some (100, 15) ∧ s[q + 3]? = some (100, 7) ∧ s[q + 4]? = some (100, 7)) ∧ c q 0 = ((q + 1 : Nat) : Int) ∧ c q 1 = ((q + 2 : Nat) : Int) ∧ c q 2 = ((q + 3 : Nat) : Int) ∧ c q 3 = ((q + 4 : Nat) : Int)
theorem CH.g {s : List (Nat × Nat)} {c : Nat → Nat → Int} {q : Nat} (h : CH s c q) : gS (s, c) (q : Int) = some (1, 10) := (gS_p s c q).trans h.1.1
theorem CH_of {s : List (Nat × Nat)} {c c' : Nat → Nat → Int} {q : Nat} (h : CH s c q) (e : ∀ k, k < 4 → c' q k = c q k) : CH s c' q := ⟨h.1, (e 0 (by decide)).trans h.2.1, (e 1 (by decide)).trans h.2.2.1, (e 2 (by decide)).trans h.2.2.2.1, (e 3 (by decide)).trans h.2.2.2.2⟩
theorem CH_s {s e : List (Nat × Nat)} {c : Nat → Nat → Int} {q : Nat} (h : CH s c q) : CH (s ++ e) c q := by
  have key : ∀ {i : Nat} {x : Nat × Nat}, s[i]? = some x → (s ++ e)[i]? = some x := fun {i} {x} g => by
    rw [List.getElem?_append_left (List.getElem?_eq_some_iff.mp g).1]; exact g
  exact ⟨⟨key h.1.1, key h.1.2.1, key h.1.2.2.1, key h.1.2.2.2.1, key h.1.2.2.2.2⟩, h.2⟩
/-- a chart is a MAP of the reference -/
def edf (f : Nat → Int) (m x y b : Int) : Bool := decide ((f (30 + 30 * m + 2 * b).toNat = x ∧ f (30 + 30 * m + 2 * b + 1).toNat = y) ∨ (f (30 + 30 * m + 2 * b).toNat = y ∧ f (30 + 30 * m + 2 * b + 1).toNat = x))
def isBf (f : Nat → Int) (m x y : Int) : Bool := anyU (edf f m x y) (f (24 + m).toNat).toNat 0
theorem isBf_c (c : Nat → Nat → Int) (m x y : Int) : isBf (c 143) m x y = isB c m x y := rfl
def MapRel (f : Nat → Int) (c : Nat → Nat → Int) (q : Nat) (m : Int) : Prop := (c q 4 = f (20 + m).toNat ∧ c q 5 = f (24 + m).toNat) ∧ (2 ≤ f (20 + m).toNat ∧ f (20 + m).toNat ≤ 7) ∧ (0 ≤ f (24 + m).toNat ∧ f (24 + m).toNat ≤ 15) ∧
  (∀ b, 0 ≤ b → b < f (24 + m).toNat → (c (q + 1) b.toNat = f (30 + 30 * m + 2 * b).toNat ∧ c (q + 2) b.toNat = f (30 + 30 * m + 2 * b + 1).toNat) ∧ (0 ≤ f (30 + 30 * m + 2 * b).toNat ∧ f (30 + 30 * m + 2 * b).toNat < f (20 + m).toNat) ∧ (0 ≤ f (30 + 30 * m + 2 * b + 1).toNat ∧ f (30 + 30 * m + 2 * b + 1).toNat < f (20 + m).toNat) ∧ f (30 + 30 * m + 2 * b).toNat ≠ f (30 + 30 * m + 2 * b + 1).toNat ∧ ∀ b', 0 ≤ b' → b' < b → edf f m (f (30 + 30 * m + 2 * b).toNat) (f (30 + 30 * m + 2 * b + 1).toNat) b' = false) ∧
  ∀ l, 0 ≤ l → l < 7 → (0 ≤ c (q + 3) l.toNat ∧ c (q + 3) l.toNat < 128) ∧ ∀ o, 0 ≤ o → o < 7 → bt (c (q + 3) l.toNat) o = isBf f m l o
theorem MapRel.ok {c c' : Nat → Nat → Int} {q : Nat} {m : Int} (h : MapRel (c 143) c' q m) (h0 : 0 ≤ m) (h1 : m < 4) : MapOK c m := ⟨⟨h0, h1⟩, h.2.1, h.2.2.1, fun b hb hb2 => ⟨(h.2.2.2.1 b hb hb2).2.1, (h.2.2.2.1 b hb hb2).2.2.1⟩⟩
theorem MapRel_of {f : Nat → Int} {c c' : Nat → Nat → Int} {q : Nat} {m : Int} (h : MapRel f c q m) (e0 : c' q 4 = c q 4 ∧ c' q 5 = c q 5) (e1 : c' (q + 1) = c (q + 1)) (e2 : c' (q + 2) = c (q + 2)) (e3 : c' (q + 3) = c (q + 3)) : MapRel f c' q m := by
  unfold MapRel at h ⊢
  rw [e0.1, e0.2, e1, e2, e3]; exact h
theorem k9 (d : Nat) {s : List (Nat × Nat)} {c : Nat → Nat → Int} {q : Nat} (hc : CH s c q) {m : Int} (hr : MapRel (c 143) c q m) (x y : Int) : Cd (d + 2) 9 [vA q, vI x, vI y] (s, c) = some ([vI (b2i (decide ((0 ≤ x ∧ x < c 143 (20 + m).toNat) ∧ (0 ≤ y ∧ y < c 143 (20 + m).toNat) ∧ x ≠ y ∧ c 143 (24 + m).toNat < 15) && !isB c m x y))], (s, c)) := by
  obtain ⟨⟨e4, e5⟩, ⟨k2, k3⟩, ⟨k4, k5⟩, k6, k7⟩ := hr
  rw [c9 (hg := hc.g)]
  by_cases h1 : 0 ≤ x ∧ x < c 143 (20 + m).toNat
  · by_cases h2 : 0 ≤ y ∧ y < c 143 (20 + m).toNat
    · by_cases h3 : x = y
      · rw [decide_eq_false (fun g => g.2.2.1 h3)]
        repeat (first | rw [bnd_s] | rw [tI_m] | rw [tL_m] | rw [tA_m] | rw [tV_m] | rw [gF_g hc.1.1 _ (by decide)] | rw [pF_g hc.1.1 _ _ (by decide)] | rw [hc.2.1] | rw [hc.2.2.1] | rw [hc.2.2.2.1] | rw [hc.2.2.2.2] | rw [gA_g (a := 0) hc.1.2.1 _ (by omega) (by omega)] | rw [gA_g (a := 0) hc.1.2.2.1 _ (by omega) (by omega)] | rw [gA_g (a := 0) hc.1.2.2.2.1 _ (by omega) (by omega)] | rw [gA_g (a := 0) hc.1.2.2.2.2 _ (by omega) (by omega)] | rw [pA_g (a := 0) hc.1.2.1 _ _ (by omega) (by omega)] | rw [pA_g (a := 0) hc.1.2.2.1 _ _ (by omega) (by omega)] | rw [pA_g (a := 0) hc.1.2.2.2.1 _ _ (by omega) (by omega)] | rw [pA_g (a := 0) hc.1.2.2.2.2 _ _ (by omega) (by omega)] | rw [e4] | rw [e5] | rw [if_pos (by omega)] | rw [if_neg (by omega)] | rw [c9_15])
        rfl
      · by_cases h4 : c 143 (24 + m).toNat < 15
        · rw [decide_eq_true ⟨h1, h2, h3, h4⟩]
          have g := k7 x h1.1 (by omega)
          have g2 := g.2 y h2.1 (by omega)
          repeat (first | rw [bnd_s] | rw [tI_m] | rw [tL_m] | rw [tA_m] | rw [tV_m] | rw [gF_g hc.1.1 _ (by decide)] | rw [pF_g hc.1.1 _ _ (by decide)] | rw [hc.2.1] | rw [hc.2.2.1] | rw [hc.2.2.2.1] | rw [hc.2.2.2.2] | rw [gA_g (a := 0) hc.1.2.1 _ (by omega) (by omega)] | rw [gA_g (a := 0) hc.1.2.2.1 _ (by omega) (by omega)] | rw [gA_g (a := 0) hc.1.2.2.2.1 _ (by omega) (by omega)] | rw [gA_g (a := 0) hc.1.2.2.2.2 _ (by omega) (by omega)] | rw [pA_g (a := 0) hc.1.2.1 _ _ (by omega) (by omega)] | rw [pA_g (a := 0) hc.1.2.2.1 _ _ (by omega) (by omega)] | rw [pA_g (a := 0) hc.1.2.2.2.1 _ _ (by omega) (by omega)] | rw [pA_g (a := 0) hc.1.2.2.2.2 _ _ (by omega) (by omega)] | rw [e4] | rw [e5] | rw [if_pos (by omega)] | rw [if_neg (by omega)] | rw [k169 _ _ g.1.1 (by omega) h2.1 (by omega)] | rw [if_b0])
          rw [g2, isBf_c]
          cases isB c m x y
          · rw [cond_f, c9_31, if_pos (by decide)]; rfl
          · rw [cond_t, c9_30, c9_31, if_pos (by decide)]; rfl
        · rw [decide_eq_false (fun g => h4 g.2.2.2)]
          repeat (first | rw [bnd_s] | rw [tI_m] | rw [tL_m] | rw [tA_m] | rw [tV_m] | rw [gF_g hc.1.1 _ (by decide)] | rw [pF_g hc.1.1 _ _ (by decide)] | rw [hc.2.1] | rw [hc.2.2.1] | rw [hc.2.2.2.1] | rw [hc.2.2.2.2] | rw [gA_g (a := 0) hc.1.2.1 _ (by omega) (by omega)] | rw [gA_g (a := 0) hc.1.2.2.1 _ (by omega) (by omega)] | rw [gA_g (a := 0) hc.1.2.2.2.1 _ (by omega) (by omega)] | rw [gA_g (a := 0) hc.1.2.2.2.2 _ (by omega) (by omega)] | rw [pA_g (a := 0) hc.1.2.1 _ _ (by omega) (by omega)] | rw [pA_g (a := 0) hc.1.2.2.1 _ _ (by omega) (by omega)] | rw [pA_g (a := 0) hc.1.2.2.2.1 _ _ (by omega) (by omega)] | rw [pA_g (a := 0) hc.1.2.2.2.2 _ _ (by omega) (by omega)] | rw [e4] | rw [e5] | rw [if_pos (by omega)] | rw [if_neg (by omega)] | rw [c9_30] | rw [c9_31] | rw [if_pos (Or.inl rfl)])
          rfl
    · rw [decide_eq_false (fun g => h2 g.2.1)]
      by_cases h5 : y < 0
      · repeat (first | rw [bnd_s] | rw [tI_m] | rw [tL_m] | rw [tA_m] | rw [tV_m] | rw [gF_g hc.1.1 _ (by decide)] | rw [pF_g hc.1.1 _ _ (by decide)] | rw [hc.2.1] | rw [hc.2.2.1] | rw [hc.2.2.2.1] | rw [hc.2.2.2.2] | rw [gA_g (a := 0) hc.1.2.1 _ (by omega) (by omega)] | rw [gA_g (a := 0) hc.1.2.2.1 _ (by omega) (by omega)] | rw [gA_g (a := 0) hc.1.2.2.2.1 _ (by omega) (by omega)] | rw [gA_g (a := 0) hc.1.2.2.2.2 _ (by omega) (by omega)] | rw [pA_g (a := 0) hc.1.2.1 _ _ (by omega) (by omega)] | rw [pA_g (a := 0) hc.1.2.2.1 _ _ (by omega) (by omega)] | rw [pA_g (a := 0) hc.1.2.2.2.1 _ _ (by omega) (by omega)] | rw [pA_g (a := 0) hc.1.2.2.2.2 _ _ (by omega) (by omega)] | rw [e4] | rw [e5] | rw [if_pos (by omega)] | rw [if_neg (by omega)] | rw [c9_15])
        rfl
      · repeat (first | rw [bnd_s] | rw [tI_m] | rw [tL_m] | rw [tA_m] | rw [tV_m] | rw [gF_g hc.1.1 _ (by decide)] | rw [pF_g hc.1.1 _ _ (by decide)] | rw [hc.2.1] | rw [hc.2.2.1] | rw [hc.2.2.2.1] | rw [hc.2.2.2.2] | rw [gA_g (a := 0) hc.1.2.1 _ (by omega) (by omega)] | rw [gA_g (a := 0) hc.1.2.2.1 _ (by omega) (by omega)] | rw [gA_g (a := 0) hc.1.2.2.2.1 _ (by omega) (by omega)] | rw [gA_g (a := 0) hc.1.2.2.2.2 _ (by omega) (by omega)] | rw [pA_g (a := 0) hc.1.2.1 _ _ (by omega) (by omega)] | rw [pA_g (a := 0) hc.1.2.2.1 _ _ (by omega) (by omega)] | rw [pA_g (a := 0) hc.1.2.2.2.1 _ _ (by omega) (by omega)] | rw [pA_g (a := 0) hc.1.2.2.2.2 _ _ (by omega) (by omega)] | rw [e4] | rw [e5] | rw [if_pos (by omega)] | rw [if_neg (by omega)] | rw [c9_15])
        rfl
  · rw [decide_eq_false (fun g => h1 g.1)]
    by_cases h5 : x < 0
    · repeat (first | rw [bnd_s] | rw [tI_m] | rw [tL_m] | rw [tA_m] | rw [tV_m] | rw [gF_g hc.1.1 _ (by decide)] | rw [pF_g hc.1.1 _ _ (by decide)] | rw [hc.2.1] | rw [hc.2.2.1] | rw [hc.2.2.2.1] | rw [hc.2.2.2.2] | rw [gA_g (a := 0) hc.1.2.1 _ (by omega) (by omega)] | rw [gA_g (a := 0) hc.1.2.2.1 _ (by omega) (by omega)] | rw [gA_g (a := 0) hc.1.2.2.2.1 _ (by omega) (by omega)] | rw [gA_g (a := 0) hc.1.2.2.2.2 _ (by omega) (by omega)] | rw [pA_g (a := 0) hc.1.2.1 _ _ (by omega) (by omega)] | rw [pA_g (a := 0) hc.1.2.2.1 _ _ (by omega) (by omega)] | rw [pA_g (a := 0) hc.1.2.2.2.1 _ _ (by omega) (by omega)] | rw [pA_g (a := 0) hc.1.2.2.2.2 _ _ (by omega) (by omega)] | rw [e4] | rw [e5] | rw [if_pos (by omega)] | rw [if_neg (by omega)] | rw [c9_15])
      rfl
    · repeat (first | rw [bnd_s] | rw [tI_m] | rw [tL_m] | rw [tA_m] | rw [tV_m] | rw [gF_g hc.1.1 _ (by decide)] | rw [pF_g hc.1.1 _ _ (by decide)] | rw [hc.2.1] | rw [hc.2.2.1] | rw [hc.2.2.2.1] | rw [hc.2.2.2.2] | rw [gA_g (a := 0) hc.1.2.1 _ (by omega) (by omega)] | rw [gA_g (a := 0) hc.1.2.2.1 _ (by omega) (by omega)] | rw [gA_g (a := 0) hc.1.2.2.2.1 _ (by omega) (by omega)] | rw [gA_g (a := 0) hc.1.2.2.2.2 _ (by omega) (by omega)] | rw [pA_g (a := 0) hc.1.2.1 _ _ (by omega) (by omega)] | rw [pA_g (a := 0) hc.1.2.2.1 _ _ (by omega) (by omega)] | rw [pA_g (a := 0) hc.1.2.2.2.1 _ _ (by omega) (by omega)] | rw [pA_g (a := 0) hc.1.2.2.2.2 _ _ (by omega) (by omega)] | rw [e4] | rw [e5] | rw [if_pos (by omega)] | rw [if_neg (by omega)] | rw [c9_15])
      rfl
theorem k11 (d : Nat) {s : List (Nat × Nat)} {c : Nat → Nat → Int} {q : Nat} (hc : CH s c q) {m : Int} (hr : MapRel (c 143) c q m) (r : Int) : Cd (d + 2) 11 [vA q, vI r] (s, c) = some ([vI (b2i (decide (0 ≤ r ∧ r < r3 (c 143 (20 + m).toNat))))], (s, c)) := by
  obtain ⟨⟨e4, e5⟩, ⟨k2, k3⟩, ⟨k4, k5⟩, k6, k7⟩ := hr
  rw [c11 (hg := hc.g)]
  by_cases h1 : r < 0
  · rw [decide_eq_false (by omega), if_pos h1, c11_9, c11_10, if_pos (by decide)]; rfl
  · rw [if_neg h1]
    have hb := r3_b k3
    repeat (first | rw [bnd_s] | rw [tI_m] | rw [tL_m] | rw [tA_m] | rw [tV_m] | rw [gF_g hc.1.1 _ (by decide)] | rw [pF_g hc.1.1 _ _ (by decide)] | rw [hc.2.1] | rw [hc.2.2.1] | rw [hc.2.2.2.1] | rw [hc.2.2.2.2] | rw [gA_g (a := 0) hc.1.2.1 _ (by omega) (by omega)] | rw [gA_g (a := 0) hc.1.2.2.1 _ (by omega) (by omega)] | rw [gA_g (a := 0) hc.1.2.2.2.1 _ (by omega) (by omega)] | rw [gA_g (a := 0) hc.1.2.2.2.2 _ (by omega) (by omega)] | rw [pA_g (a := 0) hc.1.2.1 _ _ (by omega) (by omega)] | rw [pA_g (a := 0) hc.1.2.2.1 _ _ (by omega) (by omega)] | rw [pA_g (a := 0) hc.1.2.2.2.1 _ _ (by omega) (by omega)] | rw [pA_g (a := 0) hc.1.2.2.2.2 _ _ (by omega) (by omega)] | rw [e4] | rw [k163 _ _ (by omega) (by omega)])
    by_cases h2 : r < r3 (c 143 (20 + m).toNat)
    · rw [if_pos h2, c11_10, if_pos (by decide), decide_eq_true (by omega)]; rfl
    · rw [if_neg h2, c11_9, c11_10, if_pos (by decide), decide_eq_false (by omega)]; rfl
/-- whether a pack is an answer -/
def isP (c : Nat → Nat → Int) (m p : Int) : Bool := allU (fun b => decide (pin p (c 143 (30 + 30 * m + 2 * b).toNat) ≠ pin p (c 143 (30 + 30 * m + 2 * b + 1).toNat))) (c 143 (24 + m).toNat).toNat 0
theorem k12_2 (d : Nat) {s : List (Nat × Nat)} {c : Nat → Nat → Int} {q : Nat} (hc : CH s c q) {m : Int} (hr : MapRel (c 143) c q m) (p : Int) : ∀ (n : Nat) (j : Int), 0 ≤ j → j + n = c 143 (24 + m).toNat → Rr (Cd (d + 1)) 12 2 [some (vA q), some (vI p), some (vI j)] [] (s, c) = some ([vI (b2i (allU (fun b => decide (pin p (c 143 (30 + 30 * m + 2 * b).toNat) ≠ pin p (c 143 (30 + 30 * m + 2 * b + 1).toNat))) n j))], (s, c))
  | 0, j, h0, h => by
    obtain ⟨⟨e4, e5⟩, ⟨k2, k3⟩, ⟨k4, k5⟩, k6, k7⟩ := hr
    rw [c12_2]
    repeat (first | rw [bnd_s] | rw [tI_m] | rw [tL_m] | rw [tA_m] | rw [tV_m] | rw [gF_g hc.1.1 _ (by decide)] | rw [pF_g hc.1.1 _ _ (by decide)] | rw [hc.2.1] | rw [hc.2.2.1] | rw [hc.2.2.2.1] | rw [hc.2.2.2.2] | rw [gA_g (a := 0) hc.1.2.1 _ (by omega) (by omega)] | rw [gA_g (a := 0) hc.1.2.2.1 _ (by omega) (by omega)] | rw [gA_g (a := 0) hc.1.2.2.2.1 _ (by omega) (by omega)] | rw [gA_g (a := 0) hc.1.2.2.2.2 _ (by omega) (by omega)] | rw [pA_g (a := 0) hc.1.2.1 _ _ (by omega) (by omega)] | rw [pA_g (a := 0) hc.1.2.2.1 _ _ (by omega) (by omega)] | rw [pA_g (a := 0) hc.1.2.2.2.1 _ _ (by omega) (by omega)] | rw [pA_g (a := 0) hc.1.2.2.2.2 _ _ (by omega) (by omega)] | rw [e5] | rw [if_pos (by omega)] | rw [if_neg (by omega)])
    all_goals rfl
  | n + 1, j, h0, h => by
    have ih := k12_2 d hc hr p n (j + 1) (by omega) (by omega)
    obtain ⟨⟨e4, e5⟩, ⟨k2, k3⟩, ⟨k4, k5⟩, k6, k7⟩ := hr
    have hb := k6 j h0 (by omega)
    rw [c12_2]
    repeat (first | rw [bnd_s] | rw [tI_m] | rw [tL_m] | rw [tA_m] | rw [tV_m] | rw [gF_g hc.1.1 _ (by decide)] | rw [pF_g hc.1.1 _ _ (by decide)] | rw [hc.2.1] | rw [hc.2.2.1] | rw [hc.2.2.2.1] | rw [hc.2.2.2.2] | rw [gA_g (a := 0) hc.1.2.1 _ (by omega) (by omega)] | rw [gA_g (a := 0) hc.1.2.2.1 _ (by omega) (by omega)] | rw [gA_g (a := 0) hc.1.2.2.2.1 _ (by omega) (by omega)] | rw [gA_g (a := 0) hc.1.2.2.2.2 _ (by omega) (by omega)] | rw [pA_g (a := 0) hc.1.2.1 _ _ (by omega) (by omega)] | rw [pA_g (a := 0) hc.1.2.2.1 _ _ (by omega) (by omega)] | rw [pA_g (a := 0) hc.1.2.2.2.1 _ _ (by omega) (by omega)] | rw [pA_g (a := 0) hc.1.2.2.2.2 _ _ (by omega) (by omega)] | rw [e5] | rw [if_pos (show j < c 143 (24 + m).toNat by omega)] | rw [hb.1.1] | rw [hb.1.2] | rw [k165])
    simp only [allU]
    by_cases g : pin p (c 143 (30 + 30 * m + 2 * j).toNat) = pin p (c 143 (30 + 30 * m + 2 * j + 1).toNat)
    · rw [if_pos g, decide_eq_false (by simpa using g)]; rfl
    · rw [if_neg g, decide_eq_true g]
      try rw [w32_id (by omega) (by omega)]
      rw [ih]; rfl
theorem k12 (d : Nat) {s : List (Nat × Nat)} {c : Nat → Nat → Int} {q : Nat} (hc : CH s c q) {m : Int} (hr : MapRel (c 143) c q m) (p : Int) : Cd (d + 2) 12 [vA q, vI p] (s, c) = some ([vI (b2i (isP c m p))], (s, c)) := by
  have k4 := hr.2.2.1.1
  rw [c12 (hg := hc.g)]
  exact k12_2 d hc hr p _ 0 (by omega) (by omega)
theorem isP_A {c : Nat → Nat → Int} {m r : Int} (hk : MapOK c m) (h0 : 0 ≤ r) (h1 : r < r3 (c 143 (20 + m).toNat)) : isP c m (pkR r (c 143 (20 + m).toNat)) = isA c m r := by
  have hp := (pk_ok hk.2.1.1 hk.2.1.2 h0 h1).2
  refine allU_cg _ _ (fun b hb hb2 => ?_)
  have h4 := hk.2.2.1.1
  have g := hk.2.2.2 b hb (by omega)
  rw [hp _ g.1.1 g.1.2, hp _ g.2.1 g.2.2]
/-- a chart's answers stand, as the list l tells them -/
def AnsC (s : List (Nat × Nat)) (c : Nat → Nat → Int) (q : Nat) (n : Int) (l : List Int) : Prop := c q 9 = 1 ∧ c q 8 = (l.length : Int) ∧ ∃ r : Nat, 159 ≤ r ∧ c q 6 = ((r : Nat) : Int) ∧ c q 7 = ((r + 1 : Nat) : Int) ∧ s[r]? = some (100, 2187) ∧ s[r + 1]? = some (100, 2187) ∧ ∀ i : Nat, i < l.length → c r i = l.getD i 0 ∧ c (r + 1) i = pkR (l.getD i 0) n
theorem k13_29 (d : Nat) {s : List (Nat × Nat)} {c0 : Nat → Nat → Int} {q : Nat} (hc0 : CH s c0 q) {m : Int} (hm0 : 0 ≤ m) (hm1 : m < 4) (hr0 : MapRel (c0 143) c0 q m) {r : Nat} (hq : 29 ≤ q ∧ q < 100) (hr : 159 ≤ r) (hs1 : s[r]? = some (100, 2187)) (hs2 : s[r + 1]? = some (100, 2187)) (o3 : Option AV) (h6 : c0 q 6 = (r : Int)) (h7 : c0 q 7 = ((r + 1 : Nat) : Int)) : ∀ (n : Nat) (j : Int) (L : List Int) (c : Nat → Nat → Int) (o3 : Option AV), 0 ≤ j → j + n = r3 (c0 143 (20 + m).toNat) → (∀ o k, o ≠ r → o ≠ r + 1 → ¬ (o = q ∧ (k = 8 ∨ k = 9)) → c o k = c0 o k) → c q 8 = (L.length : Int) → (∀ i : Nat, i < L.length → c r i = L.getD i 0 ∧ c (r + 1) i = pkR (L.getD i 0) (c0 143 (20 + m).toNat)) → (L.length : Int) ≤ j →
    ∃ c', Rr (Cd (d + 2)) 13 29 [some (vA q), some (vI (r3 (c0 143 (20 + m).toNat))), some (vI j), o3] [] (s, c) = some ([], (s, c')) ∧ (∀ o k, o ≠ r → o ≠ r + 1 → ¬ (o = q ∧ (k = 8 ∨ k = 9)) → c' o k = c0 o k) ∧ AnsC s c' q (c0 143 (20 + m).toNat) (L ++ filU (isA c0 m) n j)
  | 0, j, L, c, o3, h0, h, hf, h8, hl, hlen => by
    have hc := CH_of hc0 (fun k hk => hf q k (by omega) (by omega) (by omega))
    rw [c13_29, if_neg (by omega), pF_g hc.1.1 _ _ (by decide), bnd_s]
    refine ⟨_, rfl, fun o k a b e => ?_, ?_⟩
    · rw [u2_n (by omega)]; exact hf o k a b e
    · refine ⟨u2_e _ _ _ _, ?_, r, hr, ?_, ?_, hs1, hs2, fun i hi => ?_⟩
      · rw [u2_n (by omega), h8]; simp [filU]
      · rw [u2_n (by omega), hf q 6 (by omega) (by omega) (by omega)]; exact h6
      · rw [u2_n (by omega), hf q 7 (by omega) (by omega) (by omega)]; exact h7
      · rw [u2_n (by omega), u2_n (by omega)]
        simp only [filU, List.append_nil] at hi ⊢
        exact hl i hi
  | n + 1, j, L, c, o3, h0, h, hf, h8, hl, hlen => by
    have hc := CH_of hc0 (fun k hk => hf q k (by omega) (by omega) (by omega))
    have e143 : c 143 = c0 143 := funext fun k => hf 143 k (by omega) (by omega) (by omega)
    have hr' : MapRel (c 143) c q m := by
      rw [e143]
      exact MapRel_of hr0 ⟨hf q 4 (by omega) (by omega) (by omega), hf q 5 (by omega) (by omega) (by omega)⟩ (funext fun k => hf _ k (by omega) (by omega) (by omega)) (funext fun k => hf _ k (by omega) (by omega) (by omega)) (funext fun k => hf _ k (by omega) (by omega) (by omega))
    have e4 : c q 4 = c0 143 (20 + m).toNat := (hf q 4 (by omega) (by omega) (by omega)).trans hr0.1.1
    have f6 : c q 6 = ((r : Nat) : Int) := (hf q 6 (by omega) (by omega) (by omega)).trans h6
    have f7 : c q 7 = ((r + 1 : Nat) : Int) := (hf q 7 (by omega) (by omega) (by omega)).trans h7
    have hb := r3_b hr0.2.1.2
    have n0 := hr0.2.1.1
    have n1 := hr0.2.1.2
    have hA : isP c m (pkR j (c0 143 (20 + m).toNat)) = isA c0 m j := by
      rw [← e143, isP_A (hr'.ok hm0 hm1) h0 (by rw [e143]; omega), isA_of e143]
    rw [c13_29, if_pos (by omega)]
    repeat (first | rw [bnd_s] | rw [tI_m] | rw [tL_m] | rw [tA_m] | rw [tV_m] | rw [gF_g hc.1.1 _ (by decide)] | rw [pF_g hc.1.1 _ _ (by decide)] | rw [hc.2.1] | rw [hc.2.2.1] | rw [hc.2.2.2.1] | rw [hc.2.2.2.2] | rw [gA_g (a := 0) hc.1.2.1 _ (by omega) (by omega)] | rw [gA_g (a := 0) hc.1.2.2.1 _ (by omega) (by omega)] | rw [gA_g (a := 0) hc.1.2.2.2.1 _ (by omega) (by omega)] | rw [gA_g (a := 0) hc.1.2.2.2.2 _ (by omega) (by omega)] | rw [pA_g (a := 0) hc.1.2.1 _ _ (by omega) (by omega)] | rw [pA_g (a := 0) hc.1.2.2.1 _ _ (by omega) (by omega)] | rw [pA_g (a := 0) hc.1.2.2.2.1 _ _ (by omega) (by omega)] | rw [pA_g (a := 0) hc.1.2.2.2.2 _ _ (by omega) (by omega)] | rw [e4] | rw [k164 _ _ _ (by omega) (by omega)])
    rw [k12 _ hc hr', bnd_s, tI_m, bnd_s, if_b0, hA]
    cases hAj : isA c0 m j with
    | false =>
      rw [cond_f, c13_59, w32_id (by omega) (by omega)]
      obtain ⟨c', g1, g2, g3⟩ := k13_29 d hc0 hm0 hm1 hr0 hq hr hs1 hs2 o3 h6 h7 n (j + 1) L c _ (by omega) (by omega) hf h8 hl (by omega)
      exact ⟨c', g1, g2, by simpa [filU, hAj] using g3⟩
    | true =>
      rw [cond_t]
      repeat (first | rw [bnd_s] | rw [tI_m] | rw [tL_m] | rw [tA_m] | rw [tV_m] | rw [gF_g hc.1.1 _ (by decide)] | rw [pF_g hc.1.1 _ _ (by decide)] | rw [u2_e] | rw [u2_n (by omega)] | rw [f6] | rw [f7] | rw [h8] | rw [pA_g (a := 0) hs1 _ _ (by omega) (by omega)] | rw [pA_g (a := 0) hs2 _ _ (by omega) (by omega)] | rw [w32_id (z := (L.length : Int) + 1) (by omega) (by omega)])
      rw [c13_59, w32_id (by omega) (by omega)]
      obtain ⟨c', g1, g2, g3⟩ := k13_29 d hc0 hm0 hm1 hr0 hq hr hs1 hs2 o3 h6 h7 n (j + 1) (L ++ [j]) (u2 (u2 (u2 c r (L.length : Int).toNat j) (r + 1) (L.length : Int).toNat (pkR j (c0 143 (20 + m).toNat))) q 8 ((L.length : Int) + 1)) _ (by omega) (by omega) (fun o k a b e => by rw [u2_n (by omega), u2_n (by omega), u2_n (by omega)]; exact hf o k a b e) (by rw [u2_e]; simp) (fun i hi => by
        simp at hi
        rw [u2_n (by omega), u2_n (by omega), u2_n (i' := r + 1) (by omega), getD_app]
        by_cases g : i = L.length
        · subst g; rw [if_pos rfl, Int.toNat_natCast, u2_e, u2_e]; exact ⟨rfl, rfl⟩
        · rw [if_neg g, u2_n (by omega), u2_n (by omega), u2_n (by omega)]; exact hl i (by omega)) (by simp; omega)
      exact ⟨c', g1, g2, by simpa [filU, hAj] using g3⟩
