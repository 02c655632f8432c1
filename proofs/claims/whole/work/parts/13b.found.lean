/-! the class: a chart's answers are found -/
def mkC (c : Nat → Nat → Int) (o t : Nat) : Nat → Nat → Int := fun i k => if i = o then dfl t k else c i k
theorem mk_p (s : List (Nat × Nat)) (c : Nat → Nat → Int) (t n : Nat) : mk (s, c) t n = (s ++ [(t, n)], mkC c s.length t) := rfl
theorem mkC_n {c : Nat → Nat → Int} {o t i k : Nat} (h : i ≠ o) : mkC c o t i k = c i k := by unfold mkC; rw [if_neg h]
theorem k13_18 (d : Nat) {s : List (Nat × Nat)} {c : Nat → Nat → Int} {q : Nat} (hc : CH s c q) {m : Int} (hm0 : 0 ≤ m) (hm1 : m < 4) (hr0 : MapRel (c 143) c q m) {r : Nat} (hq : 29 ≤ q ∧ q < 100) (hr : 159 ≤ r) (hs1 : s[r]? = some (100, 2187)) (hs2 : s[r + 1]? = some (100, 2187)) (o1 o2 o3 : Option AV) (h6 : c q 6 = (r : Int)) (h7 : c q 7 = ((r + 1 : Nat) : Int)) : ∃ c', Rr (Cd (d + 2)) 13 18 [some (vA q), o1, o2, o3] [] (s, c) = some ([], (s, c')) ∧ (∀ o k, o ≠ r → o ≠ r + 1 → ¬ (o = q ∧ (k = 8 ∨ k = 9)) → c' o k = c o k) ∧ AnsC s c' q (c 143 (20 + m).toNat) (ansL c m) := by
  have n0 := hr0.2.1.1
  have n1 := hr0.2.1.2
  have hb := r3_b n1
  have e4 := hr0.1.1
  have e143 : (u2 c q 8 0) 143 = c 143 := funext fun k => u2_n (by omega)
  have hc0 : CH s (u2 c q 8 0) q := CH_of hc (fun k hk => u2_n (by omega))
  have hr1 : MapRel ((u2 c q 8 0) 143) (u2 c q 8 0) q m := by
    rw [e143]
    exact MapRel_of hr0 ⟨u2_n (by omega), u2_n (by omega)⟩ (funext fun k => u2_n (by omega)) (funext fun k => u2_n (by omega)) (funext fun k => u2_n (by omega))
  rw [c13_18]
  repeat (first | rw [bnd_s] | rw [tI_m] | rw [tL_m] | rw [tA_m] | rw [tV_m] | rw [gF_g hc.1.1 _ (by decide)] | rw [pF_g hc.1.1 _ _ (by decide)] | rw [u2_n (by omega)] | rw [e4] | rw [k163 _ _ (by omega) (by omega)] | rw [j288] | rw [if_neg (show ¬ (2187 : Int) < r3 (c 143 (20 + m).toNat) by omega)])
  have g := k13_29 d hc0 hm0 hm1 hr1 hq hr hs1 hs2 o3 (by rw [u2_n (by omega)]; exact h6) (by rw [u2_n (by omega)]; exact h7) (r3 (c 143 (20 + m).toNat)).toNat 0 [] (u2 c q 8 0) o3 (by omega) (by rw [e143]; omega) (fun _ _ _ _ _ => rfl) (by rw [u2_e]; rfl) (fun i hi => by simp at hi) (by simp)
  rw [e143] at g
  obtain ⟨c', g1, g2, g3⟩ := g
  rw [isA_of e143, List.nil_append] at g3
  refine ⟨c', g1, fun o k a b e => ?_, g3⟩
  rw [g2 o k a b e, u2_n (by omega)]
/-- the rows for answers: which charts have some -/
def RefI (c : Nat → Nat → Int) (n : Nat) : Prop := (∀ m : Nat, m < 4 → c (40 + 5 * m) 6 = -1 ∨ ∃ j : Nat, j < n ∧ c (40 + 5 * m) 6 = ((159 + 2 * j : Nat) : Int) ∧ c (40 + 5 * m) 7 = ((159 + 2 * j + 1 : Nat) : Int)) ∧ ∀ m m' : Nat, m < 4 → m' < 4 → m ≠ m' → c (40 + 5 * m) 6 = c (40 + 5 * m') 6 → c (40 + 5 * m) 6 = -1
/-- whose answers stand, stand rightly -/
def AnsI (s : List (Nat × Nat)) (c : Nat → Nat → Int) : Prop := ∀ m : Nat, m < 4 → (m : Int) < c 143 0 → c (40 + 5 * m) 9 = 0 ∨ AnsC s c (40 + 5 * m) (c 143 (20 + (m : Int)).toNat) (ansL c m)
/-- a chart's answers are found: what may change is its own -/
def FrA (q : Nat) (c c' : Nat → Nat → Int) : Prop := ∀ o k, o < 159 → ¬ (o = q ∧ 6 ≤ k) → c' o k = c o k
theorem AnsC_of {s s' : List (Nat × Nat)} {c c' : Nat → Nat → Int} {q : Nat} {n : Int} {l : List Int} (h : AnsC s c q n l) (he : ∃ e, s' = s ++ e) (h1 : ∀ k, c' q k = c q k) (h2 : ∀ r : Nat, 159 ≤ r → c q 6 = (r : Int) → c' r = c r ∧ c' (r + 1) = c (r + 1)) : AnsC s' c' q n l := by
  obtain ⟨e, rfl⟩ := he
  obtain ⟨a1, a2, r, a3, a4, a5, a6, a7, a8⟩ := h
  have key : ∀ {i : Nat} {x : Nat × Nat}, s[i]? = some x → (s ++ e)[i]? = some x := fun {i} {x} g => by
    rw [List.getElem?_append_left (List.getElem?_eq_some_iff.mp g).1]; exact g
  have b := h2 r a3 a4
  exact ⟨by rw [h1]; exact a1, by rw [h1]; exact a2, r, a3, by rw [h1]; exact a4, by rw [h1]; exact a5, key a6, key a7, by rw [b.1, b.2]; exact a8⟩
theorem k13 (d : Nat) {s : List (Nat × Nat)} {c : Nat → Nat → Int} {n : Nat} (hs : SpN s n) {m : Nat} (hm : m < 4) (hmc : (m : Int) < c 143 0) (hc : CH s c (40 + 5 * m)) (hr0 : MapRel (c 143) c (40 + 5 * m) m) (hR : RefI c n) (hA : AnsI s c) : ∃ s' c' n', Cd (d + 3) 13 [vA (40 + 5 * m : Nat)] (s, c) = some ([], (s', c')) ∧ SpN s' n' ∧ n' ≤ n + 1 ∧ (∃ e, s' = s ++ e) ∧ FrA (40 + 5 * m) c c' ∧ RefI c' n' ∧ AnsI s' c' ∧ AnsC s' c' (40 + 5 * m) (c 143 (20 + (m : Int)).toNat) (ansL c m) := by
  rw [c13 (hg := hc.g), gF_g hc.1.1 _ (by decide), bnd_s]
  rcases hA m hm hmc with h9 | hAC
  case inr => 
    refine ⟨s, c, n, ?_, hs, by omega, ⟨[], by simp⟩, fun _ _ _ _ => rfl, hR, hA, hAC⟩
    rw [if_neg (by rw [hAC.1]; decide)]
  rw [if_pos h9, gF_g hc.1.1 _ (by decide), bnd_s]
  -- behind the making of the rows
  have fin : ∀ (s1 : List (Nat × Nat)) (c1 : Nat → Nat → Int) (n1 j : Nat), SpN s1 n1 → n1 ≤ n + 1 → (∃ e, s1 = s ++ e) → (∀ o k, o < 159 → ¬ (o = 40 + 5 * m ∧ (k = 6 ∨ k = 7)) → c1 o k = c o k) → (∀ j', j' < n → c1 (159 + 2 * j') = c (159 + 2 * j') ∧ c1 (159 + 2 * j' + 1) = c (159 + 2 * j' + 1)) → j < n1 → c1 (40 + 5 * m) 6 = ((159 + 2 * j : Nat) : Int) → c1 (40 + 5 * m) 7 = ((159 + 2 * j + 1 : Nat) : Int) → (∀ m' : Nat, m' < 4 → m' ≠ m → c (40 + 5 * m') 6 ≠ ((159 + 2 * j : Nat) : Int)) → ∃ s' c' n', Rr (Cd (d + 2)) 13 18 [some (vA (40 + 5 * m : Nat)), none, none, none] [] (s1, c1) = some ([], (s', c')) ∧ SpN s' n' ∧ n' ≤ n + 1 ∧ (∃ e, s' = s ++ e) ∧ FrA (40 + 5 * m) c c' ∧ RefI c' n' ∧ AnsI s' c' ∧ AnsC s' c' (40 + 5 * m) (c 143 (20 + (m : Int)).toNat) (ansL c m) := by
    intro s1 c1 n1 j hs1 hn1 he hf hrows hj h6 h7 hd
    have e143 : c1 143 = c 143 := funext fun k => hf 143 k (by omega) (by omega)
    have hc1 : CH s1 c1 (40 + 5 * m) := by
      obtain ⟨e, rfl⟩ := he
      exact CH_of (CH_s hc) (fun k hk => hf _ k (by omega) (by omega))
    have hr1 : MapRel (c1 143) c1 (40 + 5 * m) m := by
      rw [e143]
      exact MapRel_of hr0 ⟨hf _ _ (by omega) (by omega), hf _ _ (by omega) (by omega)⟩ (funext fun k => hf _ _ (by omega) (by omega)) (funext fun k => hf _ _ (by omega) (by omega)) (funext fun k => hf _ _ (by omega) (by omega))
    obtain ⟨c', g1, g2, g3⟩ := k13_18 d hc1 (by omega) (by omega) hr1 (r := 159 + 2 * j) (by omega) (by omega) (hs1.at (by omega) (by omega)) (hs1.at (by omega) (by omega)) none none none h6 h7
    rw [e143, ansL_of e143] at g3
    have hfr : FrA (40 + 5 * m) c c' := fun o k ho hk => by
      rw [g2 o k (by omega) (by omega) (by omega), hf o k ho (by omega)]
    have e143' : c' 143 = c 143 := funext fun k => hfr 143 k (by omega) (by omega)
    have h6' : c' (40 + 5 * m) 6 = ((159 + 2 * j : Nat) : Int) := by rw [g2 _ _ (by omega) (by omega) (by omega)]; exact h6
    have h7' : c' (40 + 5 * m) 7 = ((159 + 2 * j + 1 : Nat) : Int) := by rw [g2 _ _ (by omega) (by omega) (by omega)]; exact h7
    have ho : ∀ m' : Nat, m' < 4 → m' ≠ m → ∀ k, c' (40 + 5 * m') k = c (40 + 5 * m') k := fun m' hm' hne k => hfr _ k (by omega) (by omega)
    refine ⟨s1, c', n1, g1, hs1, hn1, he, hfr, ⟨fun m' hm' => ?_, fun a b ha hb hab hEq => ?_⟩, fun m' hm' hmc' => ?_, g3⟩
    · by_cases hmm : m' = m
      · subst hmm; exact Or.inr ⟨j, hj, h6', h7'⟩
      · rw [ho m' hm' hmm, ho m' hm' hmm]
        rcases hR.1 m' hm' with h | ⟨j', h1, h2, h3⟩
        · exact Or.inl h
        · refine Or.inr ⟨j', ?_, h2, h3⟩
          obtain ⟨e, he⟩ := he
          have l1 := hs1.len
          have l2 := hs.len
          rw [he, List.length_append] at l1
          omega
    · by_cases ham : a = m
      · subst ham
        rw [h6', ho b hb (by omega)] at hEq
        exact absurd hEq.symm (hd b hb (by omega))
      · by_cases hbm : b = m
        · subst hbm
          rw [h6', ho a ha ham] at hEq
          exact absurd hEq (hd a ha ham)
        · rw [ho a ha ham] at hEq ⊢
          rw [ho b hb hbm] at hEq
          exact hR.2 a b ha hb hab hEq
    · by_cases hmm : m' = m
      · subst hmm; rw [e143', ansL_of e143']; exact Or.inr g3
      · rw [e143'] at hmc' ⊢
        rw [ansL_of e143', ho m' hm' hmm]
        rcases hA m' hm' hmc' with h | h
        · exact Or.inl h
        · refine Or.inr (AnsC_of h he (ho m' hm' hmm) (fun r hr hr6 => ?_))
          rcases hR.1 m' hm' with h' | ⟨j', h1, h2, h3⟩
          · rw [h'] at hr6; omega
          · have hne := hd m' hm' hmm
            rw [h2] at hr6 hne
            have er : r = 159 + 2 * j' := by omega
            subst er
            have b := hrows j' h1
            exact ⟨funext fun k => by rw [g2 _ _ (by omega) (by omega) (by omega), b.1], funext fun k => by rw [g2 _ _ (by omega) (by omega) (by omega), b.2]⟩
  rcases hR.1 m hm with h6 | ⟨j, hj, h6, h7⟩
  · rw [h6, if_neg (by decide), if_pos (by decide), c13_10, mk_p]
    have hc1 : CH (s ++ [(100, 2187)]) (mkC c s.length 100) (40 + 5 * m) := CH_of (CH_s hc) (fun k hk => mkC_n (by rw [hs.len]; omega))
    rw [pF_g hc1.1.1 _ _ (by decide), bnd_s, mk_p]
    have hc2 := CH_s (e := [(100, 2187)]) hc1
    rw [pF_g hc2.1.1 _ _ (by decide), bnd_s]
    have hl := hs.len
    have hl2 : (s ++ [(100, 2187)]).length = 160 + 2 * n := by rw [List.length_append, hl]; simp; omega
    rw [hl2, hl]
    refine fin _ _ (n + 1) n hs.ext (by omega) ⟨[(100, 2187)] ++ [(100, 2187)], by simp⟩ (fun o k ho hk => ?_) (fun j' hj' => ⟨funext fun k => ?_, funext fun k => ?_⟩) (by omega) ?_ ?_ (fun m' hm' hne => ?_)
    · rw [u2_n (by omega), mkC_n (by omega), u2_n (by omega), mkC_n (by omega)]
    · rw [u2_n (by omega), mkC_n (by omega), u2_n (by omega), mkC_n (by omega)]
    · rw [u2_n (by omega), mkC_n (by omega), u2_n (by omega), mkC_n (by omega)]
    · rw [u2_n (by omega), mkC_n (by omega), u2_e]
    · rw [u2_e]; show ((160 + 2 * n : Nat) : Int) = _; omega
    · rcases hR.1 m' hm' with h | ⟨j', h1, h2, h3⟩
      · rw [h]; omega
      · rw [h2]; omega
  · rw [h6, if_neg (by omega), if_neg (by omega), gF_g hc.1.1 _ (by decide), bnd_s, h7, if_neg (by omega), if_neg (by omega)]
    exact fin s c n j hs (by omega) ⟨[], by simp⟩ (fun _ _ _ _ => rfl) (fun _ _ => ⟨rfl, rfl⟩) hj h6 h7 (fun m' hm' hne h => by
      have := hR.2 m m' hm hm' (Ne.symm hne) (h6.trans h.symm)
      rw [h6] at this; omega)
theorem k14 (d : Nat) {s : List (Nat × Nat)} {c : Nat → Nat → Int} {q : Nat} {n : Int} {l : List Int} (hc : CH s c q) (h : AnsC s c q n l) (hl : l.length ≤ 2187) (i : Int) : Cd (d + 1) 14 [vA q, vI i] (s, c) = some ([vI (if 0 ≤ i ∧ i < (l.length : Int) then l.getD i.toNat 0 else -1)], (s, c)) := by
  obtain ⟨a1, a2, r, a3, a4, a5, a6, a7, a8⟩ := h
  rw [c14 (hg := hc.g), gF_g hc.1.1 _ (by decide), bnd_s, a1, if_neg (by decide)]
  by_cases h1 : i < 0
  · rw [if_pos h1, c14_14, c14_15, if_neg (by omega)]
  · rw [if_neg h1, gF_g hc.1.1 _ (by decide), bnd_s, a2]
    by_cases h2 : i < (l.length : Int)
    · rw [if_pos h2, gF_g hc.1.1 _ (by decide), bnd_s, a4, gA_g (a := 0) a6 _ (by omega) (by omega), bnd_s, c14_15, if_pos ⟨by omega, h2⟩, (a8 _ (by omega)).1]
    · rw [if_neg h2, c14_14, c14_15, if_neg (by omega)]
theorem k15 (d : Nat) {s : List (Nat × Nat)} {c : Nat → Nat → Int} {q : Nat} {n : Int} {l : List Int} (hc : CH s c q) (h : AnsC s c q n l) (hl : l.length ≤ 2187) (i : Int) : Cd (d + 1) 15 [vA q, vI i] (s, c) = some ([vI (if 0 ≤ i ∧ i < (l.length : Int) then pkR (l.getD i.toNat 0) n else -1)], (s, c)) := by
  obtain ⟨a1, a2, r, a3, a4, a5, a6, a7, a8⟩ := h
  rw [c15 (hg := hc.g), gF_g hc.1.1 _ (by decide), bnd_s, a1, if_neg (by decide)]
  by_cases h1 : i < 0
  · rw [if_pos h1, c15_14, c15_15, if_neg (by omega)]
  · rw [if_neg h1, gF_g hc.1.1 _ (by decide), bnd_s, a2]
    by_cases h2 : i < (l.length : Int)
    · rw [if_pos h2, gF_g hc.1.1 _ (by decide), bnd_s, a5, gA_g (a := 0) a7 _ (by omega) (by omega), bnd_s, c15_15, if_pos ⟨by omega, h2⟩, (a8 _ (by omega)).2]
    · rw [if_neg h2, c15_14, c15_15, if_neg (by omega)]
