/-! image and back, as the law asks them -/
def cpWb (b o k : Nat) : Bool := decide ((o = b ∧ (k = 6 ∨ k = 7)) ∨ (b + 4 ≤ o ∧ o ≤ b + 7) ∨ (o = b + 8 ∧ 1 ≤ k) ∨ o = b + 9 ∨ (b + 10 ≤ o ∧ o < b + 30 ∧ (((o - b) % 5 = 0 ∧ (k = 4 ∨ k = 5 ∨ k = 9)) ∨ (o - b) % 5 = 1 ∨ (o - b) % 5 = 2 ∨ (o - b) % 5 = 3)) ∨ (b + 30 ≤ o ∧ o < b + 46 ∧ (((o - b) % 2 = 0 ∧ 1 ≤ k ∧ k < 4) ∨ (o - b) % 2 = 1)))
theorem cpWb_f {b o k : Nat} (h : cpWb b o k = false) : ¬ CpW b o k := by
  unfold cpWb at h
  exact fun g => of_decide_eq_false h g
theorem CpW_n {b o k : Nat} (h : o < b ∨ b + 46 ≤ o) : ¬ CpW b o k := by
  rintro (g | g | g | g | ⟨g1, g2, -⟩ | ⟨g1, g2, -⟩) <;> omega
theorem CpW_m {b m k : Nat} (hm : m < 4) (hk : k = 6 ∨ k = 7) : ¬ CpW b (b + 10 + 5 * m) k := by
  rintro (g | g | g | g | ⟨g1, g2, g3⟩ | ⟨g1, g2, -⟩)
  case inr.inr.inr.inr.inl => unfold CWm at g3; omega
  all_goals omega
def isRfW (b : Nat) : Bool := cRefs.all fun q => !cpWb b q.1 q.2.1
theorem isRfW_30 : isRfW 30 = true := by decide +kernel
theorem isRfW_76 : isRfW 76 = true := by decide +kernel
theorem CS_w {c c' : Nat → Nat → Int} {b : Nat} (h : CS c) (hb : isRfW b = true) (hb2 : b + 46 ≤ 137) (e : ∀ o k, o < 142 → ¬ CpW b o k → c' o k = c o k) : CS c' := by
  refine CS_k h (fun o k hk => e o k ?_ ?_) (funext fun k => e _ _ (by omega) (CpW_n (by omega)))
  · have := isRf_n hk; omega
  · obtain ⟨q, hq, g⟩ := List.any_eq_true.mp hk
    simp only [Bool.and_eq_true, beq_iff_eq] at g
    obtain ⟨rfl, rfl⟩ := g
    have := List.all_eq_true.mp hb q hq
    exact cpWb_f (by simpa using this)
theorem StRel_c {f tx : Nat → Int} {c c1 : Nat → Nat → Int} {b e N S : Nat} (h : StRel f tx c e) (hN : f 0 = (N : Int)) (hS : f 1 = (S : Int)) (g : ∀ o k, CpR N S o k → c1 (b + o) k = c (e + o) k) : StRel f tx c1 b := by
  obtain ⟨⟨a1, a2, a3⟩, a4, a5, ⟨a6, a7, a8⟩, a9, a10, a11, a12, a13⟩ := h
  have g0 : ∀ k, (k = 6 ∨ k = 7) → c1 b k = c e k := fun k hk => g 0 k (Or.inl ⟨rfl, hk⟩)
  have gs : ∀ o k, ((o = 4 ∧ k < 20) ∨ (o = 5 ∧ k < 140) ∨ (o = 6 ∧ k < 3) ∨ (o = 7 ∧ k < 5) ∨ (o = 8 ∧ (k = 1 ∨ k = 2)) ∨ (o = 9 ∧ k < 9)) → c1 (b + o) k = c (e + o) k := fun o k h => g o k (by
    rcases h with h | h | h | h | h | h
    · exact Or.inr (Or.inl h)
    · exact Or.inr (Or.inr (Or.inl h))
    · exact Or.inr (Or.inr (Or.inr (Or.inl h)))
    · exact Or.inr (Or.inr (Or.inr (Or.inr (Or.inl h))))
    · exact Or.inr (Or.inr (Or.inr (Or.inr (Or.inr (Or.inl h)))))
    · exact Or.inr (Or.inr (Or.inr (Or.inr (Or.inr (Or.inr (Or.inl h)))))))
  refine ⟨⟨?_, a2, a3⟩, fun m hm => ?_, a5, ⟨?_, a7, a8⟩, fun j hj => ?_, ?_, ?_, ?_, ?_⟩
  · rw [g0 6 (Or.inl rfl)]; exact a1
  · have gm : ∀ i k, i < 4 → ((i = 0 ∧ (k = 4 ∨ k = 5)) ∨ ((i = 1 ∨ i = 2) ∧ k < 15) ∨ (i = 3 ∧ k < 7)) → c1 (b + 10 + 5 * m + i) k = c (e + 10 + 5 * m + i) k := fun i k hi h => by
      have := g (10 + 5 * m + i) k (Or.inr (Or.inr (Or.inr (Or.inr (Or.inr (Or.inr (Or.inr (Or.inl ⟨by omega, by omega, by omega⟩))))))))
      rw [show b + (10 + 5 * m + i) = b + 10 + 5 * m + i by omega, show e + (10 + 5 * m + i) = e + 10 + 5 * m + i by omega] at this
      exact this
    obtain ⟨⟨h1, h2⟩, h3, h4, h5, h6⟩ := a4 m hm
    refine ⟨⟨?_, ?_⟩, h3, h4, fun x hx hx2 => ?_, fun l hl hl2 => ?_⟩
    · have := gm 0 4 (by omega) (by omega); rw [Nat.add_zero, Nat.add_zero] at this; rw [this]; exact h1
    · have := gm 0 5 (by omega) (by omega); rw [Nat.add_zero, Nat.add_zero] at this; rw [this]; exact h2
    · rw [gm 1 x.toNat (by omega) (by omega), gm 2 x.toNat (by omega) (by omega)]; exact h5 x hx hx2
    · rw [gm 3 l.toNat (by omega) (by omega)]; exact h6 l hl hl2
  · rw [g0 7 (Or.inr rfl)]; exact a6
  · have gm : ∀ i k, i < 2 → ((i = 0 ∧ 1 ≤ k ∧ k < 4) ∨ (i = 1 ∧ k < 49)) → c1 (b + 30 + 2 * j + i) k = c (e + 30 + 2 * j + i) k := fun i k hi h => by
      have := g (30 + 2 * j + i) k (Or.inr (Or.inr (Or.inr (Or.inr (Or.inr (Or.inr (Or.inr (Or.inr ⟨by omega, by omega, by omega⟩))))))))
      rw [show b + (30 + 2 * j + i) = b + 30 + 2 * j + i by omega, show e + (30 + 2 * j + i) = e + 30 + 2 * j + i by omega] at this
      exact this
    obtain ⟨⟨h1, h2, h3⟩, h4, h5, h6, h7, h8⟩ := a9 j hj
    have z1 := gm 0 1 (by omega) (by omega)
    have z2 := gm 0 2 (by omega) (by omega)
    have z3 := gm 0 3 (by omega) (by omega)
    rw [Nat.add_zero, Nat.add_zero] at z1 z2 z3
    refine ⟨⟨z1.trans h1, z2.trans h2, z3.trans h3⟩, h4, h5, h6, h7, fun x y hx hx2 hy hy2 => ?_⟩
    rw [gm 1 (7 * x + y).toNat (by omega) (by omega)]; exact h8 x y hx hx2 hy hy2
  · intro n l hn hn2 hl hl2
    rw [gs 4 n.toNat (by omega), gs 5 (7 * n + l).toNat (by omega)]
    exact a10 n l hn hn2 hl hl2
  · unfold BoxRel at a11 ⊢
    rw [gs 6 0 (by omega), gs 6 1 (by omega), gs 6 2 (by omega)]; exact a11
  · unfold LockRel at a12 ⊢
    rw [gs 7 0 (by omega), gs 7 1 (by omega), gs 7 2 (by omega), gs 7 3 (by omega), gs 7 4 (by omega)]; exact a12
  · obtain ⟨⟨h1, h2⟩, h3, h4, h5⟩ := a13
    refine ⟨⟨(gs 8 1 (by omega)).trans h1, (gs 8 2 (by omega)).trans h2⟩, h3, h4, fun i hi hi2 => ?_⟩
    rw [gs 9 i.toNat (by omega)]; exact h5 i hi hi2
theorem StRel_f {f f' tx : Nat → Int} {c : Nat → Nat → Int} {b : Nat} (h : StRel f tx c b) (e : ∀ k, k < 340 → f' k = f k) : StRel f' tx c b := by
  obtain ⟨⟨a1, a2, a3⟩, a4, a5, ⟨a6, a7, a8⟩, a9, a10, a11, a12, a13⟩ := h
  have e0 := e 0 (by omega)
  have e1 := e 1 (by omega)
  refine ⟨?_, fun m hm => ?_, fun m hm hm2 => ?_, ?_, fun j hj => a9 j (by omega), SeeRel_of a10 (fun k _ _ => e k (by omega)) rfl rfl, BoxRel_of a11 (e 4 (by omega)) (e 5 (by omega)) (by omega) (fun _ _ => e _ (by omega)) (fun k _ _ => e k (by omega)) rfl, LockRel_of a12 (fun k _ _ => e k (by omega)) rfl, RidRel_of a13 (e 2 (by omega)) (e 3 (by omega)) (fun k _ _ => e k (by omega)) rfl rfl⟩
  · rw [e0]; exact ⟨a1, a2, a3⟩
  · exact MapRel_f (a4 m (by omega)) (by omega) (by omega) (fun k hk => e k (by omega))
  · rw [e _ (by omega)]; exact a5 m hm (by omega)
  · rw [e1]; exact ⟨a6, a7, a8⟩
theorem m171_143_2 (d : Nat) {s : List (Nat × Nat)} (hs : SpL s) : ∀ (n j : Nat) (c : Nat → Nat → Int), j + n = 340 → ∃ c1, Rr (Cd d) 171 2 [some (vA 143), some (vA 144), some (vI (j : Int))] [] (s, c) = some ([], (s, c1)) ∧ (∀ o k, ¬ (o = 144 ∧ k < 340) → c1 o k = c o k) ∧ (∀ k, j ≤ k → k < 340 → c1 144 k = c 143 k) ∧ ∀ k, k < j → c1 144 k = c 144 k
  | 0, j, c, h => ⟨c, by rw [c171_2, if_neg (by omega)], fun _ _ _ => rfl, fun k h1 h2 => by omega, fun _ _ => rfl⟩
  | n + 1, j, c, h => by
    obtain ⟨c1, r, f, g, i⟩ := m171_143_2 d hs n (j + 1) (u2 c 144 j (c 143 j)) (by omega)
    refine ⟨c1, ?_, fun o k hk => ?_, fun k h1 h2 => ?_, fun k hk => ?_⟩
    · rw [c171_2, if_pos (show (j : Int) < 340 by omega), aC143 hs c (by omega) (by omega), bnd_s, qC144 hs c _ (by omega) (by omega), bnd_s, w32_id (by omega) (by omega), Int.toNat_natCast]
      exact r
    · rw [f o k hk, u2_n (by omega)]
    · by_cases q : k = j
      · rw [i k (by omega), q, u2_e]
      · rw [g k (by omega) h2, u2_n (by omega)]
    · rw [i k (by omega), u2_n (by omega)]
theorem m171_144_2 (d : Nat) {s : List (Nat × Nat)} (hs : SpL s) : ∀ (n j : Nat) (c : Nat → Nat → Int), j + n = 340 → ∃ c1, Rr (Cd d) 171 2 [some (vA 144), some (vA 143), some (vI (j : Int))] [] (s, c) = some ([], (s, c1)) ∧ (∀ o k, ¬ (o = 143 ∧ k < 340) → c1 o k = c o k) ∧ (∀ k, j ≤ k → k < 340 → c1 143 k = c 144 k) ∧ ∀ k, k < j → c1 143 k = c 143 k
  | 0, j, c, h => ⟨c, by rw [c171_2, if_neg (by omega)], fun _ _ _ => rfl, fun k h1 h2 => by omega, fun _ _ => rfl⟩
  | n + 1, j, c, h => by
    obtain ⟨c1, r, f, g, i⟩ := m171_144_2 d hs n (j + 1) (u2 c 143 j (c 144 j)) (by omega)
    refine ⟨c1, ?_, fun o k hk => ?_, fun k h1 h2 => ?_, fun k hk => ?_⟩
    · rw [c171_2, if_pos (show (j : Int) < 340 by omega), aC144 hs c (by omega) (by omega), bnd_s, qC143 hs c _ (by omega) (by omega), bnd_s, w32_id (by omega) (by omega), Int.toNat_natCast]
      exact r
    · rw [f o k hk, u2_n (by omega)]
    · by_cases q : k = j
      · rw [i k (by omega), q, u2_e]
      · rw [g k (by omega) h2, u2_n (by omega)]
    · rw [i k (by omega), u2_n (by omega)]
theorem op_image : Op 147 279 [] := by
  intro s c n hI
  have hs := hI.1.l
  have hc := hI.2.2.2.1
  have hm := hI.2.2.1
  obtain ⟨i1, i2, i3, i4, i5, i6, i7, i8, i9, i10⟩ := id hI
  obtain ⟨⟨a1, a2, a3⟩, -, -, ⟨a6, a7, a8⟩, a9, -⟩ := id i5
  have eN : c 143 0 = (((c 143 0).toNat : Nat) : Int) := by omega
  have eS : c 143 1 = (((c 143 1).toNat : Nat) : Int) := by omega
  obtain ⟨c1, r, f, g, z⟩ := k115 996 (b := 76) (e := 30) (by omega) (show (c 143 0).toNat ≤ 4 by omega) (show (c 143 1).toNat ≤ 8 by omega) (SB_76 hs hc) (SB_30 hs hc) (a1.trans eN) (a6.trans eS) (fun j hj => by
    have q := a9 j (by omega)
    rw [q.1.2.2]; exact q.2.2.1)
  have r : Cd 998 115 [vA 76, vA 30] (s, c) = some ([], (s, c1)) := r
  have fo : ∀ o k, (o < 76 ∨ 122 ≤ o) → c1 o k = c o k := fun o k h => f o k (CpW_n h)
  have hm1 : MS c1 := MS_of hm (fun q _ => fo _ _ (by omega)) (funext fun k => fo _ _ (by omega)) (funext fun k => fo _ _ (by omega))
  have e7 : c1 30 7 = c 143 1 := by
    rw [fo _ _ (by omega)]; exact a6
  have r1 : Cd 999 147 [vA 29] (s, c) = some ([vI (c 143 1)], (s, c1)) := by
    rw [c147 (hg := gC29 hs c)]
    repeat (first | rw [bnd_s] | rw [tI_m] | rw [tL_m] | rw [tA_m] | rw [tV_m] | rw [fC29 hs _ (by decide)] | rw [pC29 hs _ _ (by decide)] | rw [fC30 hs _ (by decide)] | rw [pC30 hs _ _ (by decide)] | rw [fo 29 _ (by omega)] | rw [CS_29_0 hc] | rw [CS_29_1 hc] | rw [r] | rw [e7])
  obtain ⟨c2, r', f2, g2, -⟩ := m171_143_2 997 hs 340 0 c1 (by omega)
  have r2 : Cd 999 279 [vA 142] (s, c1) = some ([vI (c 143 1)], (s, c2)) := by
    have e1 : c2 143 1 = c 143 1 := by rw [f2 _ _ (by omega)]; exact fo _ _ (by omega)
    have m0 : c2 142 0 = 143 := by rw [f2 _ _ (by omega)]; exact MS_0 hm1
    have r3 : Cd 998 171 [vA 143, vA 144] (s, c1) = some ([], (s, c2)) := (c171 997 _ _ _).trans r'
    rw [c279 (hg := gC142 hs c1)]
    repeat (first | rw [bnd_s] | rw [tI_m] | rw [tL_m] | rw [tA_m] | rw [tV_m] | rw [fC142 hs _ (by decide)] | rw [pC142 hs _ _ (by decide)] | rw [MS_0 hm1] | rw [MS_1 hm1] | rw [r3] | rw [m0] | rw [aC143 hs _ (by decide) (by decide)] | rw [show (1 : Int).toNat = 1 from rfl] | rw [e1])
  refine ⟨_, s, s, c1, c2, n, r1, r2, by omega, ?_⟩
  have fa : ∀ o k, (o < 76 ∨ 122 ≤ o) → o ≠ 144 → c2 o k = c o k := fun o k h h2 => (f2 o k (by omega)).trans (fo o k h)
  have f1 : ∀ o k, o ≠ 144 → c2 o k = c1 o k := fun o k h => f2 o k (by omega)
  have ex : c2 143 = c 143 := funext fun k => fa _ _ (by omega) (by omega)
  have et : c2 145 = c 145 := funext fun k => fa _ _ (by omega) (by omega)
  have ey : ∀ k, k < 340 → c2 144 k = c 143 k := fun k hk => (g2 k (by omega) hk).trans (fo _ _ (by omega))
  have SX : StRel (c2 144) (c2 145) c2 76 := by
    rw [et]
    exact StRel_f (StRel_of (StRel_c i5 eN eS g) (fun o k _ _ _ _ _ _ _ => f1 o k (by omega))) ey
  have SY : StRel (c2 143) (c2 145) c2 30 := by
    rw [et, ex]
    exact StRel_of i5 (fun o k _ _ _ _ _ _ _ => fa o k (by omega) (by omega))
  refine ⟨i1, Xt_of i2 (fun o k ho => fa _ _ (by omega) (by omega)), MS_of i3 (fun q _ => fa _ _ (by omega) (by omega)) (funext fun k => fa _ _ (by omega) (by omega)) (funext fun k => fa _ _ (by omega) (by omega)), CS_w i4 isRfW_76 (by omega) (fun o k ho hk => (f1 o k (by omega)).trans (f o k hk)), SY, SX, ?_, RefI_of i8 (fun m hm => ⟨?_, ?_⟩), AnsI_of i9 ex (fun o k _ _ => fa _ _ (by omega) (by omega)) (fun o _ => funext fun k => fa _ _ (by omega) (by omega)), ?_⟩
  · rw [ey 1 (by omega), show c2 143 1 = c 143 1 from congrFun ex 1]; exact Int.le_refl _
  · exact fa _ _ (by omega) (by omega)
  · exact fa _ _ (by omega) (by omega)
  · unfold TapeRel at i10 ⊢
    rw [show c2 142 = c 142 from funext fun k => fa _ _ (by omega) (by omega), show c2 150 = c 150 from funext fun k => fa _ _ (by omega) (by omega), show c2 122 = c 122 from funext fun k => fa _ _ (by omega) (by omega), show c2 123 = c 123 from funext fun k => fa _ _ (by omega) (by omega)]
    exact i10
theorem op_back : Op 148 280 [] := by
  intro s c n hI
  have hs := hI.1.l
  have hc := hI.2.2.2.1
  have hm := hI.2.2.1
  obtain ⟨i1, i2, i3, i4, i5, i6, i7, i8, i9, i10⟩ := id hI
  obtain ⟨⟨a1, a2, a3⟩, -, -, ⟨a6, a7, a8⟩, a9, -⟩ := id i6
  have eN : c 144 0 = (((c 144 0).toNat : Nat) : Int) := by omega
  have eS : c 144 1 = (((c 144 1).toNat : Nat) : Int) := by omega
  obtain ⟨c1, r, f, g, z⟩ := k115 996 (b := 30) (e := 76) (by omega) (show (c 144 0).toNat ≤ 4 by omega) (show (c 144 1).toNat ≤ 8 by omega) (SB_30 hs hc) (SB_76 hs hc) (a1.trans eN) (a6.trans eS) (fun j hj => by
    have q := a9 j (by omega)
    rw [q.1.2.2]; exact q.2.2.1)
  have r : Cd 998 115 [vA 30, vA 76] (s, c) = some ([], (s, c1)) := r
  have fo : ∀ o k, (o < 30 ∨ 76 ≤ o) → c1 o k = c o k := fun o k h => f o k (CpW_n h)
  have hm1 : MS c1 := MS_of hm (fun q _ => fo _ _ (by omega)) (funext fun k => fo _ _ (by omega)) (funext fun k => fo _ _ (by omega))
  have e7 : c1 30 7 = c 144 1 := by
    rw [show c1 30 7 = c 76 7 from g 0 7 (Or.inl ⟨rfl, Or.inr rfl⟩)]; exact a6
  have r1 : Cd 999 148 [vA 29] (s, c) = some ([vI (c 144 1)], (s, c1)) := by
    rw [c148 (hg := gC29 hs c)]
    repeat (first | rw [bnd_s] | rw [tI_m] | rw [tL_m] | rw [tA_m] | rw [tV_m] | rw [fC29 hs _ (by decide)] | rw [pC29 hs _ _ (by decide)] | rw [fC30 hs _ (by decide)] | rw [pC30 hs _ _ (by decide)] | rw [fo 29 _ (by omega)] | rw [CS_29_0 hc] | rw [CS_29_1 hc] | rw [r] | rw [e7])
  obtain ⟨c2, r', f2, g2, -⟩ := m171_144_2 997 hs 340 0 c1 (by omega)
  have r2 : Cd 999 280 [vA 142] (s, c1) = some ([vI (c 144 1)], (s, c2)) := by
    have e1 : c2 143 1 = c 144 1 := by rw [g2 1 (by omega) (by omega)]; exact fo _ _ (by omega)
    have m0 : c2 142 0 = 143 := by rw [f2 _ _ (by omega)]; exact MS_0 hm1
    have r3 : Cd 998 171 [vA 144, vA 143] (s, c1) = some ([], (s, c2)) := (c171 997 _ _ _).trans r'
    rw [c280 (hg := gC142 hs c1)]
    repeat (first | rw [bnd_s] | rw [tI_m] | rw [tL_m] | rw [tA_m] | rw [tV_m] | rw [fC142 hs _ (by decide)] | rw [pC142 hs _ _ (by decide)] | rw [MS_0 hm1] | rw [MS_1 hm1] | rw [r3] | rw [m0] | rw [aC143 hs _ (by decide) (by decide)] | rw [show (1 : Int).toNat = 1 from rfl] | rw [e1])
  refine ⟨_, s, s, c1, c2, n, r1, r2, by omega, ?_⟩
  have fa : ∀ o k, (o < 30 ∨ 76 ≤ o) → o ≠ 143 → c2 o k = c o k := fun o k h h2 => (f2 o k (by omega)).trans (fo o k h)
  have f1 : ∀ o k, o ≠ 143 → c2 o k = c1 o k := fun o k h => f2 o k (by omega)
  have ex : c2 144 = c 144 := funext fun k => fa _ _ (by omega) (by omega)
  have et : c2 145 = c 145 := funext fun k => fa _ _ (by omega) (by omega)
  have ey : ∀ k, k < 340 → c2 143 k = c 144 k := fun k hk => (g2 k (by omega) hk).trans (fo _ _ (by omega))
  have SX : StRel (c2 143) (c2 145) c2 30 := by
    rw [et]
    exact StRel_f (StRel_of (StRel_c i6 eN eS g) (fun o k _ _ _ _ _ _ _ => f1 o k (by omega))) ey
  have SY : StRel (c2 144) (c2 145) c2 76 := by
    rw [et, ex]
    exact StRel_of i6 (fun o k _ _ _ _ _ _ _ => fa o k (by omega) (by omega))
  refine ⟨i1, Xt_of i2 (fun o k ho => fa _ _ (by omega) (by omega)), MS_of i3 (fun q _ => fa _ _ (by omega) (by omega)) (funext fun k => fa _ _ (by omega) (by omega)) (funext fun k => fa _ _ (by omega) (by omega)), CS_w i4 isRfW_30 (by omega) (fun o k ho hk => (f1 o k (by omega)).trans (f o k hk)), SX, SY, ?_, RefI_of i8 (fun m hm => ⟨?_, ?_⟩), fun m hm hm2 => Or.inl ?_, ?_⟩
  · rw [ey 1 (by omega), show c2 144 1 = c 144 1 from congrFun ex 1]; exact Int.le_refl _
  · rw [f1 _ _ (by omega)]; exact f _ _ (CpW_m (b := 30) hm (Or.inl rfl))
  · rw [f1 _ _ (by omega)]; exact f _ _ (CpW_m (b := 30) hm (Or.inr rfl))
  · rw [f1 _ _ (by omega)]
    rw [ey 0 (by omega)] at hm2
    exact z m (by omega)
  · unfold TapeRel at i10 ⊢
    rw [show c2 142 = c 142 from funext fun k => fa _ _ (by omega) (by omega), show c2 150 = c 150 from funext fun k => fa _ _ (by omega) (by omega), show c2 122 = c 122 from funext fun k => fa _ _ (by omega) (by omega), show c2 123 = c 123 from funext fun k => fa _ _ (by omega) (by omega)]
    exact i10
