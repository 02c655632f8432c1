/-! what stays, stays sound -/
theorem StRel_of {f tx : Nat → Int} {c c' : Nat → Nat → Int} {b : Nat} (h : StRel f tx c b) (H : ∀ o k, b ≤ o → o < b + 46 → (o = b + 10 ∨ o = b + 15 ∨ o = b + 20 ∨ o = b + 25 → k < 6) → o ≠ b + 14 → o ≠ b + 19 → o ≠ b + 24 → o ≠ b + 29 → c' o k = c o k) : StRel f tx c' b := by
  obtain ⟨⟨a1, a2, a3⟩, a4, a5, ⟨a6, a7, a8⟩, a9, a10, a11, a12, a13⟩ := h
  have e4 : c' (b + 4) = c (b + 4) := funext fun k => H _ k (by omega) (by omega) (by omega) (by omega) (by omega) (by omega) (by omega)
  have e5 : c' (b + 5) = c (b + 5) := funext fun k => H _ k (by omega) (by omega) (by omega) (by omega) (by omega) (by omega) (by omega)
  have e6 : c' (b + 6) = c (b + 6) := funext fun k => H _ k (by omega) (by omega) (by omega) (by omega) (by omega) (by omega) (by omega)
  have e7 : c' (b + 7) = c (b + 7) := funext fun k => H _ k (by omega) (by omega) (by omega) (by omega) (by omega) (by omega) (by omega)
  have e8 : c' (b + 8) = c (b + 8) := funext fun k => H _ k (by omega) (by omega) (by omega) (by omega) (by omega) (by omega) (by omega)
  have e9 : c' (b + 9) = c (b + 9) := funext fun k => H _ k (by omega) (by omega) (by omega) (by omega) (by omega) (by omega) (by omega)
  have e0 : c' b = c b := funext fun k => H _ k (by omega) (by omega) (by omega) (by omega) (by omega) (by omega) (by omega)
  refine ⟨⟨by rw [e0]; exact a1, a2, a3⟩, fun m hm => MapRel_of (a4 m hm) ⟨H _ _ (by omega) (by omega) (by omega) (by omega) (by omega) (by omega) (by omega), H _ _ (by omega) (by omega) (by omega) (by omega) (by omega) (by omega) (by omega)⟩ (funext fun k => H _ _ (by omega) (by omega) (by omega) (by omega) (by omega) (by omega) (by omega)) (funext fun k => H _ _ (by omega) (by omega) (by omega) (by omega) (by omega) (by omega) (by omega)) (funext fun k => H _ _ (by omega) (by omega) (by omega) (by omega) (by omega) (by omega) (by omega)), a5, ⟨by rw [e0]; exact a6, a7, a8⟩, fun k hk => ?_, ?_, ?_, ?_, ?_⟩
  · have g1 : c' (b + 30 + 2 * k) = c (b + 30 + 2 * k) := funext fun j => H _ j (by omega) (by omega) (by omega) (by omega) (by omega) (by omega) (by omega)
    have g2 : c' (b + 30 + 2 * k + 1) = c (b + 30 + 2 * k + 1) := funext fun j => H _ j (by omega) (by omega) (by omega) (by omega) (by omega) (by omega) (by omega)
    have := a9 k hk
    unfold ShRel at this ⊢
    rw [g1, g2]; exact this
  · unfold SeeRel at a10 ⊢; rw [e4, e5]; exact a10
  · unfold BoxRel at a11 ⊢; rw [e6]; exact a11
  · unfold LockRel at a12 ⊢; rw [e7]; exact a12
  · unfold RidRel at a13 ⊢; rw [e8, e9]; exact a13
theorem cScr_n {o k : Nat} (h : ¬ ((o = 131 ∧ 5 ≤ k) ∨ (132 ≤ o ∧ o ≤ 136) ∨ ((o = 40 ∨ o = 45 ∨ o = 50 ∨ o = 55) ∧ 6 ≤ k) ∨ o = 44 ∨ o = 49 ∨ o = 54 ∨ o = 59 ∨ ((o = 138 ∨ o = 140) ∧ k = 1) ∨ o = 139 ∨ o = 141 ∨ 159 ≤ o ∨ (124 ≤ o ∧ o ≤ 126) ∨ (o = 127 ∧ 3 ≤ k) ∨ (128 ≤ o ∧ o ≤ 130) ∨ (o = 122 ∧ 8 ≤ k))) : cScr o k = false := by
  unfold cScr
  simp only [Bool.or_eq_false_iff, Bool.and_eq_false_iff, beq_eq_false_iff_ne, decide_eq_false_iff_not, ne_eq]
  omega
/-- the class has answered a question -/
theorem Inv_C {s s' : List (Nat × Nat)} {c c' : Nat → Nat → Int} {n n' : Nat} (h : Inv s c n) (hf : FrC c c') (hs : SpN s' n') (hR : RefI c' n') (hA : AnsI s' c') : Inv s' c' n' := by
  obtain ⟨i1, i2, i3, i4, i5, i6, i7, i8, i9, i10⟩ := h
  have e : ∀ o, 142 ≤ o → o < 159 → c' o = c o := fun o h1 h2 => funext fun k => hf o k (cScr_n (by omega))
  have e23 : c' 123 = c 123 := funext fun k => hf _ k (cScr_n (by omega))
  refine ⟨hs, ?_, MS_of i3 (fun q _ => by rw [e 142 (by decide) (by decide)]) (e 146 (by decide) (by decide)) (e 147 (by decide) (by decide)), hf.cs i4, ?_, ?_, ?_, hR, hA, ?_⟩
  · obtain ⟨xs, i2⟩ := i2
    exact ⟨xs, fun i k hi => (hf i k (cScr_n (by omega))).trans (i2 i k hi)⟩
  · rw [e 143 (by decide) (by decide), e 145 (by decide) (by decide)]
    exact StRel_of i5 (fun o k h1 h2 h3 h4 h5 h6 h7 => hf o k (cScr_n (by omega)))
  · rw [e 144 (by decide) (by decide), e 145 (by decide) (by decide)]
    exact StRel_of i6 (fun o k h1 h2 h3 h4 h5 h6 h7 => hf o k (cScr_n (by omega)))
  · rw [e 143 (by decide) (by decide), e 144 (by decide) (by decide)]; exact i7
  · unfold TapeRel at i10 ⊢
    rw [e 142 (by decide) (by decide), e 150 (by decide) (by decide), e23, hf 122 5 (cScr_n (by omega)), hf 122 6 (cScr_n (by omega)), hf 122 7 (cScr_n (by omega))]
    exact i10
def mScr (L F : List Nat) : Bool := (L.all fun o => [148, 149, 151, 152, 153, 154, 155, 156, 157, 158].contains o) && (F.all fun k => !(mRefs.any fun q => q.1 == k) && !(k == 9) && !(k == 10) && !(k == 11))
theorem AnsI_of {s : List (Nat × Nat)} {c c' : Nat → Nat → Int} (h : AnsI s c) (e1 : c' 143 = c 143) (e2 : ∀ o k, 40 ≤ o → o < 60 → c' o k = c o k) (e3 : ∀ o, 159 ≤ o → c' o = c o) : AnsI s c' := by
  intro m hm hmc
  rw [e1] at hmc ⊢
  rw [ansL_of e1, e2 _ _ (by omega) (by omega)]
  rcases h m hm hmc with g | g
  · exact Or.inl g
  · exact Or.inr (AnsC_of g ⟨[], by simp⟩ (fun k => e2 _ _ (by omega) (by omega)) (fun r hr _ => ⟨e3 _ (by omega), e3 _ (by omega)⟩))
theorem RefI_of {c c' : Nat → Nat → Int} {n : Nat} (h : RefI c n) (e : ∀ m : Nat, m < 4 → c' (40 + 5 * m) 6 = c (40 + 5 * m) 6 ∧ c' (40 + 5 * m) 7 = c (40 + 5 * m) 7) : RefI c' n := by
  refine ⟨fun m hm => ?_, fun a b ha hb => ?_⟩
  · rw [(e m hm).1, (e m hm).2]; exact h.1 m hm
  · rw [(e a ha).1, (e b hb).1]; exact h.2 a b ha hb
/-- the reference has answered a question -/
theorem Inv_M {s : List (Nat × Nat)} {c c' : Nat → Nat → Int} {n : Nat} {L F : List Nat} (h : Inv s c n) (hf : Fm L F c c') (hk : mScr L F = true) : Inv s c' n := by
  obtain ⟨i1, i2, i3, i4, i5, i6, i7, i8, i9, i10⟩ := h
  simp only [mScr, Bool.and_eq_true] at hk
  have hL : ∀ o, o ∈ L → o = 148 ∨ o = 149 ∨ (151 ≤ o ∧ o ≤ 158) := fun o ho => by
    have := List.all_eq_true.mp hk.1 o ho
    simp at this; omega
  have hF : ∀ k, k ∈ F → (∀ q ∈ mRefs, q.1 ≠ k) ∧ k ≠ 9 ∧ k ≠ 10 ∧ k ≠ 11 := fun k hk2 => by
    have := List.all_eq_true.mp hk.2 k hk2
    simp only [Bool.and_eq_true, Bool.not_eq_true', List.any_eq_false, beq_iff_eq, beq_eq_false_iff_ne, ne_eq] at this
    exact ⟨fun q hq => this.1.1.1 q hq, this.1.1.2, this.1.2, this.2⟩
  have e : ∀ o, o < 142 ∨ (143 ≤ o ∧ o ≤ 147) ∨ o = 150 ∨ 159 ≤ o → c' o = c o := fun o ho => hf.1 o (fun g => by have := hL o g; omega) (by omega)
  have ek : ∀ k, k = 9 ∨ k = 10 ∨ k = 11 → c' 142 k = c 142 k := fun k hk => hf.2 k (fun g => by have := hF k g; omega)
  refine ⟨i1, ?_, MS_of i3 (fun q hq => hf.2 _ (fun g => (hF _ g).1 q hq rfl)) (e 146 (by omega)) (e 147 (by omega)), ?_, ?_, ?_, ?_, ?_, ?_, ?_⟩
  · obtain ⟨xs, i2⟩ := i2
    exact ⟨xs, fun i k hi => by rw [e i (by omega)]; exact i2 i k hi⟩
  · exact ⟨fun q hq => by
      have hq1 : q.1 < 142 := by
        have : (cRefs.all fun q => decide (q.1 < 142)) = true := by decide +kernel
        have := List.all_eq_true.mp this q hq
        simpa using this
      rw [e q.1 (by omega)]; exact i4.1 q hq, fun k hk => by rw [e 137 (by omega)]; exact i4.2 k hk⟩
  · rw [e 143 (by omega), e 145 (by omega)]
    exact StRel_of i5 (fun o k h1 h2 _ _ _ _ _ => by rw [e o (by omega)])
  · rw [e 144 (by omega), e 145 (by omega)]
    exact StRel_of i6 (fun o k h1 h2 _ _ _ _ _ => by rw [e o (by omega)])
  · rw [e 143 (by omega), e 144 (by omega)]; exact i7
  · exact RefI_of i8 (fun m hm => by rw [e _ (by omega)]; exact ⟨rfl, rfl⟩)
  · exact AnsI_of i9 (e 143 (by omega)) (fun o k h1 h2 => by rw [e o (by omega)]) (fun o ho => e o (by omega))
  · unfold TapeRel at i10 ⊢
    rw [e 122 (by omega), e 123 (by omega), e 150 (by omega), ek 9 (by omega), ek 10 (by omega), ek 11 (by omega)]
    exact i10
/-- a call of the law: class and reference answer alike, and all holds again -/
def Op (zc zm : Nat) (av : List AV) : Prop := ∀ (s : List (Nat × Nat)) (c : Nat → Nat → Int) (n : Nat), Inv s c n → ∃ (r : AV) (s1 s2 : List (Nat × Nat)) (c1 c2 : Nat → Nat → Int) (n2 : Nat), Cd 999 zc (vA 29 :: av) (s, c) = some ([r], (s1, c1)) ∧ Cd 999 zm (vA 142 :: av) (s1, c1) = some ([r], (s2, c2)) ∧ n2 ≤ n + 2 ∧ Inv s2 c2 n2
theorem Inv.nM {s : List (Nat × Nat)} {c : Nat → Nat → Int} {n : Nat} (h : Inv s c n) : nM c := h.2.2.2.2.1.1.2
theorem Inv.map {s : List (Nat × Nat)} {c : Nat → Nat → Int} {n : Nat} (h : Inv s c n) {m : Nat} (hm : (m : Int) < c 143 0) : MapRel (c 143) c (40 + 5 * m) m := h.2.2.2.2.1.2.1 m hm
theorem Inv.mok {s : List (Nat × Nat)} {c : Nat → Nat → Int} {n : Nat} (h : Inv s c n) : ∀ m, 0 ≤ m → m < c 143 0 → MapOK c m := fun m h0 h1 => by
  have := h.map (m := m.toNat) (by omega)
  rw [Int.toNat_of_nonneg h0] at this
  exact this.ok h0 (by have := h.nM.2; omega)
theorem FrA.frC {m : Nat} (hm : m < 4) {c c' : Nat → Nat → Int} (h : FrA (40 + 5 * m) c c') : FrC c c' := by
  intro o k g
  by_cases ho : o < 159
  · refine h o k ho (fun q => ?_)
    have : cScr o k = true := by
      obtain ⟨rfl, hk⟩ := q
      unfold cScr
      rcases n4 hm with rfl | rfl | rfl | rfl <;> simp <;> omega
    rw [this] at g; cases g
  · have : cScr o k = true := by unfold cScr; simp; omega
    rw [this] at g; cases g
theorem k113 (d : Nat) {s : List (Nat × Nat)} {c : Nat → Nat → Int} (hs : SpL s) (hc : CS c) (h6 : c 30 6 = c 143 0) (hn : nM c) (m : Int) : Cd (d + 1) 113 [vA 30, vI m] (s, c) = some ([vA (if 0 ≤ m ∧ m < c 143 0 then ((40 + 5 * m.toNat : Nat) : Int) else -1)], (s, c)) := by
  have n2 := hn.2
  rw [c113 (hg := gC30 hs c)]
  by_cases h : m < 0
  · rw [if_pos h, c113_11, c113_12, if_neg (by decide), if_neg (by omega)]
  · rw [if_neg h, fC30 hs _ (by decide), bnd_s, h6]
    by_cases h2 : m < c 143 0
    · rw [if_pos h2, fC30 hs _ (by decide), bnd_s, CS_30_0 hc, rC31 hs _ (by omega) (by omega), bnd_s, CS_31 hc (by omega), c113_12, if_neg (by omega), if_pos (by omega)]
    · rw [if_neg h2, c113_11, c113_12, if_neg (by decide), if_neg (by omega)]
theorem k119 (d : Nat) {s : List (Nat × Nat)} {c : Nat → Nat → Int} {n : Nat} (hI : Inv s c n) (m i : Int) : ∃ s' c' n', Cd (d + 4) 119 [vA 29, vI m, vI i] (s, c) = some ([vI (if 0 ≤ m ∧ m < c 143 0 then ansR (ansL c m) i else -1)], (s', c')) ∧ n' ≤ n + 1 ∧ Inv s' c' n' ∧ c' 143 = c 143 := by
  have hs := hI.1.l
  have hc := hI.2.2.2.1
  have hn := hI.nM
  have n2 := hn.2
  rw [c119 (hg := gC29 hs c), fC29 hs _ (by decide), bnd_s, CS_29_0 hc, k113 _ hs hc hI.2.2.2.2.1.1.1 hn, bnd_s, tA_m, bnd_s]
  by_cases h : 0 ≤ m ∧ m < c 143 0
  · rw [if_pos h, if_pos h, if_neg (by omega), if_neg (by omega)]
    obtain ⟨s', c', n', g1, g2, g3, g4, g5, g6, g7, g8⟩ := k13 d hI.1 (m := m.toNat) (by omega) (by omega) (chN hs hc (by omega)) (hI.map (by omega)) hI.2.2.2.2.2.2.2.1 hI.2.2.2.2.2.2.2.2.1
    rw [Int.toNat_of_nonneg h.1] at g8
    have hfr := g5.frC (by omega)
    have hI' := Inv_C hI hfr g2 g6 g7
    have hch : CH s' c' (40 + 5 * m.toNat) := chN g2.l hI'.2.2.2.1 (by omega)
    have hl := ansL_len (hI.mok m h.1 h.2)
    refine ⟨s', c', n', ?_, g3, hI', funext fun k => hfr 143 k (cScr_n (by omega))⟩
    rw [g1, bnd_s, tV_m, bnd_s]
    by_cases hi : i = -1
    · rw [if_pos hi, gF_g hch.1.1 _ (by decide), bnd_s, c119_20, g8.2.1, ansR, if_pos hi]
    · rw [if_neg hi, k14 _ hch g8 (by omega), bnd_s, tI_m, bnd_s, c119_20, ansR, if_neg hi]
  · rw [if_neg h, if_neg h, if_neg (show ¬ (-1 : Int) = 0 by decide), if_pos (show (-1 : Int) < 0 by decide)]
    exact ⟨s, c, n, rfl, by omega, hI, rfl⟩
theorem op_answer (m i : Int) : Op 119 184 [vI m, vI i] := by
  intro s c n hI
  obtain ⟨s1, c1, n1, g1, g2, g3, g4⟩ := k119 995 hI m i
  obtain ⟨c2, g5, g6⟩ := m184 995 g3.1.l g3.2.2.1 g3.nM g3.mok m i
  rw [g4, ansL_of g4] at g5
  exact ⟨_, s1, s1, c1, c2, n1, g1, g5, by omega, Inv_M g3 g6 (by decide)⟩
