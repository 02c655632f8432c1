/-! a showing: what is held behind it -/
theorem codeOf_e {tx tx' : Nat → Int} {k : Nat} (h4 : 0 ≤ tx (800 * k + 4) ∧ tx (800 * k + 4) ≤ 300) (e : ∀ j, 800 * k ≤ j → j < 800 * k + 800 → tx' j = tx j) : codeOf tx' k = codeOf tx k := by
  unfold codeOf
  rw [e (800 * k + 4) (by omega) (by omega)]
  apply List.map_congr_left
  intro i hi
  have hi := List.mem_range.mp hi
  rw [e _ (by omega) (by omega), e _ (by omega) (by omega)]
theorem ShRel_tx {tx tx' : Nat → Int} {c : Nat → Nat → Int} {q k : Nat} (h : ShRel tx c q k) (e : ∀ j, 800 * k ≤ j → j < 800 * k + 800 → tx' j = tx j) : ShRel tx' c q k := by
  obtain ⟨h1, h2, h3, h4, ⟨h5, h6, h7⟩, h8⟩ := h
  have ec := codeOf_e h6 e
  have e0 := e (800 * k) (by omega) (by omega)
  have e1 := e (800 * k + 1) (by omega) (by omega)
  have e2 := e (800 * k + 2) (by omega) (by omega)
  have e3 := e (800 * k + 3) (by omega) (by omega)
  have e4 := e (800 * k + 4) (by omega) (by omega)
  refine ⟨by rw [e1, e2, e3]; exact h1, by rw [e1]; exact h2, by rw [e2]; exact h3, by rw [e3]; exact h4, ⟨by rw [e0]; exact h5, by rw [e4]; exact h6, by rw [e0, ec]; exact h7⟩, fun x y a1 a2 a3 a4 => ⟨(h8 x y a1 a2 a3 a4).1, fun a b b1 b2 b3 b4 => ?_⟩⟩
  rw [(h8 x y a1 a2 a3 a4).2 a b b1 b2 b3 b4]
  unfold jud
  rw [e0, ec]
theorem codeOf_X {tx : Nat → Int} {k : Nat} {X : List (Int × Int)} (h4 : tx (800 * k + 4) = (X.length : Int)) (h : ∀ (j : Nat) (q : Int × Int), X[j]? = some q → tx (800 * k + 10 + 2 * j) = q.1 ∧ tx (800 * k + 11 + 2 * j) = q.2) : codeOf tx k = X := by
  unfold codeOf
  rw [h4, Int.toNat_natCast]
  apply List.ext_getElem?
  intro j
  by_cases g : j < X.length
  · have hq : X[j]? = some X[j] := List.getElem?_eq_getElem g
    have := h j X[j] hq
    rw [List.getElem?_map, List.getElem?_range g, hq, Option.map_some, this.1, this.2]
  · rw [List.getElem?_eq_none (by simp; omega), List.getElem?_eq_none (by omega)]
/-- f but for its place 1 -/
theorem SeeRel_f {f f' : Nat → Int} {c : Nat → Nat → Int} {b : Nat} (hf : ∀ j, j ≠ 1 → f' j = f j) (h : SeeRel f c b) : SeeRel f' c b := fun n l a1 a2 a3 a4 => by
  have := h n l a1 a2 a3 a4
  rw [hf _ (by omega)]; exact this
theorem BoxRel_f {f f' : Nat → Int} {c : Nat → Nat → Int} {b : Nat} (hf : ∀ j, j ≠ 1 → f' j = f j) (h : BoxRel f c b) : BoxRel f' c b := by
  rcases h with ⟨h1, h2⟩ | ⟨h1, h2, h3, h4, h5, h6⟩
  · exact Or.inl ⟨(hf 4 (by omega)).trans h1, h2⟩
  · refine Or.inr ⟨(hf 4 (by omega)).trans h1, ?_, ?_, h4, h5, fun l a1 a2 => ?_⟩
    · rw [hf 5 (by omega), hf 0 (by omega)]; exact h2
    · rw [hf 5 (by omega)]; exact h3
    · have := h6 l a1 a2
      rw [hf 5 (by omega), hf (310 + l).toNat (by omega), hf (300 + l).toNat (by omega), hf (20 + f 5).toNat (by omega)]
      exact this
theorem LockRel_f {f f' : Nat → Int} {c : Nat → Nat → Int} {b : Nat} (hf : ∀ j, j ≠ 1 → f' j = f j) (h : LockRel f c b) : LockRel f' c b := by
  unfold LockRel at *
  rw [hf 10 (by omega), hf 11 (by omega), hf 12 (by omega), hf 13 (by omega), hf 14 (by omega)]; exact h
theorem RidRel_f {f f' : Nat → Int} {c : Nat → Nat → Int} {b : Nat} (hf : ∀ j, j ≠ 1 → f' j = f j) (h : RidRel f c b) : RidRel f' c b := by
  obtain ⟨h1, h2, h3, h4⟩ := h
  refine ⟨by rw [hf 3 (by omega), hf 2 (by omega)]; exact h1, by rw [hf 3 (by omega)]; exact h2, by rw [hf 2 (by omega)]; exact h3, fun i a1 a2 => ?_⟩
  rw [hf 2 (by omega)] at a2
  rw [hf (320 + i).toNat (by omega), hf 3 (by omega)]
  exact h4 i a1 a2
/-- where a showing may write -/
def ExS (k o j : Nat) : Prop := (o = 30 ∧ j = 7) ∨ (o = 60 + 2 * k ∧ 1 ≤ j ∧ j ≤ 3) ∨ o = 61 + 2 * k ∨ (o = 122 ∧ 5 ≤ j) ∨ (124 ≤ o ∧ o ≤ 126) ∨ (o = 127 ∧ 3 ≤ j) ∨ (128 ≤ o ∧ o ≤ 130) ∨ (o = 142 ∧ 9 ≤ j ∧ j ≤ 24 ∧ j ≠ 21) ∨ (o = 143 ∧ j = 1) ∨ (o = 145 ∧ 800 * k ≤ j) ∨ o = 151
theorem cRefs_s : (cRefs.all fun q => decide (¬ (q.1 = 30 ∧ q.2.1 = 7) ∧ ¬ (60 ≤ q.1 ∧ q.1 ≤ 75 ∧ 1 ≤ q.2.1) ∧ ¬ (60 ≤ q.1 ∧ q.1 ≤ 75 ∧ q.1 % 2 = 1) ∧ ¬ (q.1 = 122 ∧ 5 ≤ q.2.1) ∧ ¬ (124 ≤ q.1 ∧ q.1 ≤ 126) ∧ ¬ (q.1 = 127 ∧ 3 ≤ q.2.1) ∧ ¬ (128 ≤ q.1 ∧ q.1 ≤ 130) ∧ q.1 < 141)) = true := by decide +kernel
theorem mRefs_s : (mRefs.all fun q => decide (q.1 < 9 ∨ q.1 = 21 ∨ 24 < q.1)) = true := by decide
theorem Inv_shw {s : List (Nat × Nat)} {c c' : Nat → Nat → Int} {n k : Nat} (hI : Inv s c n) (hk : c 143 1 = (k : Int)) (hk8 : k < 8) (e : ∀ o j, ¬ ExS k o j → c' o j = c o j) (hcnt : (c' 143 1 = (k : Int) ∧ c' 30 7 = c 30 7) ∨ (c' 143 1 = (k : Int) + 1 ∧ c' 30 7 = (k : Int) + 1 ∧ ShRel (c' 145) c' (60 + 2 * k) k)) (hT : TapeRel c') : Inv s c' n := by
  have hmok := hI.mok
  have hn := hI.nM
  have n2 := hn.2
  obtain ⟨i1, i2, i3, i4, i5, i6, i7, i8, i9, i10⟩ := hI
  obtain ⟨a1, a4, a5, a6, a9, g1, g2, g3, g4⟩ := i5
  have e' : ∀ o j, ¬ ((o = 30 ∧ j = 7) ∨ (o = 60 + 2 * k ∧ 1 ≤ j ∧ j ≤ 3) ∨ o = 61 + 2 * k ∨ (o = 122 ∧ 5 ≤ j) ∨ (124 ≤ o ∧ o ≤ 126) ∨ (o = 127 ∧ 3 ≤ j) ∨ (128 ≤ o ∧ o ≤ 130) ∨ (o = 142 ∧ 9 ≤ j ∧ j ≤ 24 ∧ j ≠ 21) ∨ (o = 143 ∧ j = 1) ∨ (o = 145 ∧ 800 * k ≤ j) ∨ o = 151) → c' o j = c o j := e
  have ec : ∀ o, o < 142 → o ≠ 30 → ¬ (60 + 2 * k ≤ o ∧ o ≤ 61 + 2 * k) → ¬ (122 ≤ o ∧ o ≤ 130) → c' o = c o := fun o h1 h2 h3 h4 => funext fun j => e' o j (by omega)
  have ed : ∀ o, 144 ≤ o → o ≠ 145 → o ≠ 151 → c' o = c o := fun o h1 h2 h3 => funext fun j => e' o j (by omega)
  have ef : ∀ j, j ≠ 1 → c' 143 j = c 143 j := fun j hj => e' 143 j (by omega)
  have et : ∀ k', k' < k → ∀ j, 800 * k' ≤ j → j < 800 * k' + 800 → c' 145 j = c 145 j := fun k' hk' j h1 h2 => e' 145 j (by omega)
  have h30 : ∀ j, j ≠ 7 → c' 30 j = c 30 j := fun j hj => e' 30 j (by omega)
  refine ⟨i1, Xt_of i2 (fun o j ho => e' o j (by omega)), MS_of i3 (fun q hq => ?_) (ed _ (by omega) (by omega) (by omega)) (ed _ (by omega) (by omega) (by omega)), CS_k i4 (fun o j hj => ?_) (ec _ (by omega) (by omega) (by omega) (by omega)), ⟨?_, fun m hm => ?_, fun m hm hm2 => ?_, ?_, fun k' hk' => ?_, ?_, ?_, ?_, ?_⟩, ?_, ?_, RefI_of i8 (fun m hm => ⟨e' _ _ (by omega), e' _ _ (by omega)⟩), fun m hm hm2 => ?_, hT⟩
  · have := List.all_eq_true.mp mRefs_s q hq
    simp only [decide_eq_true_eq] at this
    exact e' 142 q.1 (by omega)
  · obtain ⟨q, hq, g⟩ := List.any_eq_true.mp hj
    simp only [Bool.and_eq_true, beq_iff_eq] at g
    obtain ⟨rfl, rfl⟩ := g
    have := List.all_eq_true.mp cRefs_s q hq
    simp only [decide_eq_true_eq] at this
    obtain ⟨b1, b2, b3, b4, b5, b6, b7, b8⟩ := this
    refine e' _ _ ?_
    rintro (w | w | w | w | w | w | w | w | w | w | w) <;> omega
  · rw [h30 6 (by omega), ef 0 (by omega)]; exact a1
  · rw [ef 0 (by omega)] at hm
    exact MapRel_f (f := c 143) (MapRel_of (a4 m hm) ⟨e' _ _ (by omega), e' _ _ (by omega)⟩ (ec _ (by omega) (by omega) (by omega) (by omega)) (ec _ (by omega) (by omega) (by omega) (by omega)) (ec _ (by omega) (by omega) (by omega) (by omega))) (by omega) (by omega) (fun j hj => ef j (by omega))
  · rw [ef 0 (by omega)] at hm2
    rw [ef _ (by omega)]; exact a5 m hm hm2
  · rcases hcnt with ⟨q1, q2⟩ | ⟨q1, q2, _⟩
    · rw [q1, q2, ← hk]; exact a6
    · rw [q1, q2]; omega
  · have old : k' < k → ShRel (c' 145) c' (60 + 2 * k') k' := fun hlt => by
      refine ShRel_tx (tx := c 145) (ShRel_of (a9 k' (by omega)) ?_ ?_) (et k' hlt)
      · exact ec _ (by omega) (by omega) (by omega) (by omega)
      · exact ec _ (by omega) (by omega) (by omega) (by omega)
    rcases hcnt with ⟨q1, q2⟩ | ⟨q1, q2, q3⟩
    · exact old (by omega)
    · by_cases ek : k' = k
      · rw [ek]; exact q3
      · exact old (by omega)
  · refine SeeRel_f (f := c 143) ef ?_
    unfold SeeRel at g1 ⊢
    rw [ec (30 + 4) (by omega) (by omega) (by omega) (by omega), ec (30 + 5) (by omega) (by omega) (by omega) (by omega)]; exact g1
  · refine BoxRel_f (f := c 143) ef ?_
    unfold BoxRel at g2 ⊢
    rw [ec (30 + 6) (by omega) (by omega) (by omega) (by omega)]; exact g2
  · refine LockRel_f (f := c 143) ef ?_
    unfold LockRel at g3 ⊢
    rw [ec (30 + 7) (by omega) (by omega) (by omega) (by omega)]; exact g3
  · refine RidRel_f (f := c 143) ef ?_
    unfold RidRel at g4 ⊢
    rw [ec (30 + 8) (by omega) (by omega) (by omega) (by omega), ec (30 + 9) (by omega) (by omega) (by omega) (by omega)]; exact g4
  · rw [ed 144 (by omega) (by omega) (by omega)]
    obtain ⟨b1, b4, b5, b6, b9, b10⟩ := StRel_of i6 (c' := c') (fun o j h1 h2 _ _ _ _ _ => e' o j (by omega))
    exact ⟨b1, b4, b5, b6, fun k' hk' => ShRel_tx (tx := c 145) (b9 k' hk') (et k' (by omega)), b10⟩
  · rw [ed 144 (by omega) (by omega) (by omega)]
    rcases hcnt with ⟨q1, q2⟩ | ⟨q1, q2, q3⟩
    · rw [q1, ← hk]; exact i7
    · rw [q1]; omega
  · rw [ef 0 (by omega)] at hm2
    rw [ef _ (by omega), ansL_f (hmok m (by omega) hm2) (fun j hj => ef j (by omega)), e' _ _ (by omega)]
    rcases i9 m hm hm2 with g | g
    · exact Or.inl g
    · exact Or.inr (AnsC_of g ⟨[], by simp⟩ (fun j => e' _ _ (by omega)) (fun r hr _ => ⟨ed _ (by omega) (by omega) (by omega), ed _ (by omega) (by omega) (by omega)⟩))
/-- the new showing -/
theorem ShRel_n {tx : Nat → Int} {c : Nat → Nat → Int} {k : Nat} {X : List (Int × Int)} {b sw on ak : Int} (hR : Rg b sw on ak X) (hl : X.length ≤ 300) (hc : c (60 + 2 * k) 1 = sw ∧ c (60 + 2 * k) 2 = ak ∧ c (60 + 2 * k) 3 = on) (ht : tx (800 * k) = b2i (bt b 4) ∧ tx (800 * k + 1) = sw ∧ tx (800 * k + 2) = on ∧ tx (800 * k + 3) = ak ∧ tx (800 * k + 4) = (X.length : Int)) (hX : ∀ (j : Nat) (q : Int × Int), X[j]? = some q → tx (800 * k + 10 + 2 * j) = q.1 ∧ tx (800 * k + 11 + 2 * j) = q.2) {gg : (Int → Int) → Bool} (hgg : bt b 4 = true → ∀ nm, runM nm X [] [] = some ([], [gg nm])) {G : Int → Int → Bool} (hG : ∀ p o, G p o = (!bt b 4 || gg (nmF (o / 3) (o % 3) (p / 7) (p % 7)))) (hJ : ∀ j, 0 ≤ j → j < 49 → Jp G j (c (61 + 2 * k) j.toNat)) : ShRel tx c (60 + 2 * k) k := by
  obtain ⟨t0, t1, t2, t3, t4⟩ := ht
  have ec := codeOf_X t4 hX
  refine ⟨⟨by rw [t1]; exact hc.1, by rw [t3]; exact hc.2.1, by rw [t2]; exact hc.2.2⟩, by rw [t1]; exact hR.2.2.1, by rw [t2]; exact hR.2.2.2.1, by rw [t3]; exact hR.2.2.2.2, ⟨by rw [t0]; exact b2i_o _, by rw [t4]; omega, fun w => ?_⟩, fun x y a1 a2 a3 a4 => ?_⟩
  · rw [t0] at w
    rw [ec]
    rcases hR.2.1 with ⟨e, _⟩ | ⟨_, hA, g, hg⟩
    · rw [e] at w; exact absurd w (by decide)
    · exact ⟨hA, fun nm => ⟨g nm, (hg nm).1 []⟩⟩
  · have J := hJ (7 * x + y) (by omega) (by omega)
    refine ⟨by rw [show 60 + 2 * k + 1 = 61 + 2 * k by omega]; exact J.1, fun a b' b1 b2 b3 b4 => ?_⟩
    have J2 := J.2 (3 * a + b') (by omega) (by omega)
    have e1 : (3 * a + b') / 3 = a := by omega
    have e2 : (3 * a + b') % 3 = b' := by omega
    have e3 : (7 * x + y) / 7 = x := by omega
    have e4 : (7 * x + y) % 7 = y := by omega
    rw [hG, e1, e2, e3, e4] at J2
    have J3 : bt (c (60 + 2 * k + 1) (7 * x + y).toNat) (3 * a + b') = (!bt b 4 || gg (nmF a b' x y)) := by
      rw [show 60 + 2 * k + 1 = 61 + 2 * k by omega]; exact J2
    rw [J3]
    unfold jud
    rw [t0, ec]
    cases hb : bt b 4 with
    | true => rw [if_neg (show ¬ b2i true = 0 by decide), hgg hb]; rfl
    | false => rw [if_pos (show b2i false = 0 from rfl)]; rfl
/-- what the steps say, for the class's table -/
theorem SG_n {b sw on ak : Int} {X : List (Int × Int)} (hR : Rg b sw on ak X) : ∃ (gg : (Int → Int) → Bool) (G : Int → Int → Bool), SG X G ∧ (bt b 4 = true → ∀ nm, runM nm X [] [] = some ([], [gg nm])) ∧ ∀ p o, G p o = (!bt b 4 || gg (nmF (o / 3) (o % 3) (p / 7) (p % 7))) := by
  rcases hR.2.1 with ⟨e, hX⟩ | ⟨e, hB⟩
  · exact ⟨fun _ => true, fun _ _ => true, Or.inl ⟨hX, fun _ _ => rfl⟩, ⟨fun w => absurd w (by rw [e]; decide), fun p o => by rw [e]; rfl⟩⟩
  · have hl := GdB_l hB
    obtain ⟨hA, g, hg⟩ := hB
    refine ⟨g, fun p o => g (nmF (o / 3) (o % 3) (p / 7) (p % 7)), Or.inr ⟨fun w => by rw [w] at hl; exact absurd hl (by decide), hA, g, fun nm => ⟨(hg nm).2.1, (hg nm).2.2⟩, fun _ _ => rfl⟩, fun _ nm => (hg nm).1 [], fun p o => ?_⟩
    rw [e]; rfl
