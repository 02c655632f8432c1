/-! mended: the least -/
def mnF (ot : Int → Int) (md : Int → Bool) (o i : Int) : Option Int := if ot i = o ∧ md i = true then some i else none
def mnO (ot : Int → Int) (md : Int → Bool) (o : Int) : Option Int := fdU (mnF ot md o) 48 0
def mnT (ot : Int → Int) (md : Int → Bool) : Option Int := fdU (mnO ot md) 5 0
def stB (ot : Int → Int) (md : Int → Bool) (i : Int) (q : Int × Int) : Int × Int := if ot i < q.2 ∧ md i = true then (i, ot i) else q
def QB (ot : Int → Int) (md : Int → Bool) (j : Int) (q : Int × Int) : Prop := (q = (-1, 5) ∧ ∀ i, 0 ≤ i → i < j → md i = false) ∨ (0 ≤ q.1 ∧ q.1 < j ∧ md q.1 = true ∧ q.2 = ot q.1 ∧ ∀ i, 0 ≤ i → i < j → md i = true → q.2 < ot i ∨ (q.2 = ot i ∧ q.1 ≤ i))
theorem QB_s {ot : Int → Int} {md : Int → Bool} {j : Int} (j0 : 0 ≤ j) (ho : ot j ≤ 4) {q : Int × Int} (h : QB ot md j q) : QB ot md (j + 1) (stB ot md j q) := by
  unfold stB
  rcases h with ⟨e, h⟩ | ⟨a, b, c, d, h⟩
  · subst e
    by_cases g : md j = true
    · rw [if_pos ⟨by show ot j < 5; omega, g⟩]
      refine Or.inr ⟨j0, by show j < j + 1; omega, g, rfl, fun i i0 i1 hi => ?_⟩
      by_cases z : i = j
      · subst z; exact Or.inr ⟨rfl, Int.le_refl _⟩
      · rw [h i i0 (by omega)] at hi; cases hi
    · rw [if_neg (fun w => g w.2)]
      refine Or.inl ⟨rfl, fun i i0 i1 => ?_⟩
      by_cases z : i = j
      · subst z; exact Bool.eq_false_iff.mpr g
      · exact h i i0 (by omega)
  · by_cases g : ot j < q.2 ∧ md j = true
    · rw [if_pos g]
      refine Or.inr ⟨j0, by show j < j + 1; omega, g.2, rfl, fun i i0 i1 hi => ?_⟩
      by_cases z : i = j
      · subst z; exact Or.inr ⟨rfl, Int.le_refl _⟩
      · have := h i i0 (by omega) hi
        have g1 := g.1
        exact Or.inl (by show ot j < ot i; omega)
    · rw [if_neg g]
      refine Or.inr ⟨a, by omega, c, d, fun i i0 i1 hi => ?_⟩
      by_cases z : i = j
      · subst z
        have : ¬ ot i < q.2 := fun w => g ⟨w, hi⟩
        by_cases y : q.2 < ot i
        · exact Or.inl y
        · exact Or.inr ⟨by omega, by omega⟩
      · exact h i i0 (by omega) hi
theorem QB_it {ot : Int → Int} {md : Int → Bool} (ho : ∀ j, 0 ≤ j → j < 48 → ot j ≤ 4) : ∀ (n : Nat) (j : Int) (q : Int × Int), 0 ≤ j → j + n = 48 → QB ot md j q → QB ot md 48 (itU (stB ot md) n j q)
  | 0, j, q, _, h, g => by rw [show (48 : Int) = j by omega]; exact g
  | n + 1, j, q, j0, h, g => QB_it ho n (j + 1) _ (by omega) (by omega) (QB_s j0 (ho j j0 (by omega)) g)
theorem fdU_at {α : Type} {f : Int → Option α} {x : α} {i : Int} (hf : f i = some x) : ∀ (n : Nat) (j : Int), j ≤ i → i < j + n → (∀ l, j ≤ l → l < i → f l = none) → fdU f n j = some x
  | 0, j, h1, h2, _ => by omega
  | n + 1, j, h1, h2, h => by
    simp only [fdU]
    by_cases e : i = j
    · subst e; rw [hf]
    · rw [h j (by omega) (by omega)]
      exact fdU_at hf n (j + 1) (by omega) (by omega) (fun l l1 l2 => h l (by omega) l2)
theorem QB_T {ot : Int → Int} {md : Int → Bool} (h0 : ∀ j, 0 ≤ j → j < 48 → 0 ≤ ot j ∧ ot j ≤ 4) {q : Int × Int} (h : QB ot md 48 q) : (mnT ot md = none ∧ q = (-1, 5)) ∨ (mnT ot md = some q.1 ∧ 0 ≤ q.1 ∧ q.1 < 48 ∧ q.2 = ot q.1) := by
  rcases h with ⟨e, h⟩ | ⟨a, b, c, d, h⟩
  · refine Or.inl ⟨(fdU_none _ _).mpr (fun o _ _ => (fdU_none _ _).mpr (fun i i0 i1 => ?_)), e⟩
    unfold mnF
    rw [if_neg (fun w => by rw [h i i0 (by omega)] at w; exact absurd w.2 (by decide))]
  · refine Or.inr ⟨?_, a, b, d⟩
    have hb := h0 q.1 a b
    refine fdU_at (i := q.2) (f := mnO ot md) ?_ 5 0 (by omega) (by omega) (fun o o0 o1 => (fdU_none _ _).mpr (fun i i0 i1 => ?_))
    · refine fdU_at (i := q.1) (by unfold mnF; rw [if_pos ⟨d.symm, c⟩]) 48 0 a (by omega) (fun i i0 i1 => ?_)
      unfold mnF
      exact if_neg (fun w => by have := h i i0 (by omega) w.2; omega)
    · unfold mnF
      exact if_neg (fun w => by have := h i i0 (by omega) w.2; omega)
theorem otM_b (tx : Nat → Int) (k : Nat) (i : Int) : 0 ≤ otM tx k i ∧ otM tx k i ≤ 4 := by
  have b1 := b2i_b (decide (swM i ≠ tx (800 * k + 1)))
  have b2 := b2i_b (decide (i / 6 % 2 ≠ tx (800 * k + 2)))
  have b3 := b2i_b (decide (i / 2 % 3 ≠ tx (800 * k + 3)))
  unfold otM; omega
section
variable {s : List (Nat × Nat)} {b : Nat → Nat → Int}
theorem k156_7 (d : Nat) {n0 : Nat} (hI : Inv s b n0) {k : Nat} (hk : (k : Int) < b 143 1) {m m' : Int} (m0 : 0 ≤ m) (m1 : m < b 143 0) (z0 : 0 ≤ m') (z1 : m' < b 143 0) (hA : AnsC s b (40 + 5 * m.toNat) (b 143 (20 + m).toNat) (ansL b m)) {o : Int} (o0 : 0 ≤ o) (o1 : o ≤ 4) : ∀ (n : Nat) (i : Int) (c : Nat → Nat → Int), 0 ≤ i → i + n = 48 → PM b c → (∃ x c', fdU (mnF (otM (b 145) k) (fun i => mdS (txM (b 145) k i) b k m m') o) n i = some x ∧ Rr (Cd (d + 6)) 156 7 [some (vA 29), some (vA ((60 + 2 * k : Nat) : Int)), some (vA ((40 + 5 * m.toNat : Nat) : Int)), some (vA ((40 + 5 * m'.toNat : Nat) : Int)), some (vI o), some (vI i)] [] (s, c) = some ([vI x], (s, c')) ∧ PM b c') ∨ (∃ c', fdU (mnF (otM (b 145) k) (fun i => mdS (txM (b 145) k i) b k m m') o) n i = none ∧ Rr (Cd (d + 6)) 156 7 [some (vA 29), some (vA ((60 + 2 * k : Nat) : Int)), some (vA ((40 + 5 * m.toNat : Nat) : Int)), some (vA ((40 + 5 * m'.toNat : Nat) : Int)), some (vI o), some (vI i)] [] (s, c) = Rr (Cd (d + 6)) 156 2 [some (vA 29), some (vA ((60 + 2 * k : Nat) : Int)), some (vA ((40 + 5 * m.toNat : Nat) : Int)), some (vA ((40 + 5 * m'.toNat : Nat) : Int)), some (vI (o + 1)), some (vI 48)] [] (s, c') ∧ PM b c')
  | 0, i, c, h0, h, hF => Or.inr ⟨c, rfl, by rw [c156_7, if_neg (by omega), w32_id (by omega) (by omega), show i = 48 by omega], hF⟩
  | n + 1, i, c, h0, h, hF => by
    have I1 := hF.inv hI
    have E3 := hF.e (x := 143) (by omega)
    have E5 := hF.e (x := 145) (by omega)
    have n4 := hI.nM.2
    have q0 := k157_0 (d + 4) I1 (k := k) (by rw [E3]; exact hk) h0 (show i < 48 by omega)
    rw [E5] at q0
    simp only [fdU]
    by_cases g : otM (b 145) k i = o
    · have A1 := hF.ans (q := 40 + 5 * m.toNat) (by omega) hA
      rw [← E3, ← ansL_of E3] at A1
      obtain ⟨c1, r1, f1⟩ := k158 d I1 (k := k) (m' := m') (by rw [E3]; exact hk) m0 (by rw [E3]; exact m1) z0 (by rw [E3]; exact z1) A1 h0 (show i < 48 by omega)
      rw [E5, mdS_of E3] at r1
      have F1 := hF.tr f1
      by_cases z : mdS (txM (b 145) k i) b k m m' = true
      · have ef : mnF (otM (b 145) k) (fun i => mdS (txM (b 145) k i) b k m m') o i = some i := if_pos ⟨g, z⟩
        rw [z] at r1
        refine Or.inl ⟨i, c1, by rw [ef], ?_, F1⟩
        rw [c156_7, if_pos (by omega)]
        repeat (first | rw [bnd_s] | rw [tI_m] | rw [tL_m] | rw [tA_m] | rw [tV_m] | rw [q0] | rw [if_pos g] | rw [r1] | rw [b2i_t] | rw [if_neg (show ¬ (1 : Int) = 0 by decide)])
      · have ef : mnF (otM (b 145) k) (fun i => mdS (txM (b 145) k i) b k m m') o i = none := if_neg (fun w => z w.2)
        rw [Bool.eq_false_iff.mpr z] at r1
        rw [ef]
        have run : Rr (Cd (d + 6)) 156 7 [some (vA 29), some (vA ((60 + 2 * k : Nat) : Int)), some (vA ((40 + 5 * m.toNat : Nat) : Int)), some (vA ((40 + 5 * m'.toNat : Nat) : Int)), some (vI o), some (vI i)] [] (s, c) = Rr (Cd (d + 6)) 156 7 [some (vA 29), some (vA ((60 + 2 * k : Nat) : Int)), some (vA ((40 + 5 * m.toNat : Nat) : Int)), some (vA ((40 + 5 * m'.toNat : Nat) : Int)), some (vI o), some (vI (i + 1))] [] (s, c1) := by
          rw [c156_7, if_pos (by omega)]
          repeat (first | rw [bnd_s] | rw [tI_m] | rw [tL_m] | rw [tA_m] | rw [tV_m] | rw [q0] | rw [if_pos g] | rw [r1] | rw [b2i_f] | rw [if_pos (show (0 : Int) = 0 from rfl)] | rw [c156_25] | rw [w32_id (z := i + 1) (by omega) (by omega)])
        rw [run]
        exact k156_7 d hI hk m0 m1 z0 z1 hA o0 o1 n (i + 1) c1 (by omega) (by omega) F1
    · have ef : mnF (otM (b 145) k) (fun i => mdS (txM (b 145) k i) b k m m') o i = none := if_neg (fun w => g w.1)
      rw [ef]
      have run : Rr (Cd (d + 6)) 156 7 [some (vA 29), some (vA ((60 + 2 * k : Nat) : Int)), some (vA ((40 + 5 * m.toNat : Nat) : Int)), some (vA ((40 + 5 * m'.toNat : Nat) : Int)), some (vI o), some (vI i)] [] (s, c) = Rr (Cd (d + 6)) 156 7 [some (vA 29), some (vA ((60 + 2 * k : Nat) : Int)), some (vA ((40 + 5 * m.toNat : Nat) : Int)), some (vA ((40 + 5 * m'.toNat : Nat) : Int)), some (vI o), some (vI (i + 1))] [] (s, c) := by
        rw [c156_7, if_pos (by omega)]
        repeat (first | rw [bnd_s] | rw [tI_m] | rw [tL_m] | rw [tA_m] | rw [tV_m] | rw [q0] | rw [if_neg g] | rw [c156_25] | rw [w32_id (z := i + 1) (by omega) (by omega)])
      rw [run]
      exact k156_7 d hI hk m0 m1 z0 z1 hA o0 o1 n (i + 1) c (by omega) (by omega) hF
theorem k156_2 (d : Nat) {n0 : Nat} (hI : Inv s b n0) {k : Nat} (hk : (k : Int) < b 143 1) {m m' : Int} (m0 : 0 ≤ m) (m1 : m < b 143 0) (z0 : 0 ≤ m') (z1 : m' < b 143 0) (hA : AnsC s b (40 + 5 * m.toNat) (b 143 (20 + m).toNat) (ansL b m)) : ∀ (n : Nat) (o : Int) (c : Nat → Nat → Int) (o5 : Option AV), 0 ≤ o → o + n = 5 → PM b c → ∃ c', Rr (Cd (d + 6)) 156 2 [some (vA 29), some (vA ((60 + 2 * k : Nat) : Int)), some (vA ((40 + 5 * m.toNat : Nat) : Int)), some (vA ((40 + 5 * m'.toNat : Nat) : Int)), some (vI o), o5] [] (s, c) = some ([vI ((fdU (mnO (otM (b 145) k) (fun i => mdS (txM (b 145) k i) b k m m')) n o).getD (-1))], (s, c')) ∧ PM b c'
  | 0, o, c, o5, h0, h, hF => ⟨c, by rw [c156_2, if_pos (by omega)]; rfl, hF⟩
  | n + 1, o, c, o5, h0, h, hF => by
    rw [c156_2, if_neg (by omega)]
    simp only [fdU]
    rcases k156_7 d hI hk m0 m1 z0 z1 hA h0 (show o ≤ 4 by omega) 48 0 c (by omega) (by omega) hF with ⟨x, c', y1, y2, y3⟩ | ⟨c', y1, y2, y3⟩
    · rw [show mnO (otM (b 145) k) (fun i => mdS (txM (b 145) k i) b k m m') o = some x from y1, y2]; exact ⟨c', rfl, y3⟩
    · rw [show mnO (otM (b 145) k) (fun i => mdS (txM (b 145) k i) b k m m') o = none from y1, y2]; exact k156_2 d hI hk m0 m1 z0 z1 hA n (o + 1) c' _ (by omega) (by omega) y3
variable {tx : Nat → Int}
theorem m234F (d : Nat) (hs : SpL s) {k : Nat} {m : Int} (hP : MPV tx b k m) : ∃ c', Cd (d + 6) 234 [vA 142, vI m] (s, b) = some ([vI (rgTV tx b k m).1], (s, c')) ∧ Fm [148, 152, 153, 154] [6, 32, 33, 34] b c' ∧ AnsAt c' (ansL b m) := by
  obtain ⟨c3, y1, yf, yA⟩ := m183 (d + 2) hs hP.1.1 hP.1.2.2.2.2.1
  have z : ∃ b', b' = u2 (u2 (u2 c3 142 32 (-1)) 142 33 (-1)) 142 34 (-1) := ⟨_, rfl⟩
  obtain ⟨b', zb⟩ := z
  have bf : Fm [148] [6, 32, 33, 34] b b' := by
    rw [zb]
    exact (((yf.mono (by decide) (by decide)).f _ (by decide)).f _ (by decide)).f _ (by decide)
  obtain ⟨P3, b3', -⟩ := hP.mv bf (by decide)
  have bA : AnsAt b' (ansL b' m) := by
    rw [ansL_of b3']
    unfold AnsAt at yA ⊢
    have g6 : b' 142 6 = c3 142 6 := by rw [zb, u2_n (by omega), u2_n (by omega), u2_n (by omega)]
    have g8 : b' 148 = c3 148 := funext fun i => by rw [zb, u2_n (by omega), u2_n (by omega), u2_n (by omega)]
    rw [g6, g8]; exact yA
  have ll := ansL_len P3.1.2.2.2.2.1
  obtain ⟨c4, w1, wf, -⟩ := m234_16V d hs P3 bA (ansL b' m).length 0 (0, -1, -1, -1) b' (Fm.rf _ _ _) ⟨by rw [zb, u2_n (by omega), u2_n (by omega), u2_e], by rw [zb, u2_n (by omega), u2_e], by rw [zb, u2_e]⟩ (by omega) (by omega) (by decide) (by show (0 : Int) + 126 * _ < 2147483648; omega) none none
  have eT : itU (rgIV tx b' k m) (ansL b' m).length 0 (0, -1, -1, -1) = rgTV tx b k m := by
    unfold rgTV; rw [rgI_ofV b3' rfl, ansL_of b3']
  rw [eT] at w1
  refine ⟨c4, ?_, (bf.mono (by decide) (by decide)).tr (wf.mono (by decide) (by decide)), ?_⟩
  · rw [c234 (hg := gC142 hs _)]
    repeat (first | rw [bnd_s] | rw [tI_m] | rw [tL_m] | rw [tA_m] | rw [tV_m] | rw [y1] | rw [fC142 hs _ (by decide)] | rw [pC142 hs _ _ (by decide)])
    rw [← zb]; exact w1
  · rw [ansL_of b3'] at bA
    exact AnsAt_m bA wf (by decide) (by decide)
theorem fdU_is {α β : Type} {f : Int → Option α} {g : Int → Option β} : ∀ (n : Nat) (j : Int), (∀ i, (f i).isSome = (g i).isSome) → (fdU f n j).isSome = (fdU g n j).isSome
  | 0, _, _ => rfl
  | n + 1, j, h => by
    have hj := h j
    simp only [fdU]
    cases e : f j with
    | some x =>
      rw [e] at hj
      cases e' : g j with
      | some y => rfl
      | none => rw [e'] at hj; cases hj
    | none =>
      rw [e] at hj
      cases e' : g j with
      | some y => rw [e'] at hj; cases hj
      | none => exact fdU_is n (j + 1) h
theorem isN {α : Type} {x : Option α} (h : x.isSome = false) : x = none := by
  cases x with
  | none => rfl
  | some y => cases h
theorem TT_12 (tx : Nat → Int) (b : Nat → Nat → Int) (k : Nat) (m : Int) : (TTV tx b k m 2).isSome = ((TTV tx b k m 1).isSome || (decide (tx (800 * k + 2) ≠ 0) && (TTV tx b k m 2).isSome)) := by
  by_cases g : tx (800 * k + 2) = 0
  · rw [decide_eq_false (fun z => z g), Bool.false_and, Bool.or_false]
    unfold TTV
    rw [if_neg (fun w => w.2 g), if_neg (fun w => w.2 g)]
    refine fdU_is _ _ (fun i => ?_)
    unfold T1V
    rw [Option.isSome_map, Option.isSome_map]
  · rw [decide_eq_true g, Bool.true_and]
    cases e : (TTV tx b k m 2).isSome with
    | true => rw [Bool.or_true]
    | false =>
      rw [Bool.or_false]
      symm
      have hn := isN e
      unfold TTV at hn ⊢
      rw [if_pos ⟨rfl, g⟩] at hn
      rw [if_neg (fun w => absurd w.1 (by decide))]
      have : fdU (T1V tx b k m 1) (asN (tx (800 * k + 3)) (b 143 (20 + m).toNat) (b 143 (24 + m).toNat)).toNat 0 = none := (fdU_none _ _).mpr (fun i i0 i1 => by
        have h1 := (fdU_none _ _).mp ((fdU_none _ _).mp hn i i0 i1) i i0 i1
        unfold T2V at h1
        unfold T1V
        cases q : FFV tx b k m i i with
        | none => rfl
        | some a => rw [q] at h1; cases h1)
      rw [this]; rfl
theorem m277 (d : Nat) (hs : SpL s) {k : Nat} {m m' : Int} (hP : MPV tx b k m) (hP' : MPV tx b k m') : ∃ c', Cd (d + 9) 277 [vA 142, vI m, vI m'] (s, b) = some ([vI (b2i (mdS tx b k m m'))], (s, c')) ∧ Fm [148, 152, 153, 154, 157, 158] [6, 32, 33, 34, 35, 36, 41, 42, 43] b c' := by
  have hw := hP.2.2.2.1
  have nn := rgT_nn (tx := tx) (b := b) (k := k) (m := m) hw
  obtain ⟨c1, r1, f1, A1⟩ := m234F (d + 2) hs hP
  obtain ⟨P1, e1, -⟩ := hP.mv f1 (by decide)
  rw [← ansL_of e1] at A1
  by_cases g1 : (rgTV tx b k m).1 = 0
  case neg =>
    refine ⟨c1, ?_, f1.mono (by decide) (by decide)⟩
    have em : mdS tx b k m m' = false := by unfold mdS; rw [decide_eq_false g1, Bool.and_false, Bool.false_and]
    rw [em, c277 (hg := gC142 hs b)]
    repeat (first | rw [bnd_s] | rw [tI_m] | rw [tL_m] | rw [tA_m] | rw [tV_m] | rw [r1] | rw [if_pos (show 0 < (rgTV tx b k m).1 by omega)])
    rfl
  obtain ⟨c2, r2, f2, -⟩ := m245V d hs P1 A1 (q := 1) (Or.inl rfl)
  rw [fM_TTV P1.2.2.2.1 (Or.inl rfl), TT_ofV e1 rfl] at r2
  have F2 : Fm [148, 152, 153, 154, 157, 158] [6, 32, 33, 34, 35, 36, 41, 42, 43] b c2 := (f1.mono (by decide) (by decide)).tr (f2.mono (by decide) (by decide))
  have T12 := TT_12 tx b k m
  by_cases g2 : (TTV tx b k m 1).isSome = true
  · refine ⟨c2, ?_, F2⟩
    have em : mdS tx b k m m' = false := by unfold mdS; rw [T12, g2, Bool.true_or]; rfl
    rw [g2] at r2
    rw [em, c277 (hg := gC142 hs b)]
    repeat (first | rw [bnd_s] | rw [tI_m] | rw [tL_m] | rw [tA_m] | rw [tV_m] | rw [r1] | rw [if_neg (show ¬ 0 < (rgTV tx b k m).1 by omega)] | rw [r2] | rw [b2i_t] | rw [if_neg (show ¬ (1 : Int) = 0 by decide)])
    rfl
  have g2 := Bool.eq_false_iff.mpr g2
  rw [g2] at r2
  rw [g2, Bool.false_or] at T12
  obtain ⟨P2, e2, -⟩ := P1.mv f2 (by decide)
  have E2 := e2.trans e1
  have e28 := P2.2.2.2.2.1
  have fin : ∀ c3, Fm [148, 152, 153, 154, 157, 158] [6, 32, 33, 34, 35, 36, 41, 42, 43] b c3 → ∃ c', Rr (Cd (d + 8)) 277 23 [some (vA 142), some (vI m), some (vI m')] [] (s, c3) = some ([vI (b2i (decide ((mx (cntRV tx b k m') (r3 (b 143 (20 + m').toNat)).toNat 0 (-1) (-1)).1 < asN (tx (800 * k + 3)) (b 143 (20 + m').toNat) (b 143 (24 + m').toNat))))], (s, c')) ∧ Fm [148, 152, 153, 154, 157, 158] [6, 32, 33, 34, 35, 36, 41, 42, 43] b c' := fun c3 F3 => by
    obtain ⟨P3, e3, -⟩ := hP'.mv F3 (by decide)
    obtain ⟨c4, r4, f4, x4⟩ := m236V (d + 2) hs P3
    obtain ⟨P4, e4, -⟩ := P3.mv f4 (by decide)
    have q4 := P4.n224 (d + 7) hs
    have E4 := e4.trans e3
    rw [E4] at q4
    have h2 : cntRV tx c3 k m' = cntRV tx b k m' := funext fun r => by
      unfold cntRV; rw [e3]
      exact sumU_cg _ _ (fun i _ _ => by rw [belR_ofV e3 rfl])
    rw [h2, e3] at x4
    refine ⟨c4, ?_, F3.tr (f4.mono (by decide) (by decide))⟩
    rw [c277_23]
    repeat (first | rw [bnd_s] | rw [tI_m] | rw [tL_m] | rw [tA_m] | rw [tV_m] | rw [r4] | rw [fC142 hs _ (by decide)] | rw [pC142 hs _ _ (by decide)] | rw [x4] | rw [q4])
    by_cases g3 : (mx (cntRV tx b k m') (r3 (b 143 (20 + m').toNat)).toNat 0 (-1) (-1)).1 < asN (tx (800 * k + 3)) (b 143 (20 + m').toNat) (b 143 (24 + m').toNat)
    · rw [if_pos g3, c277_35, if_pos (Or.inr rfl), decide_eq_true g3]; rfl
    · rw [if_neg g3, c277_35, if_pos (Or.inl rfl), decide_eq_false g3]; rfl
  by_cases g3 : tx (800 * k + 2) = 0
  · obtain ⟨c', w1, w2⟩ := fin c2 F2
    refine ⟨c', ?_, w2⟩
    have em : mdS tx b k m m' = decide ((mx (cntRV tx b k m') (r3 (b 143 (20 + m').toNat)).toNat 0 (-1) (-1)).1 < asN (tx (800 * k + 3)) (b 143 (20 + m').toNat) (b 143 (24 + m').toNat)) := by
      unfold mdS; rw [T12, decide_eq_false (fun z => z g3), Bool.false_and, decide_eq_true g1]; rfl
    rw [em, c277 (hg := gC142 hs b)]
    repeat (first | rw [bnd_s] | rw [tI_m] | rw [tL_m] | rw [tA_m] | rw [tV_m] | rw [r1] | rw [if_neg (show ¬ 0 < (rgTV tx b k m).1 by omega)] | rw [r2] | rw [b2i_f] | rw [if_pos (show (0 : Int) = 0 from rfl)] | rw [fC142 hs _ (by decide)] | rw [pC142 hs _ _ (by decide)] | rw [e28] | rw [if_pos g3])
    exact w1
  · obtain ⟨c3, r3', f3, -⟩ := m245V d hs P2 (by rw [ansL_of e2]; exact AnsAt_m A1 f2 (by decide) (by decide)) (q := 2) (Or.inr rfl)
    rw [fM_TTV P2.2.2.2.1 (Or.inr rfl), TT_ofV E2 rfl] at r3'
    have F3 : Fm [148, 152, 153, 154, 157, 158] [6, 32, 33, 34, 35, 36, 41, 42, 43] b c3 := F2.tr (f3.mono (by decide) (by decide))
    by_cases g4 : (TTV tx b k m 2).isSome = true
    · refine ⟨c3, ?_, F3⟩
      have em : mdS tx b k m m' = false := by unfold mdS; rw [g4]; rfl
      rw [g4] at r3'
      rw [em, c277 (hg := gC142 hs b)]
      repeat (first | rw [bnd_s] | rw [tI_m] | rw [tL_m] | rw [tA_m] | rw [tV_m] | rw [r1] | rw [if_neg (show ¬ 0 < (rgTV tx b k m).1 by omega)] | rw [r2] | rw [b2i_f] | rw [b2i_t] | rw [if_pos (show (0 : Int) = 0 from rfl)] | rw [fC142 hs _ (by decide)] | rw [pC142 hs _ _ (by decide)] | rw [e28] | rw [if_neg g3] | rw [r3'] | rw [if_neg (show ¬ (1 : Int) = 0 by decide)])
    · have g4 := Bool.eq_false_iff.mpr g4
      obtain ⟨c', w1, w2⟩ := fin c3 F3
      refine ⟨c', ?_, w2⟩
      have em : mdS tx b k m m' = decide ((mx (cntRV tx b k m') (r3 (b 143 (20 + m').toNat)).toNat 0 (-1) (-1)).1 < asN (tx (800 * k + 3)) (b 143 (20 + m').toNat) (b 143 (24 + m').toNat)) := by
        unfold mdS; rw [g4, decide_eq_true g1]; rfl
      rw [g4] at r3'
      rw [em, c277 (hg := gC142 hs b)]
      repeat (first | rw [bnd_s] | rw [tI_m] | rw [tL_m] | rw [tA_m] | rw [tV_m] | rw [r1] | rw [if_neg (show ¬ 0 < (rgTV tx b k m).1 by omega)] | rw [r2] | rw [b2i_f] | rw [if_pos (show (0 : Int) = 0 from rfl)] | rw [fC142 hs _ (by decide)] | rw [pC142 hs _ _ (by decide)] | rw [e28] | rw [if_neg g3] | rw [r3'])
      exact w1
theorem m276 (d : Nat) (hs : SpL s) (hm : MS b) {k : Nat} (kk : k < 8) (i : Int) (i0 : 0 ≤ i) : Cd (d + 1) 276 [vA 142, vI (k : Int), vI (swM i), vI (i / 6 % 2), vI (i / 2 % 3), vI (i % 2)] (s, b) = some ([vI (otM (b 145) k i)], (s, b)) := by
  have W0 : w32 (800 * (k : Int)) = 800 * (k : Int) := w32_id (by omega) (by omega)
  have t1 : (800 * (k : Int) + 1).toNat = 800 * k + 1 := by omega
  have t2 : (800 * (k : Int) + 2).toNat = 800 * k + 2 := by omega
  have t3 : (800 * (k : Int) + 3).toNat = 800 * k + 3 := by omega
  have b1 := b2i_b (decide (swM i ≠ b 145 (800 * k + 1)))
  have b2 := b2i_b (decide (i / 6 % 2 ≠ b 145 (800 * k + 2)))
  have b3 := b2i_b (decide (i / 2 % 3 ≠ b 145 (800 * k + 3)))
  have fi : ∀ (x y : Int) (R : Int → Option (List AV × HP)), (if x = y then R 0 else R 1) = R (b2i (decide (y ≠ x))) := fun x y R => by
    by_cases g : x = y
    · rw [if_pos g, decide_eq_false (fun z => z g.symm)]; rfl
    · rw [if_neg g, decide_eq_true (show y ≠ x from fun z => g z.symm)]; rfl
  rw [c276 (hg := gC142 hs b)]
  repeat (first | rw [bnd_s] | rw [tI_m] | rw [tL_m] | rw [tA_m] | rw [tV_m] | rw [fC142 hs _ (by decide)] | rw [pC142 hs _ _ (by decide)] | rw [MS_2 hm] | rw [W0] | rw [w32_id (z := 800 * (k : Int) + 1) (by omega) (by omega)] | rw [aC145 hs _ (show 0 ≤ 800 * (k : Int) + 1 by omega) (by omega)] | rw [t1])
  rw [fi (b 145 (800 * k + 1)) (swM i) (fun z => Rr (Cd d) 276 15 [some (vA 142), some (vI (k : Int)), some (vI (swM i)), some (vI (i / 6 % 2)), some (vI (i / 2 % 3)), some (vI (i % 2)), some (vI (800 * (k : Int)))] [vI z] (s, b)), c276_15]
  repeat (first | rw [bnd_s] | rw [tI_m] | rw [tL_m] | rw [tA_m] | rw [tV_m] | rw [fC142 hs _ (by decide)] | rw [pC142 hs _ _ (by decide)] | rw [MS_2 hm] | rw [w32_id (z := 800 * (k : Int) + 2) (by omega) (by omega)] | rw [aC145 hs _ (show 0 ≤ 800 * (k : Int) + 2 by omega) (by omega)] | rw [t2])
  rw [fi (b 145 (800 * k + 2)) (i / 6 % 2) (fun z => Rr (Cd d) 276 26 [some (vA 142), some (vI (k : Int)), some (vI (swM i)), some (vI (i / 6 % 2)), some (vI (i / 2 % 3)), some (vI (i % 2)), some (vI (800 * (k : Int)))] [vI z, vI (b2i (decide (swM i ≠ b 145 (800 * k + 1))))] (s, b)), c276_26]
  repeat (first | rw [bnd_s] | rw [tI_m] | rw [tL_m] | rw [tA_m] | rw [tV_m] | rw [fC142 hs _ (by decide)] | rw [pC142 hs _ _ (by decide)] | rw [MS_2 hm] | rw [w32_id (z := 800 * (k : Int) + 3) (by omega) (by omega)] | rw [aC145 hs _ (show 0 ≤ 800 * (k : Int) + 3 by omega) (by omega)] | rw [t3])
  rw [fi (b 145 (800 * k + 3)) (i / 2 % 3) (fun z => Rr (Cd d) 276 38 [some (vA 142), some (vI (k : Int)), some (vI (swM i)), some (vI (i / 6 % 2)), some (vI (i / 2 % 3)), some (vI (i % 2)), some (vI (800 * (k : Int)))] [vI z, vI (w32 (b2i (decide (swM i ≠ b 145 (800 * k + 1))) + b2i (decide (i / 6 % 2 ≠ b 145 (800 * k + 2)))))] (s, b)), c276_38]
  unfold otM
  rw [w32_id (z := b2i (decide (swM i ≠ b 145 (800 * k + 1))) + b2i (decide (i / 6 % 2 ≠ b 145 (800 * k + 2)))) (by omega) (by omega), w32_id (z := b2i (decide (swM i ≠ b 145 (800 * k + 1))) + b2i (decide (i / 6 % 2 ≠ b 145 (800 * k + 2))) + b2i (decide (i / 2 % 3 ≠ b 145 (800 * k + 3)))) (by omega) (by omega), w32_id (by omega) (by omega)]
end
