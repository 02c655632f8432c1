/-! possible -/
def alk (b : Nat → Nat → Int) (m x y : Int) : Bool := anyU (fun v => decide (swF (b 143 (20 + m).toNat).toNat v x = y)) 6 0
theorem prU_nn {f : Int → Int} (h : ∀ i, 0 ≤ f i) : ∀ (n : Nat) (j : Int), 0 ≤ prU f n j
  | 0, _ => by simp only [prU]; decide
  | n + 1, j => by simp only [prU]; exact Int.mul_nonneg (h j) (prU_nn h n (j + 1))
theorem wgt_nn {b : Nat → Nat → Int} {k : Nat} {m r : Int} (hw : b 145 (800 * k + 1) = 1 ∨ b 145 (800 * k + 1) = 2 ∨ b 145 (800 * k + 1) = 3 ∨ b 145 (800 * k + 1) = 6) : 0 ≤ wgt b k m r := by
  unfold wgt
  split
  · refine prU_nn (fun j => ?_) 20 0
    unfold wN
    split
    · exact (cn_b b k m r j hw).1
    · decide
  · exact (sumU_b (B := 1) _ _ _ (fun i _ _ => b2i_b _)).1
def fdP (a : Int) (q : Int × Int × Bool) : Int := if q.1 = 0 then a else q.2.1
def stP (b : Nat → Nat → Int) (k : Nat) (m a : Int) (q : Int × Int × Bool) : Int × Int × Bool := if wgt b k m ((ansL b m).getD a.toNat 0) = 0 then q else (q.1 + 1, fdP a q, q.2.2 && alk b m ((ansL b m).getD (fdP a q).toNat 0) ((ansL b m).getD a.toNat 0))
def psA (v : Int) (T : Int × Int × Bool) : Int := if v = 0 then T.1 else if v = 1 then b2i (T.2.2 && decide (0 < T.1)) else T.2.1
def P3 (q : Int × Int × Bool) (a : Int) : Prop := (0 ≤ q.1 ∧ q.1 ≤ a) ∧ (q.1 = 0 → q.2.1 = -1) ∧ (0 < q.1 → 0 ≤ q.2.1 ∧ q.2.1 < a)
theorem P3_f {q : Int × Int × Bool} {a : Int} (h : P3 q a) (a0 : 0 ≤ a) : 0 ≤ fdP a q ∧ fdP a q < a + 1 := by
  obtain ⟨h1, h2, h3⟩ := h
  unfold fdP
  split
  · omega
  · have := h3 (by omega); omega
theorem P3_s {b : Nat → Nat → Int} {k : Nat} {m : Int} {q : Int × Int × Bool} {a : Int} (h : P3 q a) (a0 : 0 ≤ a) : P3 (stP b k m a q) (a + 1) := by
  have f := P3_f h a0
  obtain ⟨h1, h2, h3⟩ := h
  unfold stP
  split
  · exact ⟨by omega, h2, fun w => by have := h3 w; omega⟩
  · exact ⟨by show 0 ≤ q.1 + 1 ∧ q.1 + 1 ≤ a + 1; omega, fun w => by have w : q.1 + 1 = 0 := w; omega, fun _ => f⟩
section
variable {s : List (Nat × Nat)} {b : Nat → Nat → Int}
theorem k59_2 (d : Nat) {n0 : Nat} {c : Nat → Nat → Int} (hI : Inv s c n0) {m : Int} (m0 : 0 ≤ m) (m1 : m < c 143 0) (p5 : c 131 5 = ((40 + 5 * m.toNat : Nat) : Int)) (y : Int) {x : Int} (x0 : 0 ≤ x) (x1 : x < 2187) : ∀ (n : Nat) (v : Int), 0 ≤ v → v + n = 6 → Rr (Cd (d + 1)) 59 2 [some (vA 131), some (vI y), some (vI x), some (vI v)] [] (s, c) = some ([vI (b2i (anyU (fun v => decide (swF (c 143 (20 + m).toNat).toNat v x = y)) n v))], (s, c))
  | 0, v, h0, h => by rw [c59_2, if_neg (by omega)]; rfl
  | n + 1, v, h0, h => by
    have hs := hI.1.l
    have hc := hI.2.2.2.1
    have hM := hI.mok m m0 m1
    have n4 := hI.nM.2
    have k2 := hM.2.1
    have hch := chN hs hc (m := m.toNat) (by omega)
    have hmr := (hI.map (m := m.toNat) (by omega)).1.1
    rw [Int.toNat_of_nonneg m0] at hmr
    have ih := k59_2 d hI m0 m1 p5 y x0 x1 n (v + 1) (by omega) (by omega)
    simp only [anyU]
    rw [c59_2, if_pos (by omega)]
    repeat (first | rw [bnd_s] | rw [tI_m] | rw [tL_m] | rw [tA_m] | rw [tV_m] | rw [fC131 hs _ (by decide)] | rw [pC131 hs _ _ (by decide)] | rw [p5] | rw [gF_g hch.1.1 _ (by decide)] | rw [hmr] | rw [k167 d hs hI.2.1 (show 0 ≤ c 143 (20 + m).toNat by omega) k2.2 h0 (show v < 6 by omega) x0 x1])
    by_cases e : swF (c 143 (20 + m).toNat).toNat v x = y
    · rw [if_pos e, decide_eq_true e, Bool.true_or]; rfl
    · rw [if_neg e, decide_eq_false e, Bool.false_or, w32_id (by omega) (by omega), ih]
theorem k58_9 (d : Nat) {n0 : Nat} (hI : Inv s b n0) {k : Nat} {m : Int} (m0 : 0 ≤ m) (m1 : m < b 143 0) (hP : PlayR b k m) (hA : AnsC s b (40 + 5 * m.toNat) (b 143 (20 + m).toNat) (ansL b m)) (hw : b 145 (800 * k + 1) = 1 ∨ b 145 (800 * k + 1) = 2 ∨ b 145 (800 * k + 1) = 3 ∨ b 145 (800 * k + 1) = 6) : ∀ (n : Nat) (a : Int) (q : Int × Int × Bool) (c : Nat → Nat → Int), 0 ≤ a → a + n = (ansL b m).length → PlF b c → P3 q a → c 131 12 = q.2.1 → c 131 10 = b2i q.2.2 → ∃ c', Rr (Cd (d + 5)) 58 9 [some (vA 131), some (vA 33), some (vI q.1), some (vI a)] [] (s, c) = some ([vI (itU (stP b k m) n a q).1], (s, c')) ∧ PlF b c' ∧ c' 131 12 = (itU (stP b k m) n a q).2.1 ∧ c' 131 10 = b2i (itU (stP b k m) n a q).2.2
  | 0, a, q, c, h0, h, hF, h3, hf, ha => by
    have hI1 := hF.inv hI
    have hs := hI1.1.l
    have hc := hI1.2.2.2.1
    have n4 := hI.nM.2
    have hch := chN hs hc (m := m.toNat) (by omega)
    have p5 := (PlayR_of hP hF).1
    have p8 : c (40 + 5 * m.toNat) 8 = (ansL b m).length := (hF _ _ (by omega) (by omega) (by omega)).trans hA.2.1
    refine ⟨c, ?_, hF, hf, ha⟩
    rw [c58_9]
    repeat (first | rw [bnd_s] | rw [tI_m] | rw [tL_m] | rw [tA_m] | rw [tV_m] | rw [fC131 hs _ (by decide)] | rw [pC131 hs _ _ (by decide)] | rw [p5] | rw [gF_g hch.1.1 _ (by decide)] | rw [p8] | rw [if_neg (show ¬ a < ((ansL b m).length : Int) by omega)])
    rfl
  | n + 1, a, q, c, h0, h, hF, h3, hf, ha => by
    have hI1 := hF.inv hI
    have hs := hI1.1.l
    have hc := hI1.2.2.2.1
    have n4 := hI.nM.2
    have hM := hI.mok m m0 m1
    have e3 : c 143 = b 143 := funext fun i => hF _ _ (by omega) (by omega) (by omega)
    have e5 : c 145 = b 145 := funext fun i => hF _ _ (by omega) (by omega) (by omega)
    have hch := chN hs hc (m := m.toNat) (by omega)
    have hP1 := PlayR_of hP hF
    have p5 := hP1.1
    have p8 : c (40 + 5 * m.toNat) 8 = (ansL b m).length := (hF _ _ (by omega) (by omega) (by omega)).trans hA.2.1
    have ll := ansL_len hM
    have al := ansL_at hM (i := a.toNat) (by omega)
    have hAc : ∀ c', PlF b c' → AnsC s c' (40 + 5 * m.toNat) (b 143 (20 + m).toNat) (ansL b m) := fun c' hF => AnsC_of hA ⟨[], by simp⟩ (fun k => hF _ _ (by omega) (by omega) (by omega)) (fun r hr _ => ⟨funext fun k => hF _ _ (by omega) (by omega) (by omega), funext fun k => hF _ _ (by omega) (by omega) (by omega)⟩)
    have q15 := k15 (d + 4) hch (hAc c hF) (by omega) a
    rw [if_pos ⟨h0, by omega⟩] at q15
    have q57 := k57 d hI1 m0 (by rw [e3]; exact m1) hP1 (by rw [e5]; exact hw) (r := (ansL b m).getD a.toNat 0) al.1 (by rw [e3]; exact al.2.1)
    rw [wgt_of e3 e5, e3] at q57
    have nn := wgt_nn (m := m) (r := (ansL b m).getD a.toNat 0) hw
    have ff := P3_f h3 h0
    have s3 := P3_s (b := b) (k := k) (m := m) h3 h0
    simp only [itU]
    by_cases z : wgt b k m ((ansL b m).getD a.toNat 0) = 0
    · have es : stP b k m a q = q := if_pos z
      rw [es] at s3 ⊢
      obtain ⟨c', y1, y2, y3, y4⟩ := k58_9 d hI m0 m1 hP hA hw n (a + 1) q c (by omega) (by omega) hF s3 hf ha
      refine ⟨c', ?_, y2, y3, y4⟩
      rw [c58_9]
      repeat (first | rw [bnd_s] | rw [tI_m] | rw [tL_m] | rw [tA_m] | rw [tV_m] | rw [fC131 hs _ (by decide)] | rw [pC131 hs _ _ (by decide)] | rw [p5] | rw [gF_g hch.1.1 _ (by decide)] | rw [p8] | rw [if_pos (show a < ((ansL b m).length : Int) by omega)] | rw [q15] | rw [q57] | rw [if_neg (show ¬ 0 < lcmp (wgt b k m ((ansL b m).getD a.toNat 0)) 0 by rw [lcmp_gt]; omega)] | rw [c58_50] | rw [w32_id (z := a + 1) (by omega) (by omega)])
      exact y1
    · have es : stP b k m a q = (q.1 + 1, fdP a q, q.2.2 && alk b m ((ansL b m).getD (fdP a q).toNat 0) ((ansL b m).getD a.toNat 0)) := if_neg z
      rw [es] at s3 ⊢
      have zc : ∃ c1, PlF b c1 ∧ c1 131 12 = fdP a q ∧ c1 131 10 = b2i q.2.2 ∧ Rr (Cd (d + 5)) 58 9 [some (vA 131), some (vA 33), some (vI q.1), some (vI a)] [] (s, c) = Rr (Cd (d + 5)) 58 29 [some (vA 131), some (vA 33), some (vI q.1), some (vI a)] [] (s, c1) := by
        by_cases g : q.1 = 0
        · refine ⟨u2 c 131 12 a, hF.u (by omega) _, by rw [u2_e]; unfold fdP; rw [if_pos g], by rw [u2_n (by omega)]; exact ha, ?_⟩
          rw [c58_9]
          repeat (first | rw [bnd_s] | rw [tI_m] | rw [tL_m] | rw [tA_m] | rw [tV_m] | rw [fC131 hs _ (by decide)] | rw [pC131 hs _ _ (by decide)] | rw [p5] | rw [gF_g hch.1.1 _ (by decide)] | rw [p8] | rw [if_pos (show a < ((ansL b m).length : Int) by omega)] | rw [q15] | rw [q57] | rw [if_pos (show 0 < lcmp (wgt b k m ((ansL b m).getD a.toNat 0)) 0 by rw [lcmp_gt]; omega)] | rw [if_pos g])
        · refine ⟨c, hF, by rw [hf]; unfold fdP; rw [if_neg g], ha, ?_⟩
          rw [c58_9]
          repeat (first | rw [bnd_s] | rw [tI_m] | rw [tL_m] | rw [tA_m] | rw [tV_m] | rw [fC131 hs _ (by decide)] | rw [pC131 hs _ _ (by decide)] | rw [p5] | rw [gF_g hch.1.1 _ (by decide)] | rw [p8] | rw [if_pos (show a < ((ansL b m).length : Int) by omega)] | rw [q15] | rw [q57] | rw [if_pos (show 0 < lcmp (wgt b k m ((ansL b m).getD a.toNat 0)) 0 by rw [lcmp_gt]; omega)] | rw [if_neg g])
      obtain ⟨c1, F1, f1, a1, run⟩ := zc
      have I2 := F1.inv hI
      have hc1 := I2.2.2.2.1
      have E3 : c1 143 = b 143 := funext fun i => F1 _ _ (by omega) (by omega) (by omega)
      have hch1 := chN hs hc1 (m := m.toNat) (by omega)
      have p51 := (PlayR_of hP F1).1
      have za : ∃ A, A = (q.2.2 && alk b m ((ansL b m).getD (fdP a q).toNat 0) ((ansL b m).getD a.toNat 0)) := ⟨_, rfl⟩
      obtain ⟨A, zA⟩ := za
      rw [← zA] at s3 ⊢
      obtain ⟨c', y1, y2, y3, y4⟩ := k58_9 d hI m0 m1 hP hA hw n (a + 1) (q.1 + 1, fdP a q, A) (u2 c1 131 10 (b2i A)) (by omega) (by omega) (F1.u (by omega) _) s3 (by rw [u2_n (by omega)]; exact f1) (by rw [u2_e])
      refine ⟨c', ?_, y2, y3, y4⟩
      have q1 : q.1 ≤ a := h3.1.2
      have q0 : 0 ≤ q.1 := h3.1.1
      rw [run, c58_29]
      repeat (first | rw [bnd_s] | rw [tI_m] | rw [tL_m] | rw [tA_m] | rw [tV_m] | rw [fC131 hs _ (by decide)] | rw [pC131 hs _ _ (by decide)] | rw [a1] | rw [if_b0])
      by_cases t : q.2.2 = true
      · rw [t, Bool.true_and] at zA
        have q14 := k14 (d + 4) hch1 (hAc c1 F1) (by omega) a
        rw [if_pos ⟨h0, by omega⟩] at q14
        have q14' := k14 (d + 4) hch1 (hAc c1 F1) (by omega) (fdP a q)
        rw [if_pos ⟨ff.1, by omega⟩] at q14'
        have af := ansL_at hM (i := (fdP a q).toNat) (by omega)
        have q59 : Cd (d + 5) 59 [vA 131, vI ((ansL b m).getD a.toNat 0), vI ((ansL b m).getD (fdP a q).toNat 0)] (s, c1) = some ([vI (b2i A)], (s, c1)) := by
          rw [c59 (hg := gC131 hs c1), k59_2 (d + 3) I2 m0 (by rw [E3]; exact m1) p51 ((ansL b m).getD a.toNat 0) af.1 af.2.2.1 6 0 (by omega) (by omega), zA, E3]
          rfl
        rw [t, cond_t]
        repeat (first | rw [bnd_s] | rw [tI_m] | rw [tL_m] | rw [tA_m] | rw [tV_m] | rw [fC131 hs _ (by decide)] | rw [pC131 hs _ _ (by decide)] | rw [p51] | rw [q14] | rw [f1] | rw [q14'] | rw [q59] | rw [if_b0])
        cases A
        · rw [cond_f, c58_47, c58_48, if_pos (Or.inl rfl)]
          repeat (first | rw [bnd_s] | rw [tI_m] | rw [tL_m] | rw [tA_m] | rw [tV_m] | rw [fC131 hs _ (by decide)] | rw [pC131 hs _ _ (by decide)] | rw [c58_50] | rw [w32_id (z := q.1 + 1) (by omega) (by omega)] | rw [w32_id (z := a + 1) (by omega) (by omega)])
          exact y1
        · rw [cond_t, c58_48, if_pos (Or.inr rfl)]
          repeat (first | rw [bnd_s] | rw [tI_m] | rw [tL_m] | rw [tA_m] | rw [tV_m] | rw [fC131 hs _ (by decide)] | rw [pC131 hs _ _ (by decide)] | rw [c58_50] | rw [w32_id (z := q.1 + 1) (by omega) (by omega)] | rw [w32_id (z := a + 1) (by omega) (by omega)])
          exact y1
      · rw [Bool.eq_false_iff.mpr t, Bool.false_and] at zA
        subst zA
        rw [Bool.eq_false_iff.mpr t, cond_f, c58_47, c58_48, if_pos (Or.inl rfl)]
        repeat (first | rw [bnd_s] | rw [tI_m] | rw [tL_m] | rw [tA_m] | rw [tV_m] | rw [fC131 hs _ (by decide)] | rw [pC131 hs _ _ (by decide)] | rw [c58_50] | rw [w32_id (z := q.1 + 1) (by omega) (by omega)] | rw [w32_id (z := a + 1) (by omega) (by omega)])
        exact y1
def psT (b : Nat → Nat → Int) (k : Nat) (m : Int) : Int × Int × Bool := itU (stP b k m) (ansL b m).length 0 (0, -1, true)
theorem k58 (d : Nat) {n0 : Nat} (hI : Inv s b n0) {k : Nat} {m : Int} (m0 : 0 ≤ m) (m1 : m < b 143 0) (hP : PlayR b k m) (hA : AnsC s b (40 + 5 * m.toNat) (b 143 (20 + m).toNat) (ansL b m)) (hw : b 145 (800 * k + 1) = 1 ∨ b 145 (800 * k + 1) = 2 ∨ b 145 (800 * k + 1) = 3 ∨ b 145 (800 * k + 1) = 6) : ∃ c', Cd (d + 6) 58 [vA 131, vA 33] (s, b) = some ([vI (psT b k m).1], (s, c')) ∧ PlF b c' ∧ c' 131 12 = (psT b k m).2.1 ∧ c' 131 10 = b2i (psT b k m).2.2 := by
  have hs := hI.1.l
  obtain ⟨c1, r1, f1, g1⟩ := k47 (d + 4) (c := b) hs
  obtain ⟨c', y1, y2, y3, y4⟩ := k58_9 d hI m0 m1 hP hA hw (ansL b m).length 0 (0, -1, true) (u2 c1 131 10 1) (by omega) (by omega) (f1.u (by omega) _) ⟨by decide, fun _ => rfl, fun w => absurd w (by decide)⟩ (by rw [u2_n (by omega)]; exact g1 12 (by omega) (by omega)) (by rw [u2_e]; rfl)
  refine ⟨c', ?_, y2, y3, y4⟩
  rw [c58 (hg := gC131 hs b)]
  repeat (first | rw [bnd_s] | rw [tI_m] | rw [tL_m] | rw [tA_m] | rw [tV_m] | rw [r1] | rw [fC131 hs _ (by decide)] | rw [pC131 hs _ _ (by decide)])
  exact y1
theorem m252_2 (d : Nat) (hs : SpL s) (hm : MS b) {m : Int} (hM : MapOK b m) {x : Int} (x0 : 0 ≤ x) (x1 : x < 2187) (y : Int) : ∀ (n : Nat) (v : Int), 0 ≤ v → v + n = 6 → Rr (Cd (d + 2)) 252 2 [some (vA 142), some (vI m), some (vI x), some (vI y), some (vI v)] [] (s, b) = some ([vI (b2i (anyU (fun v => decide (swF (b 143 (20 + m).toNat).toNat v x = y)) n v))], (s, b))
  | 0, v, h0, h => by rw [c252_2, if_neg (by omega)]; rfl
  | n + 1, v, h0, h => by
    have ih := m252_2 d hs hm hM x0 x1 y n (v + 1) (by omega) (by omega)
    have k2 := hM.2.1.1
    have q := m185 d hs hm hM x0 x1 h0 (show v < 6 by omega)
    rw [swH_0 (by omega) x0] at q
    simp only [anyU]
    rw [c252_2, if_pos (by omega)]
    repeat (first | rw [bnd_s] | rw [tI_m] | rw [tL_m] | rw [tA_m] | rw [tV_m] | rw [q])
    by_cases e : swF (b 143 (20 + m).toNat).toNat v x = y
    · rw [if_pos e, decide_eq_true e, Bool.true_or]; rfl
    · rw [if_neg e, decide_eq_false e, Bool.false_or, w32_id (by omega) (by omega), ih]
theorem m253_29 (d : Nat) (hs : SpL s) {k : Nat} {m : Int} (hP : MP b k m) (hA : AnsAt b (ansL b m)) (o1 : Option AV) (v : Int) : ∀ (n : Nat) (a : Int) (q : Int × Int × Bool), 0 ≤ a → a + n = (ansL b m).length → P3 q a → Rr (Cd (d + 3)) 253 29 [some (vA 142), o1, some (vI m), some (vI v), some (vI q.1), some (vI q.2.1), some (vI (b2i q.2.2)), some (vI a)] [] (s, b) = some ([vI (psA v (itU (stP b k m) n a q))], (s, b))
  | 0, a, q, h0, h, h3 => by
    have e6 := hA.1
    rw [c253_29, itU, psA]
    repeat (first | rw [bnd_s] | rw [tI_m] | rw [tL_m] | rw [tA_m] | rw [tV_m] | rw [fC142 hs _ (by decide)] | rw [pC142 hs _ _ (by decide)] | rw [e6] | rw [if_neg (show ¬ a < ((ansL b m).length : Int) by omega)])
    by_cases v0 : v = 0
    · rw [if_pos v0, if_pos v0, c253_85]
    · rw [if_neg v0, if_neg v0]
      by_cases v1 : v = 1
      · rw [if_pos v1, if_pos v1, if_b0]
        cases q.2.2
        · rw [cond_f, c253_82, c253_85]; rfl
        · rw [cond_t, Bool.true_and]
          by_cases g : 0 < q.1
          · rw [if_pos g, c253_85, decide_eq_true g]; rfl
          · rw [if_neg g, c253_82, c253_85, decide_eq_false g]; rfl
      · rw [if_neg v1, if_neg v1, c253_85]
  | n + 1, a, q, h0, h, h3 => by
    have hm := hP.1.1
    have hM := hP.1.2.2.2.2.1
    have e6 := hA.1
    have ll := ansL_len hM
    have al := ansL_at hM (i := a.toNat) (by omega)
    have e8 : b 148 a.toNat = (ansL b m).getD a.toNat 0 := hA.2 a.toNat (by omega)
    have q50 := m250 d hs hP al.1 al.2.2.1
    have ff := P3_f h3 h0
    have s3 := P3_s (b := b) (k := k) (m := m) h3 h0
    have q1 : q.1 ≤ a := h3.1.2
    have q0 : 0 ≤ q.1 := h3.1.1
    simp only [itU]
    rw [c253_29]
    repeat (first | rw [bnd_s] | rw [tI_m] | rw [tL_m] | rw [tA_m] | rw [tV_m] | rw [fC142 hs _ (by decide)] | rw [pC142 hs _ _ (by decide)] | rw [e6] | rw [if_pos (show a < ((ansL b m).length : Int) by omega)] | rw [MS_5 hm] | rw [aC148 hs _ h0 (by omega)] | rw [e8] | rw [q50])
    by_cases z : wgt b k m ((ansL b m).getD a.toNat 0) = 0
    · have es : stP b k m a q = q := if_pos z
      rw [es] at s3 ⊢
      rw [if_pos ((lcmp_eq _ _).mpr z), c253_67, w32_id (z := a + 1) (by omega) (by omega)]
      exact m253_29 d hs hP hA o1 v n (a + 1) q (by omega) (by omega) s3
    · have es : stP b k m a q = (q.1 + 1, fdP a q, q.2.2 && alk b m ((ansL b m).getD (fdP a q).toNat 0) ((ansL b m).getD a.toNat 0)) := if_neg z
      rw [es] at s3 ⊢
      have za : ∃ A, A = (q.2.2 && alk b m ((ansL b m).getD (fdP a q).toNat 0) ((ansL b m).getD a.toNat 0)) := ⟨_, rfl⟩
      obtain ⟨A, zA⟩ := za
      rw [← zA] at s3 ⊢
      have ih := m253_29 d hs hP hA o1 v n (a + 1) (q.1 + 1, fdP a q, A) (by omega) (by omega) s3
      rw [if_neg (fun w => z ((lcmp_eq _ _).mp w))]
      have e48 : (if q.2.1 < 0 then Rr (Cd (d + 3)) 253 48 [some (vA 142), o1, some (vI m), some (vI v), some (vI q.1), some (vI a), some (vI (b2i q.2.2)), some (vI a)] [] (s, b) else Rr (Cd (d + 3)) 253 48 [some (vA 142), o1, some (vI m), some (vI v), some (vI q.1), some (vI q.2.1), some (vI (b2i q.2.2)), some (vI a)] [] (s, b)) = Rr (Cd (d + 3)) 253 48 [some (vA 142), o1, some (vI m), some (vI v), some (vI q.1), some (vI (fdP a q)), some (vI (b2i q.2.2)), some (vI a)] [] (s, b) := by
        unfold fdP
        by_cases g : q.1 = 0
        · rw [if_pos (by rw [h3.2.1 g]; decide), if_pos g]
        · rw [if_neg (by have := (h3.2.2 (by omega)).1; omega), if_neg g]
      rw [e48, c253_48, if_b0]
      have af := ansL_at hM (i := (fdP a q).toNat) (by omega)
      have e8' : b 148 (fdP a q).toNat = (ansL b m).getD (fdP a q).toNat 0 := hA.2 (fdP a q).toNat (by omega)
      by_cases t : q.2.2 = true
      · rw [t, Bool.true_and] at zA
        have q52 : Cd (d + 3) 252 [vA 142, vI m, vI ((ansL b m).getD (fdP a q).toNat 0), vI ((ansL b m).getD a.toNat 0)] (s, b) = some ([vI (b2i A)], (s, b)) := by
          rw [c252 (hg := gC142 hs b), m252_2 d hs hm hM af.1 af.2.2.1 ((ansL b m).getD a.toNat 0) 6 0 (by omega) (by omega), zA]
          rfl
        rw [t, cond_t]
        repeat (first | rw [bnd_s] | rw [tI_m] | rw [tL_m] | rw [tA_m] | rw [tV_m] | rw [fC142 hs _ (by decide)] | rw [pC142 hs _ _ (by decide)] | rw [MS_5 hm] | rw [aC148 hs _ ff.1 (by omega)] | rw [aC148 hs _ h0 (by omega)] | rw [e8] | rw [e8'] | rw [q52] | rw [if_b0])
        cases A
        · rw [cond_f, c253_65, c253_66, c253_67, w32_id (z := q.1 + 1) (by omega) (by omega), w32_id (z := a + 1) (by omega) (by omega)]
          exact ih
        · rw [cond_t, c253_66, c253_67, w32_id (z := q.1 + 1) (by omega) (by omega), w32_id (z := a + 1) (by omega) (by omega)]
          exact ih
      · rw [Bool.eq_false_iff.mpr t, Bool.false_and] at zA
        subst zA
        rw [Bool.eq_false_iff.mpr t, cond_f, c253_65, c253_66, c253_67, w32_id (z := q.1 + 1) (by omega) (by omega), w32_id (z := a + 1) (by omega) (by omega)]
        exact ih
end
theorem stP_of {b c : Nat → Nat → Int} (e3 : c 143 = b 143) (e5 : c 145 = b 145) (k : Nat) (m : Int) : stP c k m = stP b k m := by
  funext a q
  unfold stP alk
  rw [wgt_of e3 e5, ansL_of e3, e3]
theorem op_possible (k m v : Int) : Op 134 253 [vI k, vI m, vI v] := by
  intro s c n hI
  by_cases hkm : ((0 ≤ k ∧ k < c 143 1) ∧ (0 ≤ m ∧ m < c 143 0)) ∧ (0 ≤ v ∧ v ≤ 2)
  case neg =>
    have hs := hI.1.l
    have hc := hI.2.2.2.1
    have hm := hI.2.2.1
    obtain ⟨h7, a7, a8⟩ := hI.2.2.2.2.1.2.2.2.1
    have hn := hI.nM
    have n2 := hn.2
    refine ⟨vI (-1), s, s, c, c, n, ?_, ?_, by omega, hI⟩
    · rw [c134 (hg := gC29 hs c)]
      by_cases w1 : v < 0
      · rw [if_pos w1, c134_10]
      · rw [if_neg w1]
        by_cases w2 : 2 < v
        · rw [if_pos w2, c134_10]
        · rw [if_neg w2]
          rw [k152_n _ hI (fun w => hkm ⟨w, ⟨by omega, by omega⟩⟩)]
          repeat (first | rw [bnd_s] | rw [tI_m] | rw [tL_m] | rw [tA_m] | rw [tV_m] | rw [if_pos (show (0 : Int) = 0 from rfl)] | rw [c134_10])
    · rw [c253 (hg := gC142 hs c)]
      repeat (first | rw [bnd_s] | rw [tI_m] | rw [tL_m] | rw [tA_m] | rw [tV_m] | rw [m221 _ hI] | rw [if_b0])
      by_cases g : 0 ≤ k ∧ k < c 143 1
      · rw [inR_t (by omega), cond_t]
        repeat (first | rw [bnd_s] | rw [tI_m] | rw [tL_m] | rw [tA_m] | rw [tV_m] | rw [m173 _ hs hm hn] | rw [if_b0])
        by_cases g2 : 0 ≤ m ∧ m < c 143 0
        · rw [inR_t (by omega), cond_t]
          repeat (first | rw [bnd_s] | rw [tI_m] | rw [tL_m] | rw [tA_m] | rw [tV_m] | rw [m172] | rw [if_b0])
          rw [inR_f (fun w => hkm ⟨⟨g, g2⟩, w⟩), cond_f, c253_13]
        · rw [inR_f (by omega), cond_f, c253_13]
      · rw [inR_f (by omega), cond_f, c253_13]
  obtain ⟨hkm, hv⟩ := hkm
  obtain ⟨s1, c1, n1, r1, hn1, hI1, e3, e5, hA, hP⟩ := k152 994 hI hkm.1 hkm.2
  have hs := hI1.1.l
  have hc := hI1.2.2.2.1
  have hsg := hI.1.l
  rw [← e3] at hkm
  obtain ⟨⟨k0, k1⟩, m0, m1⟩ := hkm
  obtain ⟨M1, M2, q2, fS, E3, E5, hm2, hM2, ha2, kk, hco, q4⟩ := both hI1 k0 k1 m0 m1
  have hM := hI1.mok m m0 m1
  have p8 := hP.2.2.2.1
  have Inv2 : Inv s1 (mSet c1 k.toNat) n1 := Inv_M hI1 fS (by decide)
  have hw := (hI1.sh k0 k1).2.1
  obtain ⟨c2, x1, xf, x2, x3⟩ := k58 992 hI1 m0 m1 hP hA hw
  have hI2 := xf.inv hI1
  have F3 : c2 143 = c1 143 := funext fun i => xf _ _ (by omega) (by omega) (by omega)
  have F5 : c2 145 = c1 145 := funext fun i => xf _ _ (by omega) (by omega) (by omega)
  have hc2 := hI2.2.2.2.1
  obtain ⟨M1, M2, q2, fS, E3, E5, hm2, hM2, -, -, -, q4⟩ := both hI2 k0 (by rw [F3]; exact k1) m0 (by rw [F3]; exact m1)
  have P2 := MP_set hI2 k0 (by rw [F3]; exact k1) m0 (by rw [F3]; exact m1)
  obtain ⟨c3, y1, yf, yA⟩ := m183 995 hs hm2 hM2
  obtain ⟨P3', b3', b5'⟩ := P2.mv yf (by decide)
  have B3 : c3 143 = c1 143 := b3'.trans (E3.trans F3)
  have B5 : c3 145 = c1 145 := b5'.trans (E5.trans F5)
  rw [← ansL_of b3'] at yA
  have w1 := m253_29 995 hs P3' yA (some (vI k)) v (ansL c3 m).length 0 (0, -1, true) (by omega) (by omega) ⟨by decide, fun _ => rfl, fun w => absurd w (by decide)⟩
  rw [stP_of B3 B5, ansL_of B3] at w1
  have F4 : Fm [148] [6, 25, 26, 27, 28] c2 c3 := (fS.mono (by decide) (by decide)).tr (yf.mono (by decide) (by decide))
  have hI3 := Inv_M hI2 F4 (by decide)
  have z : ∃ T, T = psT c1 k.toNat m := ⟨_, rfl⟩
  obtain ⟨T, zT⟩ := z
  rw [← zT] at x1 x2 x3
  rw [show itU (stP c1 k.toNat m) (ansL c1 m).length 0 (0, -1, true) = T from zT.symm] at w1
  refine ⟨vI (psA v T), s1, s1, c2, c3, n1, ?_, ?_, by omega, hI3⟩
  · rw [c134 (hg := gC29 hsg c), psA]
    repeat (first | rw [bnd_s] | rw [tI_m] | rw [tL_m] | rw [tA_m] | rw [tV_m] | rw [if_neg (show ¬ v < 0 by omega)] | rw [if_neg (show ¬ 2 < v by omega)] | rw [r1] | rw [if_neg (show ¬ (1 : Int) = 0 by decide)] | rw [fC29 hs _ (by decide)] | rw [pC29 hs _ _ (by decide)] | rw [fC30 hs _ (by decide)] | rw [pC30 hs _ _ (by decide)] | rw [CS_29_3 hc] | rw [CS_29_0 hc] | rw [CS_30_2 hc] | rw [x1])
    by_cases v0 : v = 0
    · rw [if_pos v0, if_pos v0]
    · rw [if_neg v0, if_neg v0]
      by_cases v1 : v = 1
      · rw [if_pos v1, if_pos v1]
        by_cases g : 0 < T.1
        · rw [if_pos g, decide_eq_true g, Bool.and_true]
          repeat (first | rw [bnd_s] | rw [tI_m] | rw [tL_m] | rw [tA_m] | rw [tV_m] | rw [fC29 hs _ (by decide)] | rw [pC29 hs _ _ (by decide)] | rw [fC131 hs _ (by decide)] | rw [pC131 hs _ _ (by decide)] | rw [CS_29_3 hc2] | rw [x3] | rw [if_b0])
          cases T.2.2
          · rw [cond_f, c134_31, c134_32]
            rw [show (0 : Int) = b2i false from rfl]
            repeat (first | rw [bnd_s] | rw [tI_m] | rw [tL_m] | rw [tA_m] | rw [tV_m] | rw [k159])
          · rw [cond_t, c134_32]
            rw [show (1 : Int) = b2i true from rfl]
            repeat (first | rw [bnd_s] | rw [tI_m] | rw [tL_m] | rw [tA_m] | rw [tV_m] | rw [k159])
        · rw [if_neg g, decide_eq_false g, Bool.and_false, c134_31, c134_32]
          have q := fun hp => k159 997 false hp
          rw [b2i_f] at q
          repeat (first | rw [bnd_s] | rw [tI_m] | rw [tL_m] | rw [tA_m] | rw [tV_m] | rw [q])
          rfl
      · rw [if_neg v1, if_neg v1]
        repeat (first | rw [bnd_s] | rw [tI_m] | rw [tL_m] | rw [tA_m] | rw [tV_m] | rw [fC29 hs _ (by decide)] | rw [pC29 hs _ _ (by decide)] | rw [fC131 hs _ (by decide)] | rw [pC131 hs _ _ (by decide)] | rw [CS_29_3 hc2] | rw [x2])
  · rw [c253 (hg := gC142 hs c2)]
    repeat (first | rw [bnd_s] | rw [tI_m] | rw [tL_m] | rw [tA_m] | rw [tV_m] | rw [M1] | rw [M2] | rw [if_b0] | rw [cond_t] | rw [m172] | rw [inR_t (show 0 ≤ v ∧ v ≤ 2 from hv)] | rw [q2] | rw [y1])
    exact w1
