/-! tells, asked -/
theorem sumU_at {f : Int → Int} {v : Int} : ∀ (n : Nat) (j : Int), sumU (fun x => if x = v then f x else 0) n j = if j ≤ v ∧ v < j + n then f v else 0
  | 0, j => by rw [if_neg (by omega)]; rfl
  | n + 1, j => by
    simp only [sumU]
    rw [sumU_at n (j + 1)]
    by_cases g : j = v
    · rw [if_pos g, if_neg (by omega), if_pos (by omega), g]; omega
    · rw [if_neg g]
      by_cases h : j + 1 ≤ v ∧ v < j + 1 + n
      · rw [if_pos h, if_pos (by omega)]; omega
      · rw [if_neg h, if_neg (by omega)]; rfl
section
variable {b : Nat → Nat → Int} {k : Nat} {m : Int}
theorem dM_1 (hw : b 145 (800 * k + 1) = 1 ∨ b 145 (800 * k + 1) = 2 ∨ b 145 (800 * k + 1) = 3 ∨ b 145 (800 * k + 1) = 6) (i a : Int) : dM b k m i (-1) a = dP b k m i i a := by
  have e : ∀ r x, hT b k m i (-1) r x = sumU (fun v => b2i (decide (oE (pnt (b 143 (20 + m).toNat) r (asX b m (b 145 (800 * k + 3)) i)) (pnt (b 143 (20 + m).toNat) r (asY b m (b 145 (800 * k + 3)) i)) (drS (b 145 (800 * k + 1)) v) = x))) (b 145 (800 * k + 1)).toNat 0 := fun r x => sumU_cg _ _ (fun v _ _ => by unfold hC; exact if_pos rfl)
  unfold dM
  rw [anyU_cg (g := fun x => decide (sumU (fun v => b2i (decide (oE (pnt (b 143 (20 + m).toNat) ((ansL b m).getD 0 0) (asX b m (b 145 (800 * k + 3)) i)) (pnt (b 143 (20 + m).toNat) ((ansL b m).getD 0 0) (asY b m (b 145 (800 * k + 3)) i)) (drS (b 145 (800 * k + 1)) v) = x))) (b 145 (800 * k + 1)).toNat 0 ≠ sumU (fun v => b2i (decide (oE (pnt (b 143 (20 + m).toNat) ((ansL b m).getD a.toNat 0) (asX b m (b 145 (800 * k + 3)) i)) (pnt (b 143 (20 + m).toNat) ((ansL b m).getD a.toNat 0) (asY b m (b 145 (800 * k + 3)) i)) (drS (b 145 (800 * k + 1)) v) = x))) (b 145 (800 * k + 1)).toNat 0)) _ _ (fun x _ _ => by rw [e, e])]
  exact tl_1 (pnt_b _ _ _) (pnt_b _ _ _) (pnt_b _ _ _) (pnt_b _ _ _) hw
theorem dM_2 (hw : b 145 (800 * k + 1) = 1 ∨ b 145 (800 * k + 1) = 2 ∨ b 145 (800 * k + 1) = 3 ∨ b 145 (800 * k + 1) = 6) (ho : b 145 (800 * k + 2) ≠ 0) {i j : Int} (hj : j ≠ -1) (a : Int) : dM b k m i j a = dP b k m i j a := by
  have e : ∀ r x, hT b k m i j r x = sumU (fun v => b2i (decide (9 * oE (pnt (b 143 (20 + m).toNat) r (asX b m (b 145 (800 * k + 3)) i)) (pnt (b 143 (20 + m).toNat) r (asY b m (b 145 (800 * k + 3)) i)) (drS (b 145 (800 * k + 1)) v) + oE (pnt (b 143 (20 + m).toNat) r (asX b m (b 145 (800 * k + 3)) j)) (pnt (b 143 (20 + m).toNat) r (asY b m (b 145 (800 * k + 3)) j)) (drS (b 145 (800 * k + 1)) v) = x))) (b 145 (800 * k + 1)).toNat 0 := fun r x => sumU_cg _ _ (fun v v0 v1 => by
    have : ∀ v', (if b 145 (800 * k + 2) = 0 ∨ v' = v then b2i (decide (9 * opR b k m i r (drS (b 145 (800 * k + 1)) v) + opR b k m j r (drS (b 145 (800 * k + 1)) v') = x)) else 0) = (if v' = v then b2i (decide (9 * opR b k m i r (drS (b 145 (800 * k + 1)) v) + opR b k m j r (drS (b 145 (800 * k + 1)) v') = x)) else 0) := fun v' => by
      by_cases g : v' = v
      · rw [if_pos g, if_pos (Or.inr g)]
      · rw [if_neg g, if_neg (fun w => w.elim ho g)]
    unfold hC
    rw [if_neg hj, sumU_cg _ _ (fun v' _ _ => this v'), sumU_at (f := fun v' => b2i (decide (9 * opR b k m i r (drS (b 145 (800 * k + 1)) v) + opR b k m j r (drS (b 145 (800 * k + 1)) v') = x))), if_pos ⟨v0, v1⟩]
    rfl)
  unfold dM
  rw [anyU_cg (g := fun x => decide (sumU (fun v => b2i (decide (9 * oE (pnt (b 143 (20 + m).toNat) ((ansL b m).getD 0 0) (asX b m (b 145 (800 * k + 3)) i)) (pnt (b 143 (20 + m).toNat) ((ansL b m).getD 0 0) (asY b m (b 145 (800 * k + 3)) i)) (drS (b 145 (800 * k + 1)) v) + oE (pnt (b 143 (20 + m).toNat) ((ansL b m).getD 0 0) (asX b m (b 145 (800 * k + 3)) j)) (pnt (b 143 (20 + m).toNat) ((ansL b m).getD 0 0) (asY b m (b 145 (800 * k + 3)) j)) (drS (b 145 (800 * k + 1)) v) = x))) (b 145 (800 * k + 1)).toNat 0 ≠ sumU (fun v => b2i (decide (9 * oE (pnt (b 143 (20 + m).toNat) ((ansL b m).getD a.toNat 0) (asX b m (b 145 (800 * k + 3)) i)) (pnt (b 143 (20 + m).toNat) ((ansL b m).getD a.toNat 0) (asY b m (b 145 (800 * k + 3)) i)) (drS (b 145 (800 * k + 1)) v) + oE (pnt (b 143 (20 + m).toNat) ((ansL b m).getD a.toNat 0) (asX b m (b 145 (800 * k + 3)) j)) (pnt (b 143 (20 + m).toNat) ((ansL b m).getD a.toNat 0) (asY b m (b 145 (800 * k + 3)) j)) (drS (b 145 (800 * k + 1)) v) = x))) (b 145 (800 * k + 1)).toNat 0)) _ _ (fun x _ _ => by rw [e, e])]
  exact tl_2 (pnt_b _ _ _) (pnt_b _ _ _) (pnt_b _ _ _) (pnt_b _ _ _) (pnt_b _ _ _) (pnt_b _ _ _) (pnt_b _ _ _) (pnt_b _ _ _) hw
theorem dM_3 (hw : b 145 (800 * k + 1) = 1 ∨ b 145 (800 * k + 1) = 2 ∨ b 145 (800 * k + 1) = 3 ∨ b 145 (800 * k + 1) = 6) (ho : b 145 (800 * k + 2) = 0) {i j : Int} (hj : j ≠ -1) (a : Int) : dM b k m i j a = (dP b k m i i a || dP b k m j j a) := by
  have e : ∀ r x, hT b k m i j r x = sumU (fun v => sumU (fun v' => b2i (decide (9 * oE (pnt (b 143 (20 + m).toNat) r (asX b m (b 145 (800 * k + 3)) i)) (pnt (b 143 (20 + m).toNat) r (asY b m (b 145 (800 * k + 3)) i)) (drS (b 145 (800 * k + 1)) v) + oE (pnt (b 143 (20 + m).toNat) r (asX b m (b 145 (800 * k + 3)) j)) (pnt (b 143 (20 + m).toNat) r (asY b m (b 145 (800 * k + 3)) j)) (drS (b 145 (800 * k + 1)) v') = x))) (b 145 (800 * k + 1)).toNat 0) (b 145 (800 * k + 1)).toNat 0 := fun r x => sumU_cg _ _ (fun v v0 v1 => by
    unfold hC
    rw [if_neg hj]
    exact sumU_cg _ _ (fun v' _ _ => if_pos (Or.inl ho)))
  unfold dM
  rw [anyU_cg (g := fun x => decide (sumU (fun v => sumU (fun v' => b2i (decide (9 * oE (pnt (b 143 (20 + m).toNat) ((ansL b m).getD 0 0) (asX b m (b 145 (800 * k + 3)) i)) (pnt (b 143 (20 + m).toNat) ((ansL b m).getD 0 0) (asY b m (b 145 (800 * k + 3)) i)) (drS (b 145 (800 * k + 1)) v) + oE (pnt (b 143 (20 + m).toNat) ((ansL b m).getD 0 0) (asX b m (b 145 (800 * k + 3)) j)) (pnt (b 143 (20 + m).toNat) ((ansL b m).getD 0 0) (asY b m (b 145 (800 * k + 3)) j)) (drS (b 145 (800 * k + 1)) v') = x))) (b 145 (800 * k + 1)).toNat 0) (b 145 (800 * k + 1)).toNat 0 ≠ sumU (fun v => sumU (fun v' => b2i (decide (9 * oE (pnt (b 143 (20 + m).toNat) ((ansL b m).getD a.toNat 0) (asX b m (b 145 (800 * k + 3)) i)) (pnt (b 143 (20 + m).toNat) ((ansL b m).getD a.toNat 0) (asY b m (b 145 (800 * k + 3)) i)) (drS (b 145 (800 * k + 1)) v) + oE (pnt (b 143 (20 + m).toNat) ((ansL b m).getD a.toNat 0) (asX b m (b 145 (800 * k + 3)) j)) (pnt (b 143 (20 + m).toNat) ((ansL b m).getD a.toNat 0) (asY b m (b 145 (800 * k + 3)) j)) (drS (b 145 (800 * k + 1)) v') = x))) (b 145 (800 * k + 1)).toNat 0) (b 145 (800 * k + 1)).toNat 0)) _ _ (fun x _ _ => by rw [e, e])]
  exact tl_3 (pnt_b _ _ _) (pnt_b _ _ _) (pnt_b _ _ _) (pnt_b _ _ _) (pnt_b _ _ _) (pnt_b _ _ _) (pnt_b _ _ _) (pnt_b _ _ _) hw
theorem f1M_e (hw : b 145 (800 * k + 1) = 1 ∨ b 145 (800 * k + 1) = 2 ∨ b 145 (800 * k + 1) = 3 ∨ b 145 (800 * k + 1) = 6) (i : Int) : f1M b k m i = T1 b k m 1 i := by
  unfold f1M T1 FF
  rw [fdU_map]
  refine fdU_cg _ _ (fun a _ _ => ?_)
  unfold fA fP
  rw [dM_1 hw]
  by_cases g : dP b k m i i a = true
  · rw [if_pos g, if_pos g]; rfl
  · rw [if_neg g, if_neg g]; rfl
theorem f2M_e (hw : b 145 (800 * k + 1) = 1 ∨ b 145 (800 * k + 1) = 2 ∨ b 145 (800 * k + 1) = 3 ∨ b 145 (800 * k + 1) = 6) (ho : b 145 (800 * k + 2) ≠ 0) {i j : Int} (hj : j ≠ -1) : f2M b k m i j = T2 b k m i j := by
  unfold f2M T2 FF
  rw [fdU_map]
  refine fdU_cg _ _ (fun a _ _ => ?_)
  unfold fA fP
  rw [dM_2 hw ho hj]
  by_cases g : dP b k m i j a = true
  · rw [if_pos g, if_pos g]; rfl
  · rw [if_neg g, if_neg g]; rfl
theorem FF_0 {i j : Int} (h : FF b k m i j = none) : ∀ a : Int, 0 ≤ a → a < (ansL b m).length → dP b k m i j a = false := fun a a0 a1 => by
  have := (fdU_none _ _).mp h a a0 (by omega)
  unfold fP at this
  by_cases g : dP b k m i j a = true
  · rw [if_pos g] at this; cases this
  · exact Bool.eq_false_iff.mpr g
/-- of nights drawn anew two tell just if one of them does -/
theorem f2M_n (hw : b 145 (800 * k + 1) = 1 ∨ b 145 (800 * k + 1) = 2 ∨ b 145 (800 * k + 1) = 3 ∨ b 145 (800 * k + 1) = 6) (ho : b 145 (800 * k + 2) = 0) {i j : Int} (hj : j ≠ -1) (h : FF b k m i i = none) : f2M b k m i j = (FF b k m j j).map (fun a => (i, j, a)) := by
  unfold f2M
  rw [FF, fdU_map]
  refine fdU_cg _ _ (fun a a0 a1 => ?_)
  unfold fA fP
  rw [dM_3 hw ho hj, FF_0 h a a0 (by omega), Bool.false_or]
  by_cases g : dP b k m j j a = true
  · rw [if_pos g, if_pos g]; rfl
  · rw [if_neg g, if_neg g]; rfl
theorem f2M_s (hw : b 145 (800 * k + 1) = 1 ∨ b 145 (800 * k + 1) = 2 ∨ b 145 (800 * k + 1) = 3 ∨ b 145 (800 * k + 1) = 6) (ho : b 145 (800 * k + 2) = 0) {i : Int} (hj : i ≠ -1) : f2M b k m i i = (FF b k m i i).map (fun a => (i, i, a)) := by
  unfold f2M
  rw [FF, fdU_map]
  refine fdU_cg _ _ (fun a a0 a1 => ?_)
  unfold fA fP
  rw [dM_3 hw ho hj, Bool.or_self]
  by_cases g : dP b k m i i a = true
  · rw [if_pos g, if_pos g]; rfl
  · rw [if_neg g, if_neg g]; rfl
theorem fM_TT (hw : b 145 (800 * k + 1) = 1 ∨ b 145 (800 * k + 1) = 2 ∨ b 145 (800 * k + 1) = 3 ∨ b 145 (800 * k + 1) = 6) {q : Int} (hq : q = 1 ∨ q = 2) : fdU (fM b k m q) (asN (b 145 (800 * k + 3)) (b 143 (20 + m).toNat) (b 143 (24 + m).toNat)).toNat 0 = TT b k m q := by
  rcases hq with e | e <;> subst e
  · unfold TT
    rw [if_neg (fun w => absurd w.1 (by decide))]
    exact fdU_cg _ _ (fun i _ _ => by unfold fM; rw [if_pos rfl, f1M_e hw])
  · unfold TT
    by_cases g : b 145 (800 * k + 2) = 0
    · rw [if_neg (fun w => w.2 g)]
      have eM : ∀ i, fM b k m 2 i = fdU (f2M b k m i) (asN (b 145 (800 * k + 3)) (b 143 (20 + m).toNat) (b 143 (24 + m).toNat)).toNat 0 := fun i => by unfold fM; rw [if_neg (by decide)]
      rw [fdU_cg _ _ (fun i _ _ => eM i)]
      have e1 : ∀ i, T1 b k m 2 i = (FF b k m i i).map (fun a => (0, i, a)) := fun i => by unfold T1; rw [if_pos rfl, if_pos rfl]
      rw [fdU_cg (f := T1 b k m 2) _ _ (fun i _ _ => e1 i)]
      generalize (asN (b 145 (800 * k + 3)) (b 143 (20 + m).toNat) (b 143 (24 + m).toNat)).toNat = N
      match N with
      | 0 => rfl
      | N + 1 =>
        cases e : FF b k m 0 0 with
        | some a =>
          have l : fdU (f2M b k m 0) (N + 1) 0 = some (0, 0, a) := by
            simp only [fdU]; rw [f2M_s hw g (by decide), e]; rfl
          have r : fdU (fun i => (FF b k m i i).map (fun a => ((0 : Int), i, a))) (N + 1) 0 = some (0, 0, a) := by
            simp only [fdU]; rw [e]; rfl
          rw [r, fdU, l]
        | none =>
          have l : fdU (f2M b k m 0) (N + 1) 0 = fdU (fun i => (FF b k m i i).map (fun a => ((0 : Int), i, a))) (N + 1) 0 := fdU_cg _ _ (fun j j0 _ => f2M_n hw g (by omega) e)
          cases h : fdU (fun i => (FF b k m i i).map (fun a => ((0 : Int), i, a))) (N + 1) 0 with
          | some t => rw [fdU, l, h]
          | none =>
            have hn : ∀ j, 0 ≤ j → j < 0 + ((N + 1 : Nat) : Int) → FF b k m j j = none := fun j j0 j1 => by
              have := (fdU_none _ _).mp h j j0 j1
              cases q : FF b k m j j with
              | none => rfl
              | some a => rw [q] at this; cases this
            refine (fdU_none _ _).mpr (fun i i0 i1 => (fdU_none _ _).mpr (fun j j0 j1 => ?_))
            rw [f2M_n hw g (by omega) (hn i i0 i1), hn j j0 j1]; rfl
    · rw [if_pos ⟨rfl, g⟩]
      refine fdU_cg _ _ (fun i _ _ => ?_)
      unfold fM
      rw [if_neg (by decide)]
      exact fdU_cg _ _ (fun j j0 _ => f2M_e hw g (by omega))
theorem TT_of {c : Nat → Nat → Int} (e3 : c 143 = b 143) (e5 : c 145 = b 145) (q : Int) : TT c k m q = TT b k m q := by
  have h1 : ∀ i r, oR c k m i r = oR b k m i r := fun i r => by unfold oR; rw [e3, e5, asX_of e3, asY_of e3]
  have h2 : ∀ i j a, lwA c k m i j a = lwA b k m i j a := fun i j a => by unfold lwA; rw [e5, ansL_of e3, h1, h1]
  have h3 : ∀ i j, fP c k m i j = fP b k m i j := fun i j => funext fun a => by unfold fP dP; rw [h2, h2]
  have h4 : ∀ i j, FF c k m i j = FF b k m i j := fun i j => by unfold FF; rw [h3, ansL_of e3]
  have h5 : T1 c k m q = T1 b k m q := funext fun i => by unfold T1; rw [h4]
  have h6 : ∀ i, T2 c k m i = T2 b k m i := fun i => funext fun j => by unfold T2; rw [h4]
  have h7 : (fun i => fdU (T2 c k m i) (asN (b 145 (800 * k + 3)) (b 143 (20 + m).toNat) (b 143 (24 + m).toNat)).toNat 0) = fun i => fdU (T2 b k m i) (asN (b 145 (800 * k + 3)) (b 143 (20 + m).toNat) (b 143 (24 + m).toNat)).toNat 0 := funext fun i => by rw [h6]
  unfold TT
  rw [e3, e5, h5, h7]
end
theorem op_tells (k m q v : Int) : Op 131 246 [vI k, vI m, vI q, vI v] := by
  intro s c n hI
  by_cases hkm : ((0 ≤ k ∧ k < c 143 1) ∧ (0 ≤ m ∧ m < c 143 0)) ∧ (1 ≤ q ∧ q ≤ 2) ∧ (0 ≤ v ∧ v ≤ 3)
  case neg =>
    have hs := hI.1.l
    have hc := hI.2.2.2.1
    have hm := hI.2.2.1
    obtain ⟨h7, a7, a8⟩ := hI.2.2.2.2.1.2.2.2.1
    have hn := hI.nM
    have n2 := hn.2
    refine ⟨vI (-1), s, s, c, c, n, ?_, ?_, by omega, hI⟩
    · rw [c131 (hg := gC29 hs c)]
      by_cases w1 : q < 1
      · rw [if_pos w1, c131_16]
      · rw [if_neg w1]
        by_cases w2 : 2 < q
        · rw [if_pos w2, c131_16]
        · rw [if_neg w2]
          by_cases w3 : v < 0
          · rw [if_pos w3, c131_16]
          · rw [if_neg w3]
            by_cases w4 : 3 < v
            · rw [if_pos w4, c131_16]
            · rw [if_neg w4]
              rw [k152_n _ hI (fun w => hkm ⟨w, ⟨by omega, by omega⟩, ⟨by omega, by omega⟩⟩)]
              repeat (first | rw [bnd_s] | rw [tI_m] | rw [tL_m] | rw [tA_m] | rw [tV_m] | rw [if_pos (show (0 : Int) = 0 from rfl)] | rw [c131_16])
    · rw [c246 (hg := gC142 hs c)]
      repeat (first | rw [bnd_s] | rw [tI_m] | rw [tL_m] | rw [tA_m] | rw [tV_m] | rw [m221 _ hI] | rw [if_b0])
      by_cases g : 0 ≤ k ∧ k < c 143 1
      · rw [inR_t (by omega), cond_t]
        repeat (first | rw [bnd_s] | rw [tI_m] | rw [tL_m] | rw [tA_m] | rw [tV_m] | rw [m173 _ hs hm hn] | rw [if_b0])
        by_cases g2 : 0 ≤ m ∧ m < c 143 0
        · rw [inR_t (by omega), cond_t]
          repeat (first | rw [bnd_s] | rw [tI_m] | rw [tL_m] | rw [tA_m] | rw [tV_m] | rw [m172] | rw [if_b0])
          by_cases e0 : 1 ≤ q ∧ q ≤ 2
          · rw [inR_t e0, cond_t]
            repeat (first | rw [bnd_s] | rw [tI_m] | rw [tL_m] | rw [tA_m] | rw [tV_m] | rw [m172] | rw [if_b0])
            rw [inR_f (fun w => hkm ⟨⟨g, g2⟩, e0, w⟩), cond_f, c246_18]
          · rw [inR_f e0, cond_f, c246_18]
        · rw [inR_f (by omega), cond_f, c246_18]
      · rw [inR_f (by omega), cond_f, c246_18]
  obtain ⟨hkm, hq, hv⟩ := hkm
  obtain ⟨s1, c1, n1, r1, hn1, hI1, e3, e5, hA, hP⟩ := k152 994 hI hkm.1 hkm.2
  have hs := hI1.1.l
  have hc := hI1.2.2.2.1
  have hsg := hI.1.l
  rw [← e3] at hkm
  obtain ⟨⟨k0, k1⟩, m0, m1⟩ := hkm
  obtain ⟨M1, M2, q2, fS, E3, E5, hm2, hM2, ha2, kk, hco, q4⟩ := both hI1 k0 k1 m0 m1
  have hM := hI1.mok m m0 m1
  have p8 := hP.2.2.2.1
  have Inv2 : Inv s1 (mSet c1 k.toNat) n1 := Inv_M hI1 fS (by decide)
  have hw := (hI1.sh k0 k1).2.1
  obtain ⟨c2, x1, xf, x2⟩ := k53 993 hI1 m0 m1 ha2 hP hA hw q
  have hI2 := xf.inv hI1
  have F3 : c2 143 = c1 143 := funext fun i => xf _ _ (by omega) (by omega) (by omega)
  have F5 : c2 145 = c1 145 := funext fun i => xf _ _ (by omega) (by omega) (by omega)
  have hc2 := hI2.2.2.2.1
  obtain ⟨M1, M2, q2, fS, E3, E5, hm2, hM2, -, -, -, q4⟩ := both hI2 k0 (by rw [F3]; exact k1) m0 (by rw [F3]; exact m1)
  have P2 := MP_set hI2 k0 (by rw [F3]; exact k1) m0 (by rw [F3]; exact m1)
  obtain ⟨c3, y1, yf, yA⟩ := m183 995 hs hm2 hM2
  obtain ⟨P3, b3', b5'⟩ := P2.mv yf (by decide)
  have B3 : c3 143 = c1 143 := b3'.trans (E3.trans F3)
  have B5 : c3 145 = c1 145 := b5'.trans (E5.trans F5)
  rw [← ansL_of b3'] at yA
  obtain ⟨c4, w1, wf, w2⟩ := m245 990 hs P3 yA (show q = 1 ∨ q = 2 by omega)
  rw [fM_TT P3.2.2.2.1 (show q = 1 ∨ q = 2 by omega), TT_of B3 B5] at w1 w2
  have F4 : Fm [148, 157, 158] [6, 25, 26, 27, 28, 41, 42, 43] c2 c4 := (fS.mono (by decide) (by decide)).tr ((yf.mono (by decide) (by decide)).tr (wf.mono (by decide) (by decide)))
  have hI3 := Inv_M hI2 F4 (by decide)
  have z : ∃ T, T = TT c1 k.toNat m q := ⟨_, rfl⟩
  obtain ⟨T, zT⟩ := z
  rw [← zT] at w1 w2 x1 x2
  have X13 : c2 131 13 = (T.getD (-1, -1, -1)).1 := congrArg (fun t => t.1) x2
  have X14 : c2 131 14 = (T.getD (-1, -1, -1)).2.1 := congrArg (fun t => t.2.1) x2
  have X12 : c2 131 12 = (T.getD (-1, -1, -1)).2.2 := congrArg (fun t => t.2.2) x2
  have W41 : c4 142 41 = (T.getD (-1, -1, -1)).1 := congrArg (fun t => t.1) w2
  have W42 : c4 142 42 = (T.getD (-1, -1, -1)).2.1 := congrArg (fun t => t.2.1) w2
  have W43 : c4 142 43 = (T.getD (-1, -1, -1)).2.2 := congrArg (fun t => t.2.2) w2
  refine ⟨vI (if v = 0 then b2i T.isSome else if v = 1 then (T.getD (-1, -1, -1)).1 else if v = 2 then (T.getD (-1, -1, -1)).2.1 else (T.getD (-1, -1, -1)).2.2), s1, s1, c2, c4, n1, ?_, ?_, by omega, hI3⟩
  · rw [c131 (hg := gC29 hsg c)]
    repeat (first | rw [bnd_s] | rw [tI_m] | rw [tL_m] | rw [tA_m] | rw [tV_m] | rw [if_neg (show ¬ q < 1 by omega)] | rw [if_neg (show ¬ 2 < q by omega)] | rw [if_neg (show ¬ v < 0 by omega)] | rw [if_neg (show ¬ 3 < v by omega)] | rw [r1] | rw [if_neg (show ¬ (1 : Int) = 0 by decide)] | rw [fC29 hs _ (by decide)] | rw [pC29 hs _ _ (by decide)] | rw [CS_29_3 hc] | rw [x1])
    by_cases v0 : v = 0
    · rw [if_pos v0, if_pos v0]
      repeat (first | rw [bnd_s] | rw [tI_m] | rw [tL_m] | rw [tA_m] | rw [tV_m] | rw [k159])
    · rw [if_neg v0, if_neg v0]
      by_cases v1 : v = 1
      · rw [if_pos v1, if_pos v1]
        repeat (first | rw [bnd_s] | rw [tI_m] | rw [tL_m] | rw [tA_m] | rw [tV_m] | rw [fC29 hs _ (by decide)] | rw [pC29 hs _ _ (by decide)] | rw [fC131 hs _ (by decide)] | rw [pC131 hs _ _ (by decide)] | rw [CS_29_3 hc2] | rw [X13])
      · rw [if_neg v1, if_neg v1]
        by_cases v2 : v = 2
        · rw [if_pos v2, if_pos v2]
          repeat (first | rw [bnd_s] | rw [tI_m] | rw [tL_m] | rw [tA_m] | rw [tV_m] | rw [fC29 hs _ (by decide)] | rw [pC29 hs _ _ (by decide)] | rw [fC131 hs _ (by decide)] | rw [pC131 hs _ _ (by decide)] | rw [CS_29_3 hc2] | rw [X14])
        · rw [if_neg v2, if_neg v2]
          repeat (first | rw [bnd_s] | rw [tI_m] | rw [tL_m] | rw [tA_m] | rw [tV_m] | rw [fC29 hs _ (by decide)] | rw [pC29 hs _ _ (by decide)] | rw [fC131 hs _ (by decide)] | rw [pC131 hs _ _ (by decide)] | rw [CS_29_3 hc2] | rw [X12])
  · rw [c246 (hg := gC142 hs c2)]
    repeat (first | rw [bnd_s] | rw [tI_m] | rw [tL_m] | rw [tA_m] | rw [tV_m] | rw [M1] | rw [M2] | rw [if_b0] | rw [cond_t] | rw [m172] | rw [inR_t (show 1 ≤ q ∧ q ≤ 2 from hq)] | rw [inR_t (show 0 ≤ v ∧ v ≤ 3 from hv)] | rw [q2] | rw [y1] | rw [w1])
    by_cases v0 : v = 0
    · rw [if_pos v0, if_pos v0]
      cases T.isSome
      · rw [cond_f, c246_53]; rfl
      · rw [cond_t, c246_53]; rfl
    · rw [if_neg v0, if_neg v0]
      by_cases v1 : v = 1
      · rw [if_pos v1, if_pos v1]
        repeat (first | rw [bnd_s] | rw [tI_m] | rw [tL_m] | rw [tA_m] | rw [tV_m] | rw [fC142 hs _ (by decide)] | rw [pC142 hs _ _ (by decide)] | rw [W41] | rw [c246_53])
      · rw [if_neg v1, if_neg v1]
        by_cases v2 : v = 2
        · rw [if_pos v2, if_pos v2]
          repeat (first | rw [bnd_s] | rw [tI_m] | rw [tL_m] | rw [tA_m] | rw [tV_m] | rw [fC142 hs _ (by decide)] | rw [pC142 hs _ _ (by decide)] | rw [W42] | rw [c246_53])
        · rw [if_neg v2, if_neg v2]
          repeat (first | rw [bnd_s] | rw [tI_m] | rw [tL_m] | rw [tA_m] | rw [tV_m] | rw [fC142 hs _ (by decide)] | rw [pC142 hs _ _ (by decide)] | rw [W43] | rw [c246_53])
