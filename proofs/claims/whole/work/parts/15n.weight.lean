/-! weight: the class -/
/-- six bits -/
def mB (g : Int → Bool) : Int := b2i (g 0) + 2 * b2i (g 1) + 4 * b2i (g 2) + 8 * b2i (g 3) + 16 * b2i (g 4) + 32 * b2i (g 5)
def sumS (g : Int → Bool) : Int := b2i (g 0) + b2i (g 1) + b2i (g 2) + b2i (g 3) + b2i (g 4) + b2i (g 5)
theorem mB_cg {g h : Int → Bool} (e : ∀ s, 0 ≤ s → s < 6 → g s = h s) : mB g = mB h := by
  unfold mB; rw [e 0 (by decide) (by decide), e 1 (by decide) (by decide), e 2 (by decide) (by decide), e 3 (by decide) (by decide), e 4 (by decide) (by decide), e 5 (by decide) (by decide)]
theorem sumS_cg {g h : Int → Bool} (e : ∀ s, 0 ≤ s → s < 6 → g s = h s) : sumS g = sumS h := by
  unfold sumS; rw [e 0 (by decide) (by decide), e 1 (by decide) (by decide), e 2 (by decide) (by decide), e 3 (by decide) (by decide), e 4 (by decide) (by decide), e 5 (by decide) (by decide)]
theorem mB_b (g : Int → Bool) : 0 ≤ mB g ∧ mB g < 64 := by
  have := b2i_b (g 0)
  have := b2i_b (g 1)
  have := b2i_b (g 2)
  have := b2i_b (g 3)
  have := b2i_b (g 4)
  have := b2i_b (g 5)
  unfold mB; omega
theorem mB_ad : ∀ a0 a1 a2 a3 a4 a5 c0 c1 c2 c3 c4 c5 : Bool, iand (b2i a0 + 2 * b2i a1 + 4 * b2i a2 + 8 * b2i a3 + 16 * b2i a4 + 32 * b2i a5) (b2i c0 + 2 * b2i c1 + 4 * b2i c2 + 8 * b2i c3 + 16 * b2i c4 + 32 * b2i c5) = b2i (a0 && c0) + 2 * b2i (a1 && c1) + 4 * b2i (a2 && c2) + 8 * b2i (a3 && c3) + 16 * b2i (a4 && c4) + 32 * b2i (a5 && c5) := by decide +kernel
theorem mB_and (g h : Int → Bool) : iand (mB g) (mB h) = mB (fun s => g s && h s) := mB_ad _ _ _ _ _ _ _ _ _ _ _ _
theorem mB_pp : ∀ a0 a1 a2 a3 a4 a5 : Bool, pop (b2i a0 + 2 * b2i a1 + 4 * b2i a2 + 8 * b2i a3 + 16 * b2i a4 + 32 * b2i a5) = b2i a0 + b2i a1 + b2i a2 + b2i a3 + b2i a4 + b2i a5 := by decide +kernel
theorem mB_pop (g : Int → Bool) : pop (mB g) = sumS g := mB_pp _ _ _ _ _ _
def dB (w s : Int) : Bool := bt (drw w) s
theorem mB_dr {w : Int} (hw : w = 1 ∨ w = 2 ∨ w = 3 ∨ w = 6) : drw w = mB (dB w) := by
  rcases hw with e | e | e | e <;> subst e <;> decide
theorem sumS_dr {w : Int} (hw : w = 1 ∨ w = 2 ∨ w = 3 ∨ w = 6) (M : Int → Bool) : sumS (fun s => dB w s && M s) = sumU (fun v => b2i (M (drS w v))) w.toNat 0 := by
  rcases hw with e | e | e | e <;> subst e
  · show b2i (dB 1 0 && M 0) + b2i (dB 1 1 && M 1) + b2i (dB 1 2 && M 2) + b2i (dB 1 3 && M 3) + b2i (dB 1 4 && M 4) + b2i (dB 1 5 && M 5) = b2i (M 0) + 0
    generalize M 0 = a0; generalize M 1 = a1; generalize M 2 = a2; generalize M 3 = a3; generalize M 4 = a4; generalize M 5 = a5
    revert a0 a1 a2 a3 a4 a5; decide +kernel
  · show b2i (dB 2 0 && M 0) + b2i (dB 2 1 && M 1) + b2i (dB 2 2 && M 2) + b2i (dB 2 3 && M 3) + b2i (dB 2 4 && M 4) + b2i (dB 2 5 && M 5) = b2i (M 0) + (b2i (M 1) + 0)
    generalize M 0 = a0; generalize M 1 = a1; generalize M 2 = a2; generalize M 3 = a3; generalize M 4 = a4; generalize M 5 = a5
    revert a0 a1 a2 a3 a4 a5; decide +kernel
  · show b2i (dB 3 0 && M 0) + b2i (dB 3 1 && M 1) + b2i (dB 3 2 && M 2) + b2i (dB 3 3 && M 3) + b2i (dB 3 4 && M 4) + b2i (dB 3 5 && M 5) = b2i (M 0) + (b2i (M 2) + (b2i (M 3) + 0))
    generalize M 0 = a0; generalize M 1 = a1; generalize M 2 = a2; generalize M 3 = a3; generalize M 4 = a4; generalize M 5 = a5
    revert a0 a1 a2 a3 a4 a5; decide +kernel
  · show b2i (dB 6 0 && M 0) + b2i (dB 6 1 && M 1) + b2i (dB 6 2 && M 2) + b2i (dB 6 3 && M 3) + b2i (dB 6 4 && M 4) + b2i (dB 6 5 && M 5) = b2i (M 0) + (b2i (M 1) + (b2i (M 2) + (b2i (M 3) + (b2i (M 4) + (b2i (M 5) + 0)))))
    generalize M 0 = a0; generalize M 1 = a1; generalize M 2 = a2; generalize M 3 = a3; generalize M 4 = a4; generalize M 5 = a5
    revert a0 a1 a2 a3 a4 a5; decide +kernel
theorem sumS_0 {g : Int → Bool} (h : sumS g = 0) {s : Int} (s0 : 0 ≤ s) (s1 : s < 6) : g s = false := by
  have h0 := b2i_b (g 0)
  have h1 := b2i_b (g 1)
  have h2 := b2i_b (g 2)
  have h3 := b2i_b (g 3)
  have h4 := b2i_b (g 4)
  have h5 := b2i_b (g 5)
  unfold sumS at h
  have : s = 0 ∨ s = 1 ∨ s = 2 ∨ s = 3 ∨ s = 4 ∨ s = 5 := by omega
  rcases this with e | e | e | e | e | e <;> subst e <;> exact b2i_0.mp (by omega)
theorem sumS_z {g : Int → Bool} (h : ∀ s, 0 ≤ s → s < 6 → g s = false) : sumS g = 0 := by
  unfold sumS; rw [h 0 (by decide) (by decide), h 1 (by decide) (by decide), h 2 (by decide) (by decide), h 3 (by decide) (by decide), h 4 (by decide) (by decide), h 5 (by decide) (by decide)]; rfl
theorem tk_ok : ((List.range 3).all fun p => (List.range 3).all fun q => tkL.getD (3 * ((p : Nat) : Int) + ((q : Nat) : Int)).toNat 0 == mB (fun s => decide (swp s ((p : Nat) : Int) = ((q : Nat) : Int)))) = true := by decide +kernel
theorem tk_e {p q : Int} (p0 : 0 ≤ p) (p1 : p < 3) (q0 : 0 ≤ q) (q1 : q < 3) : tkL.getD (p * 3 + q).toNat 0 = mB (fun s => decide (swp s p = q)) := by
  have := List.all_eq_true.mp tk_ok p.toNat (List.mem_range.mpr (by omega))
  have := List.all_eq_true.mp this q.toNat (List.mem_range.mpr (by omega))
  rw [Int.toNat_of_nonneg p0, Int.toNat_of_nonneg q0, Int.mul_comm 3 p] at this
  exact beq_iff_eq.mp this
theorem mk_ok : ((List.range 8).all fun n => decide (n < 2) || (List.range 128).all fun x => decide (iand ((x : Nat) : Int) (w32 (ishl 1 ((n : Nat) : Int) - 1)) ≠ 0) == anyU (bt ((x : Nat) : Int)) n 0) = true := by decide +kernel
theorem mk_e {n x : Int} (n0 : 2 ≤ n) (n1 : n ≤ 7) (x0 : 0 ≤ x) (x1 : x < 128) : decide (iand x (w32 (ishl 1 n - 1)) ≠ 0) = anyU (bt x) n.toNat 0 := by
  have := List.all_eq_true.mp mk_ok n.toNat (List.mem_range.mpr (by omega))
  rw [decide_eq_false (show ¬ n.toNat < 2 by omega), Bool.false_or] at this
  have := List.all_eq_true.mp this x.toNat (List.mem_range.mpr (by omega))
  rw [Int.toNat_of_nonneg x0, Int.toNat_of_nonneg (show 0 ≤ n by omega)] at this
  exact beq_iff_eq.mp this
section
variable {s : List (Nat × Nat)} {c : Nat → Nat → Int}
theorem k111_4 (d : Nat) {n0 : Nat} (hI : Inv s c n0) {m : Int} (hM : MapOK c m) {r j : Int} (r0 : 0 ≤ r) (r1 : r < r3 (c 143 (20 + m).toNat)) (j0 : 0 ≤ j) (j1 : j < 20) (o4 : Option AV) : ∀ (n : Nat) (l : Int) (g : Int → Bool), 0 ≤ l → l + n = c 143 (20 + m).toNat → Rr (Cd (d + 1)) 111 4 [some (vA 33), some (vI j), some (vI (pkR r (c 143 (20 + m).toNat))), some (vI (c 143 (20 + m).toNat)), o4, some (vI (mB g)), some (vI l)] [] (s, c) = some ([vI (mB (fun w => g w && allU (okL c m r j w) n l))], (s, c))
  | 0, l, g, h0, h => by
    rw [c111_4, if_neg (by omega)]
    simp only [allU, Bool.and_true]
  | n + 1, l, g, h0, h => by
    have hs := hI.1.l
    have hc := hI.2.2.2.1
    obtain ⟨⟨k0, k1⟩, ⟨k2, k3⟩, -⟩ := id hM
    have S := hI.2.2.2.2.1.2.2.2.2.2.1 j l j0 j1 h0 (by omega)
    obtain ⟨sb, fb, bb, pb⟩ := S
    have pk := (pk_ok k2 k3 r0 r1).2 l h0 (by omega)
    have p := pnt_b (c 143 (20 + m).toNat) r l
    have ih := fun g => k111_4 d hI hM r0 r1 j0 j1 o4 n (l + 1) g (by omega) (by omega)
    have sb : 0 ≤ c 34 j.toNat ∧ c 34 j.toNat < 128 := sb
    have q9 := k169 d (s, c) (x := c 34 j.toNat) (k := l) sb.1 (by omega) h0 (by omega)
    have bb' : bt (c 34 j.toNat) l = decide (0 ≤ c 143 (150 + 7 * j + l).toNat) := bb
    rw [bb'] at q9
    rw [c111_4, if_pos (by omega)]
    repeat (first | rw [bnd_s] | rw [tI_m] | rw [tL_m] | rw [tA_m] | rw [tV_m] | rw [fC33 hs _ (by decide)] | rw [pC33 hs _ _ (by decide)] | rw [CS_33_0 hc] | rw [aC34 hs _ j0 (by omega)] | rw [q9] | rw [if_b0])
    by_cases z : 0 ≤ c 143 (150 + 7 * j + l).toNat
    · have e35 : c 35 (j * 7 + l).toNat = c 143 (150 + 7 * j + l).toNat := by rw [Int.mul_comm j 7]; exact pb z
      rw [decide_eq_true z, cond_t]
      repeat (first | rw [bnd_s] | rw [tI_m] | rw [tL_m] | rw [tA_m] | rw [tV_m] | rw [fC33 hs _ (by decide)] | rw [pC33 hs _ _ (by decide)] | rw [k165] | rw [pk] | rw [CS_33_1 hc] | rw [w32_id (z := j * 7) (by omega) (by omega)] | rw [w32_id (z := j * 7 + l) (by omega) (by omega)] | rw [aC35 hs _ (show 0 ≤ j * 7 + l by omega) (by omega)] | rw [e35] | rw [w32_id (z := pnt (c 143 (20 + m).toNat) r l * 3) (by omega) (by omega)] | rw [w32_id (z := pnt (c 143 (20 + m).toNat) r l * 3 + c 143 (150 + 7 * j + l).toNat) (by omega) (by omega)] | rw [aC3 hs _ (show 0 ≤ pnt (c 143 (20 + m).toNat) r l * 3 + c 143 (150 + 7 * j + l).toNat by omega) (by omega)] | rw [x3 hI.2.1] | rw [tk_e p.1 p.2 z (show c 143 (150 + 7 * j + l).toNat < 3 by omega)] | rw [mB_and] | rw [c111_33] | rw [w32_id (z := l + 1) (by omega) (by omega)] | rw [ih])
      rw [mB_cg (h := fun w => g w && allU (okL c m r j w) (n + 1) l) (fun w _ _ => by
        simp only [allU, okL]
        rw [decide_eq_false (show ¬ c 143 (150 + 7 * j + l).toNat < 0 by omega), Bool.false_or, Bool.and_assoc])]
    · rw [decide_eq_false z, cond_f, c111_33, w32_id (z := l + 1) (by omega) (by omega), ih]
      rw [mB_cg (h := fun w => g w && allU (okL c m r j w) (n + 1) l) (fun w _ _ => by
        simp only [allU]
        rw [show okL c m r j w l = true by unfold okL; rw [decide_eq_true (show c 143 (150 + 7 * j + l).toNat < 0 by omega), Bool.true_or], Bool.true_and])]
theorem k111 (d : Nat) {n0 : Nat} (hI : Inv s c n0) {m : Int} (hM : MapOK c m) {r j : Int} (r0 : 0 ≤ r) (r1 : r < r3 (c 143 (20 + m).toNat)) (j0 : 0 ≤ j) (j1 : j < 20) (g : Int → Bool) : Cd (d + 2) 111 [vA 33, vI j, vI (pkR r (c 143 (20 + m).toNat)), vI (c 143 (20 + m).toNat), vI (mB g)] (s, c) = some ([vI (mB (fun w => g w && mtc c m r j w))], (s, c)) := by
  have k2 := hM.2.1.1
  rw [c111 (hg := gC33 hI.1.l c)]
  exact k111_4 d hI hM r0 r1 j0 j1 _ (c 143 (20 + m).toNat).toNat 0 g (by omega) (by omega)
theorem saw_e {n0 : Nat} (hI : Inv s c n0) {m : Int} (hM : MapOK c m) {j : Int} (j0 : 0 ≤ j) (j1 : j < 20) : decide (iand (c 34 j.toNat) (w32 (ishl 1 (c 143 (20 + m).toNat) - 1)) ≠ 0) = sawN c (c 143 (20 + m).toNat).toNat j := by
  obtain ⟨⟨k0, k1⟩, ⟨k2, k3⟩, -⟩ := id hM
  have S := fun l l0 l1 => hI.2.2.2.2.1.2.2.2.2.2.1 j l j0 j1 l0 l1
  have b0 := (S 0 (by decide) (by decide)).1
  rw [mk_e k2 k3 b0.1 b0.2]
  exact anyU_cg _ _ (fun l l0 l1 => (S l l0 (by omega)).2.2.1)
theorem mtc_u {m r j w : Int} (h : sawN c (c 143 (20 + m).toNat).toNat j = false) : mtc c m r j w = true := by
  refine (allU_iff _ _ _).mpr (fun l l0 l1 => ?_)
  unfold okL
  by_cases g : c 143 (150 + 7 * j + l).toNat < 0
  · rw [decide_eq_true g, Bool.true_or]
  · refine absurd ((anyU_t _ _).mpr ⟨l, l0, l1, decide_eq_true (by omega)⟩) (Bool.eq_false_iff.mp h)
theorem k110_12 (d : Nat) {n0 : Nat} (hI : Inv s c n0) {k : Nat} {m : Int} (hM : MapOK c m) (hw : c 145 (800 * k + 1) = 1 ∨ c 145 (800 * k + 1) = 2 ∨ c 145 (800 * k + 1) = 3 ∨ c 145 (800 * k + 1) = 6) {r : Int} (r0 : 0 ≤ r) (r1 : r < r3 (c 143 (20 + m).toNat)) (oc : Int) : ∀ (n : Nat) (j V : Int) (g : Int → Bool) (o6 o10 : Option AV), 0 ≤ j → j + n = 20 → 0 ≤ V → V * 6 ^ n ≤ 3656158440062976 → (∀ w, 0 ≤ w → w < 6 → g w = true → dB (c 145 (800 * k + 1)) w = true) → (V = 0 → ∀ w, 0 ≤ w → w < 6 → g w = false) → Rr (Cd (d + 3)) 110 12 [some (vA 33), some (vI (pkR r (c 143 (20 + m).toNat))), some (vI (c 143 (20 + m).toNat)), some (vI (mB (dB (c 145 (800 * k + 1))))), some (vI oc), some (vL V), o6, some (vI (mB g)), some (vI (w32 (ishl 1 (c 143 (20 + m).toNat) - 1))), some (vI j), o10] [] (s, c) = some ([vL (if oc = 0 then V * prU (wN c k m r) n j else sumS (fun w => g w && allU (fun j => mtc c m r j w) n j))], (s, c))
  | 0, j, V, g, o6, o10, h0, h, V0, V1, hg, hV => by
    have gb := mB_b g
    rw [c110_12, if_neg (by omega), c110_45]
    simp only [prU, allU, Int.mul_one, Bool.and_true]
    by_cases e : oc = 0
    · rw [if_pos e, if_pos e, c110_52]
    · rw [if_neg e, if_neg e]
      repeat (first | rw [bnd_s] | rw [tI_m] | rw [tL_m] | rw [tA_m] | rw [tV_m] | rw [j284 (d + 2) _ gb.1 (show mB g < 512 by omega)] | rw [mB_pop] | rw [c110_52])
  | n + 1, j, V, g, o6, o10, h0, h, V0, V1, hg, hV => by
    have hs := hI.1.l
    have hc := hI.2.2.2.1
    have gb := mB_b g
    rw [c110_12, if_pos (by omega)]
    by_cases z : V = 0
    · have gz := hV z
      rw [if_neg (by rw [lcmp_gt]; omega), c110_45]
      by_cases e : oc = 0
      · rw [if_pos e, if_pos e, c110_52, z, Int.zero_mul]
      · rw [if_neg e, if_neg e]
        repeat (first | rw [bnd_s] | rw [tI_m] | rw [tL_m] | rw [tA_m] | rw [tV_m] | rw [j284 (d + 2) _ gb.1 (show mB g < 512 by omega)] | rw [mB_pop] | rw [c110_52])
        rw [sumS_z gz, sumS_z (fun w w0 w1 => by rw [gz w w0 w1, Bool.false_and])]
    · have sw := saw_e hI hM h0 (show j < 20 by omega)
      rw [if_pos (by rw [lcmp_gt]; omega)]
      repeat (first | rw [bnd_s] | rw [tI_m] | rw [tL_m] | rw [tA_m] | rw [tV_m] | rw [fC33 hs _ (by decide)] | rw [pC33 hs _ _ (by decide)] | rw [CS_33_0 hc] | rw [aC34 hs _ h0 (by omega)])
      by_cases g0 : iand (c 34 j.toNat) (w32 (ishl 1 (c 143 (20 + m).toNat) - 1)) = 0
      · rw [decide_eq_false (show ¬ (iand (c 34 j.toNat) (w32 (ishl 1 (c 143 (20 + m).toNat) - 1)) ≠ 0) from fun w => w g0)] at sw
        have sb := six_b V0 (show (0 : Int) ≤ 1 by decide) (by decide) V1
        rw [Int.mul_one] at sb
        have ih := k110_12 d hI hM hw r0 r1 oc n (j + 1) V g o6 o10 (by omega) (by omega) V0 sb.2.1 hg hV
        rw [if_pos g0, c110_43, w32_id (z := j + 1) (by omega) (by omega), ih]
        have e1 : wN c k m r j = 1 := by unfold wN; rw [← sw]; rfl
        simp only [prU, allU]
        rw [e1, Int.one_mul, sumS_cg (g := fun w => g w && (mtc c m r j w && allU (fun j => mtc c m r j w) n (j + 1))) (h := fun w => g w && allU (fun j => mtc c m r j w) n (j + 1)) (fun w _ _ => by rw [mtc_u sw.symm, Bool.true_and])]
      · rw [decide_eq_true g0] at sw
        have q1 := k111 (d + 1) hI hM r0 r1 h0 (show j < 20 by omega) (dB (c 145 (800 * k + 1)))
        have fb := mB_b (fun w => dB (c 145 (800 * k + 1)) w && mtc c m r j w)
        have cb := cn_b c k m r j hw
        have es := sumS_dr hw (mtc c m r j)
        have e1 : wN c k m r j = sumU (fun v => b2i (mtc c m r j (drS (c 145 (800 * k + 1)) v))) (c 145 (800 * k + 1)).toNat 0 := by unfold wN; rw [← sw]; rfl
        have sb := six_b V0 cb.1 cb.2 V1
        have hg2 : ∀ w, 0 ≤ w → w < 6 → (g w && (dB (c 145 (800 * k + 1)) w && mtc c m r j w)) = (g w && mtc c m r j w) := fun w w0 w1 => by
          by_cases t : g w = true
          · rw [t, hg w w0 w1 t, Bool.true_and, Bool.true_and]
          · rw [Bool.eq_false_iff.mpr t, Bool.false_and, Bool.false_and]
        have ih := fun o6 o10 => k110_12 d hI hM hw r0 r1 oc n (j + 1) (V * sumU (fun v => b2i (mtc c m r j (drS (c 145 (800 * k + 1)) v))) (c 145 (800 * k + 1)).toNat 0) (fun w => g w && (dB (c 145 (800 * k + 1)) w && mtc c m r j w)) o6 o10 (by omega) (by omega) sb.1 sb.2.1 (fun w w0 w1 t => by
          rw [Bool.and_eq_true, Bool.and_eq_true] at t; exact t.2.1) (fun t w w0 w1 => by
          have t2 := (Int.mul_eq_zero.mp t).resolve_left z
          rw [← es] at t2
          rw [sumS_0 t2 w0 w1, Bool.and_false])
        rw [if_neg g0]
        repeat (first | rw [bnd_s] | rw [tI_m] | rw [tL_m] | rw [tA_m] | rw [tV_m] | rw [q1] | rw [j284 (d + 2) _ fb.1 (show mB (fun w => dB (c 145 (800 * k + 1)) w && mtc c m r j w) < 512 by omega)] | rw [mB_pop] | rw [es] | rw [mB_and])
        rw [w64_id (z := V * sumU (fun v => b2i (mtc c m r j (drS (c 145 (800 * k + 1)) v))) (c 145 (800 * k + 1)).toNat 0) (by omega) (by omega), c110_43, w32_id (z := j + 1) (by omega) (by omega), ih]
        simp only [prU, allU]
        rw [e1, Int.mul_assoc, sumS_cg (g := fun w => g w && (dB (c 145 (800 * k + 1)) w && mtc c m r j w) && allU (fun j => mtc c m r j w) n (j + 1)) (h := fun w => g w && (mtc c m r j w && allU (fun j => mtc c m r j w) n (j + 1))) (fun w w0 w1 => by rw [hg2 w w0 w1, Bool.and_assoc])]
theorem k57 (d : Nat) {n0 : Nat} (hI : Inv s c n0) {k : Nat} {m : Int} (m0 : 0 ≤ m) (m1 : m < c 143 0) (hP : PlayR c k m) (hw : c 145 (800 * k + 1) = 1 ∨ c 145 (800 * k + 1) = 2 ∨ c 145 (800 * k + 1) = 3 ∨ c 145 (800 * k + 1) = 6) {r : Int} (r0 : 0 ≤ r) (r1 : r < r3 (c 143 (20 + m).toNat)) : Cd (d + 5) 57 [vA 131, vA 33, vI (pkR r (c 143 (20 + m).toNat))] (s, c) = some ([vL (wgt c k m r)], (s, c)) := by
  have hs := hI.1.l
  have hc := hI.2.2.2.1
  have hM := hI.mok m m0 m1
  have n4 := hI.nM.2
  have hch := chN hs hc (m := m.toNat) (by omega)
  have hmr := (hI.map (m := m.toNat) (by omega)).1.1
  rw [Int.toNat_of_nonneg m0] at hmr
  have p5 := hP.1
  have p6 := hP.2.1
  have p7 := hP.2.2.1
  rw [mB_dr hw] at p6
  have ih := k110_12 d hI hM hw r0 r1 (c 145 (800 * k + 2)) 20 0 1 (dB (c 145 (800 * k + 1))) none none (by omega) (by omega) (by decide) (by decide) (fun _ _ _ t => t) (fun t => by omega)
  rw [c57 (hg := gC131 hs c)]
  repeat (first | rw [bnd_s] | rw [tI_m] | rw [tL_m] | rw [tA_m] | rw [tV_m] | rw [fC131 hs _ (by decide)] | rw [pC131 hs _ _ (by decide)] | rw [p5] | rw [p6] | rw [p7] | rw [gF_g hch.1.1 _ (by decide)] | rw [hmr] | rw [c110 (hg := gC33 hs c)] | rw [ih])
  unfold wgt
  by_cases g : c 145 (800 * k + 2) = 0
  · rw [if_pos g, if_pos g, Int.one_mul]
  · rw [if_neg g, if_neg g, sumS_dr hw (fun w => allU (fun j => mtc c m r j w) 20 0)]
end
theorem wgt_of {b c : Nat → Nat → Int} (e3 : c 143 = b 143) (e5 : c 145 = b 145) (k : Nat) (m r : Int) : wgt c k m r = wgt b k m r := by
  have h1 : ∀ j w, mtc c m r j w = mtc b m r j w := fun j w => by
    unfold mtc
    rw [e3]
    exact allU_cg _ _ (fun l _ _ => by unfold okL; rw [e3])
  have h2 : wN c k m r = wN b k m r := funext fun j => by
    unfold wN sawN
    rw [e3, e5, sumU_cg (g := fun v => b2i (mtc b m r j (drS (b 145 (800 * k + 1)) v))) _ _ (fun v _ _ => by rw [h1])]
  unfold wgt
  rw [e5, h2, sumU_cg (g := fun v => b2i (allU (fun j => mtc b m r j (drS (b 145 (800 * k + 1)) v)) 20 0)) _ _ (fun v _ _ => by rw [allU_cg _ _ (fun j _ _ => h1 j _)])]
theorem op_weight (k m i : Int) : Op 133 251 [vI k, vI m, vI i] := by
  intro s c n hI
  by_cases hkm : (0 ≤ k ∧ k < c 143 1) ∧ (0 ≤ m ∧ m < c 143 0)
  case neg =>
    have hs := hI.1.l
    have hc := hI.2.2.2.1
    have hm := hI.2.2.1
    obtain ⟨h7, a7, a8⟩ := hI.2.2.2.2.1.2.2.2.1
    have hn := hI.nM
    have n2 := hn.2
    refine ⟨vL (-1), s, s, c, c, n, ?_, ?_, by omega, hI⟩
    · rw [c133 (hg := gC29 hs c), k152_n _ hI hkm]
      repeat (first | rw [bnd_s] | rw [tI_m] | rw [tL_m] | rw [tA_m] | rw [tV_m] | rw [if_pos (show (0 : Int) = 0 from rfl)])
    · rw [c251 (hg := gC142 hs c)]
      repeat (first | rw [bnd_s] | rw [tI_m] | rw [tL_m] | rw [tA_m] | rw [tV_m] | rw [m221 _ hI] | rw [if_b0])
      by_cases g : 0 ≤ k ∧ k < c 143 1
      · rw [inR_t (by omega), cond_t]
        repeat (first | rw [bnd_s] | rw [tI_m] | rw [tL_m] | rw [tA_m] | rw [tV_m] | rw [m173 _ hs hm hn] | rw [if_b0])
        rw [inR_f (fun w => hkm ⟨g, by omega⟩), cond_f, c251_8]
      · rw [inR_f (by omega), cond_f, c251_8]
  obtain ⟨s1, c1, n1, r1, hn1, hI1, e3, e5, hA, hP⟩ := k152 994 hI hkm.1 hkm.2
  have hs := hI1.1.l
  have hc := hI1.2.2.2.1
  have hsg := hI.1.l
  rw [← e3] at hkm
  obtain ⟨⟨k0, k1⟩, m0, m1⟩ := hkm
  obtain ⟨M1, M2, q2, fS, E3, E5, hm2, hM2, ha2, kk, hco, q4⟩ := both hI1 k0 k1 m0 m1
  have hM := hI1.mok m m0 m1
  have hw := (hI1.sh k0 k1).2.1
  have n4 := hI1.nM.2
  have hch := chN hs hc (m := m.toNat) (by omega)
  have p5 := hP.1
  have ll := ansL_len hM
  have q15 := k15 997 hch hA (by omega) i
  have P2 := MP_set hI1 k0 k1 m0 m1
  obtain ⟨c3, y1, yf, yA⟩ := m183 995 hs hm2 hM2
  obtain ⟨P3, b3', b5'⟩ := P2.mv yf (by decide)
  have B3 : c3 143 = c1 143 := b3'.trans E3
  have B5 : c3 145 = c1 145 := b5'.trans E5
  rw [ansL_of E3] at yA
  have F4 : Fm [148] [6, 25, 26, 27, 28] c1 c3 := (fS.mono (by decide) (by decide)).tr (yf.mono (by decide) (by decide))
  have hI3 := Inv_M hI1 F4 (by decide)
  have e6 := yA.1
  by_cases g : 0 ≤ i ∧ i < (ansL c1 m).length
  · have al := ansL_at hM (i := i.toNat) (by omega)
    have e8 : c3 148 i.toNat = (ansL c1 m).getD i.toNat 0 := yA.2 i.toNat (by omega)
    have pk := (pk_ok hM.2.1.1 hM.2.1.2 al.1 al.2.1).1
    rw [if_pos g] at q15
    have q57 := k57 993 hI1 m0 m1 hP hw al.1 al.2.1
    have q50 := m250 995 hs P3 al.1 al.2.2.1
    rw [wgt_of B3 B5] at q50
    refine ⟨vL (wgt c1 k.toNat m ((ansL c1 m).getD i.toNat 0)), s1, s1, c1, c3, n1, ?_, ?_, by omega, hI3⟩
    · rw [c133 (hg := gC29 hsg c)]
      repeat (first | rw [bnd_s] | rw [tI_m] | rw [tL_m] | rw [tA_m] | rw [tV_m] | rw [r1] | rw [if_neg (show ¬ (1 : Int) = 0 by decide)] | rw [fC29 hs _ (by decide)] | rw [pC29 hs _ _ (by decide)] | rw [fC131 hs _ (by decide)] | rw [pC131 hs _ _ (by decide)] | rw [fC30 hs _ (by decide)] | rw [pC30 hs _ _ (by decide)] | rw [CS_29_3 hc] | rw [p5] | rw [q15] | rw [if_neg (show ¬ pkR ((ansL c1 m).getD i.toNat 0) (c1 143 (20 + m).toNat) = -1 by omega)] | rw [CS_29_0 hc] | rw [CS_30_2 hc] | rw [q57] | rw [c133_25])
    · rw [c251 (hg := gC142 hs c1)]
      repeat (first | rw [bnd_s] | rw [tI_m] | rw [tL_m] | rw [tA_m] | rw [tV_m] | rw [M1] | rw [M2] | rw [if_b0] | rw [cond_t] | rw [q2] | rw [y1] | rw [fC142 hs _ (by decide)] | rw [pC142 hs _ _ (by decide)] | rw [e6] | rw [w32_id (z := ((ansL c1 m).length : Int) - 1) (by omega) (by omega)] | rw [m172] | rw [inR_t (show 0 ≤ i ∧ i ≤ ((ansL c1 m).length : Int) - 1 by omega)] | rw [MS_5 P3.1.1] | rw [aC148 hs _ g.1 (by omega)] | rw [e8] | rw [q50] | rw [c251_33])
  · rw [if_neg g] at q15
    refine ⟨vL (-1), s1, s1, c1, c3, n1, ?_, ?_, by omega, hI3⟩
    · rw [c133 (hg := gC29 hsg c)]
      repeat (first | rw [bnd_s] | rw [tI_m] | rw [tL_m] | rw [tA_m] | rw [tV_m] | rw [r1] | rw [if_neg (show ¬ (1 : Int) = 0 by decide)] | rw [fC29 hs _ (by decide)] | rw [pC29 hs _ _ (by decide)] | rw [fC131 hs _ (by decide)] | rw [pC131 hs _ _ (by decide)] | rw [CS_29_3 hc] | rw [p5] | rw [q15] | rw [if_pos (show (-1 : Int) = -1 from rfl)] | rw [c133_25])
    · rw [c251 (hg := gC142 hs c1)]
      repeat (first | rw [bnd_s] | rw [tI_m] | rw [tL_m] | rw [tA_m] | rw [tV_m] | rw [M1] | rw [M2] | rw [if_b0] | rw [cond_t] | rw [q2] | rw [y1] | rw [fC142 hs _ (by decide)] | rw [pC142 hs _ _ (by decide)] | rw [e6] | rw [w32_id (z := ((ansL c1 m).length : Int) - 1) (by omega) (by omega)] | rw [m172] | rw [inR_f (show ¬ (0 ≤ i ∧ i ≤ ((ansL c1 m).length : Int) - 1) by omega)] | rw [cond_f] | rw [c251_33])
