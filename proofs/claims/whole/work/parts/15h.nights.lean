/-! nights, asked -/
def PQ (b c : Nat → Nat → Int) : Prop := ∀ x i, ¬ ((x = 138 ∨ x = 140) ∧ i = 1) → x ≠ 139 → x ≠ 141 → c x i = b x i
theorem PQ.inv {s : List (Nat × Nat)} {b c : Nat → Nat → Int} {n : Nat} (h : PQ b c) (hI : Inv s b n) : Inv s c n :=
  Inv_C hI (fun o i hi => h o i (fun w => by
    obtain ⟨w1, w2⟩ := w
    subst w2
    rcases w1 with e | e <;> subst e <;> simp [cScr] at hi) (fun w => by rw [w] at hi; simp [cScr] at hi) (fun w => by rw [w] at hi; simp [cScr] at hi)) hI.1 (RefI_of hI.2.2.2.2.2.2.2.1 (fun m' _ => ⟨h _ _ (by omega) (by omega) (by omega), h _ _ (by omega) (by omega) (by omega)⟩)) (AnsI_of hI.2.2.2.2.2.2.2.2.1 (funext fun i => h _ _ (by omega) (by omega) (by omega)) (fun o i _ _ => h _ _ (by omega) (by omega) (by omega)) (fun o _ => funext fun i => h _ _ (by omega) (by omega) (by omega)))
theorem PW_of {c c' : Nat → Nat → Int} {o sz : Nat} {x : Int} (h : PW c o sz x) (e0 : c' o 1 = c o 1) (e1 : ∀ i, c' (o + 1) i = c (o + 1) i) : PW c' o sz x := by
  have : c' (o + 1) = c (o + 1) := funext e1
  unfold PW at h ⊢; rw [this, e0]; exact h
theorem PN_of {c c' : Nat → Nat → Int} {o sz : Nat} (h : PN c o sz) (e1 : ∀ i, c' (o + 1) i = c (o + 1) i) : PN c' o sz := by
  have : c' (o + 1) = c (o + 1) := funext e1
  unfold PN at h ⊢; rw [this]; exact h
section
variable {s : List (Nat × Nat)} {b : Nat → Nat → Int}
theorem k153_10 (d : Nat) {n0 : Nat} (hI : Inv s b n0) {x B A : Int} (x0 : 0 ≤ x) (x1 : x ≤ 1000000000) (b0 : 0 ≤ B) (b1 : B < A) (a1 : A ≤ 21) (eB : b 131 9 = B) (eA : b 131 8 = A) (o1 : Option AV) : ∀ (n t : Nat) (c : Nat → Nat → Int) (sz sz' : Nat), t + 1 + n = 425 → PQ b c → PW c 138 sz (x * B ^ t) → PW c 140 sz' (A ^ t) → ∃ c', Rr (Cd (d + 1)) 153 10 [some (vA 29), o1, some (vI ((t : Int) + 1))] [] (s, c) = some ([vI (ngN x B A n (t + 1))], (s, c')) ∧ PQ b c'
  | n, t, c, sz, sz', h, hF, h5, h6 => by
    have hI1 := hF.inv hI
    have hs := hI1.1.l
    have hc := hI1.2.2.2.1
    have n1 := num_1
    have B1 := ng_b x0 x1 b0 (show B ≤ 21 by omega) (show t + 1 ≤ 425 by omega)
    have B2 := ng_b (x := 1) (by decide) (by decide) (show 0 ≤ A by omega) a1 (show t + 1 ≤ 425 by omega)
    rw [Int.one_mul] at B2
    have E1 : B * (x * B ^ t) = x * B ^ (t + 1) := by
      rw [Int.pow_succ, Int.mul_comm B, Int.mul_assoc]
    have E2 : A * A ^ t = A ^ (t + 1) := by
      rw [Int.pow_succ, Int.mul_comm]
    have eB' : c 131 9 = B := (hF _ _ (by omega) (by omega) (by omega)).trans eB
    have eA' : c 131 8 = A := (hF _ _ (by omega) (by omega) (by omega)).trans eA
    obtain ⟨c1, z1, r1, f1, g1, p1⟩ := k64 d (o := 138) (sC138 hs) (sC139 hs) (by rw [CS_138_0 hc]; rfl) h5 b0 (by omega) (by rw [E1]; omega)
    have F1 : PQ b c1 := fun x i hx h1 h2 => (f1 x i (by omega) (by omega)).trans (hF x i hx h1 h2)
    have hI2 := F1.inv hI
    have hc2 := hI2.2.2.2.1
    have eA2 : c1 131 8 = A := (F1 _ _ (by omega) (by omega) (by omega)).trans eA
    obtain ⟨c2, z2, r2, f2, g2, p2⟩ := k64 d (o := 140) (sC140 hs) (sC141 hs) (by rw [CS_140_0 hc2]; rfl) (PW_of h6 (f1 140 1 (by omega) (by omega)) (fun i => f1 141 i (by omega) (by omega))) (show 0 ≤ A by omega) a1 (by rw [E2]; omega)
    have F2 : PQ b c2 := fun x i hx h1 h2 => (f2 x i (by omega) (by omega)).trans (F1 x i hx h1 h2)
    have hI3 := F2.inv hI
    have hc3 := hI3.2.2.2.1
    rw [E1] at g1
    rw [E2] at g2
    have g1' := PW_of g1 (f2 138 1 (by omega) (by omega)) (fun i => f2 139 i (by omega) (by omega))
    have p1' := PN_of p1 (fun i => f2 139 i (by omega) (by omega))
    have q := k65 d (o := 138) (p := 140) (sC138 hs) (sC139 hs) (sC140 hs) (sC141 hs) (by rw [CS_138_0 hc3]; rfl) (by rw [CS_140_0 hc3]; rfl) g1' p1' g2 p2
    have r1' : Cd (d + 1) 64 [vA 138, vI B] (s, c) = some ([], (s, c1)) := r1
    have r2' : Cd (d + 1) 64 [vA 140, vI A] (s, c1) = some ([], (s, c2)) := r2
    have q' : Cd (d + 1) 65 [vA 138, vA 140] (s, c2) = some ([vI (b2i (decide (A ^ (t + 1) < x * B ^ (t + 1))))], (s, c2)) := q
    have run : ∀ X, (if b2i (decide (A ^ (t + 1) < x * B ^ (t + 1))) = 0 then some ([vI ((t : Int) + 1)], (s, c2)) else Rr (Cd (d + 1)) 153 10 [some (vA 29), o1, some (vI ((t : Int) + 1 + 1))] [] (s, c2)) = X → Rr (Cd (d + 1)) 153 10 [some (vA 29), o1, some (vI ((t : Int) + 1))] [] (s, c) = X := fun X hX => by
      rw [c153_10, if_pos (by omega)]
      repeat (first | rw [bnd_s] | rw [tI_m] | rw [tL_m] | rw [tA_m] | rw [tV_m] | rw [fC29 hs _ (by decide)] | rw [pC29 hs _ _ (by decide)] | rw [fC131 hs _ (by decide)] | rw [pC131 hs _ _ (by decide)] | rw [CS_29_5 hc] | rw [CS_29_3 hc] | rw [eB'] | rw [r1'] | rw [CS_29_6 hc2] | rw [CS_29_3 hc2] | rw [eA2] | rw [r2'] | rw [CS_29_5 hc3] | rw [CS_29_6 hc3] | rw [q'] | rw [w32_id (z := (t : Int) + 1 + 1) (by omega) (by omega)])
      exact hX
    match n, h with
    | 0, h =>
      have : t = 424 := by omega
      subst this
      have e := ng_e x0 x1 b0 b1 a1
      refine ⟨c2, run _ ?_, F2⟩
      rw [decide_eq_false (by show ¬ A ^ 425 < x * B ^ 425; omega)]; rfl
    | n + 1, h =>
      by_cases g : x * B ^ (t + 1) ≤ A ^ (t + 1)
      · refine ⟨c2, run _ ?_, F2⟩
        simp only [ngN]
        rw [decide_eq_false (by omega), if_pos g]; rfl
      · obtain ⟨c3, r3, f3⟩ := k153_10 d hI x0 x1 b0 b1 a1 eB eA o1 n (t + 1) c2 z1 z2 (by omega) F2 g1' g2
        refine ⟨c3, run _ ?_, f3⟩
        simp only [ngN]
        rw [decide_eq_true (by omega), if_neg g, if_neg (by decide)]
        exact r3
theorem k153 (d : Nat) {n0 : Nat} (hI : Inv s b n0) {x B A : Int} (x0 : 0 ≤ x) (x1 : x ≤ 1000000000) (b0 : 0 ≤ B) (b1 : B < A) (a1 : A ≤ 21) (eB : b 131 9 = B) (eA : b 131 8 = A) : ∃ c', Cd (d + 2) 153 [vA 29, vI x] (s, b) = some ([vI (ngN x B A 424 1)], (s, c')) ∧ PQ b c' := by
  have hs := hI.1.l
  have hc := hI.2.2.2.1
  obtain ⟨c1, z1, r1, f1, g1, p1⟩ := k63 d (o := 138) (b := b) (sC138 hs) (sC139 hs) (by rw [CS_138_0 hc]; rfl) x0 x1
  have F1 : PQ b c1 := fun x i hx h1 h2 => f1 x i (by omega) (by omega)
  have hI2 := F1.inv hI
  have hc2 := hI2.2.2.2.1
  obtain ⟨c2, z2, r2, f2, g2, p2⟩ := k63 d (o := 140) (b := c1) (sC140 hs) (sC141 hs) (by rw [CS_140_0 hc2]; rfl) (x := 1) (by decide) (by decide)
  have F2 : PQ b c2 := fun x i hx h1 h2 => (f2 x i (by omega) (by omega)).trans (F1 x i hx h1 h2)
  have g1' := PW_of g1 (f2 138 1 (by omega) (by omega)) (fun i => f2 139 i (by omega) (by omega))
  obtain ⟨c3, r3, f3⟩ := k153_10 d hI x0 x1 b0 b1 a1 eB eA (some (vI x)) 424 0 c2 z1 z2 (by omega) F2 (by rw [Int.pow_zero, Int.mul_one]; exact g1') (by rw [Int.pow_zero]; exact g2)
  refine ⟨c3, ?_, f3⟩
  have r1' : Cd (d + 1) 63 [vA 138, vI x] (s, b) = some ([], (s, c1)) := r1
  have r2' : Cd (d + 1) 63 [vA 140, vI 1] (s, c1) = some ([], (s, c2)) := r2
  rw [c153 (hg := gC29 hs b)]
  repeat (first | rw [bnd_s] | rw [tI_m] | rw [tL_m] | rw [tA_m] | rw [tV_m] | rw [fC29 hs _ (by decide)] | rw [pC29 hs _ _ (by decide)] | rw [CS_29_5 hc] | rw [r1'] | rw [CS_29_6 hc2] | rw [r2'])
  exact r3
theorem m236 (d : Nat) (hs : SpL s) {k : Nat} {m : Int} (hP : MP b k m) : ∃ c', Cd (d + 6) 236 [vA 142, vI m] (s, b) = some ([], (s, c')) ∧ Fm [152, 153, 154] [35, 36] b c' ∧ c' 142 36 = (mx (cntR b k m) (r3 (b 143 (20 + m).toNat)).toNat 0 (-1) (-1)).1 := by
  have hM := hP.1.2.2.2.2.1
  have rb := r3_b hM.2.1.2
  have z : ∃ b', b' = u2 b 142 36 (-1) := ⟨_, rfl⟩
  obtain ⟨b', zb⟩ := z
  have bf : Fm [] [36] b b' := by rw [zb]; exact (Fm.rf _ _ _).f _ (by decide)
  obtain ⟨P, b3, b5⟩ := hP.mv bf (by decide)
  obtain ⟨c3, y1, yf, y36, y35⟩ := m236_5 d hs P.1.1 P.1.2.1 P.1.2.2.1 P.1.2.2.2.1 P.1.2.2.2.2.1 P.1.2.2.2.2.2 P.2.1 (r3 (b 143 (20 + m).toNat)).toNat 0 b' (Fm.rf _ _ _) (by omega) (by rw [b3]; omega) none none
  have cn : cntR b' k m = cntR b k m := funext fun r => by
    unfold cntR; rw [b3, b5]
    exact sumU_cg _ _ (fun i _ _ => by rw [belR_of b3 b5])
  have b36 : b' 142 36 = -1 := by rw [zb, u2_e]
  rw [b36, cn, mx_0 (fun j => (cntR_b hM j).1) (by omega) _ (-1)] at y36
  refine ⟨c3, ?_, (bf.mono (by decide) (by decide)).tr yf, y36⟩
  rw [c236 (hg := gC142 hs _)]
  repeat (first | rw [bnd_s] | rw [tI_m] | rw [tL_m] | rw [tA_m] | rw [tV_m] | rw [fC142 hs _ (by decide)] | rw [pC142 hs _ _ (by decide)])
  rw [← zb]; exact y1
end
theorem mx_le {f : Int → Int} {A : Int} (hf : ∀ j, f j ≤ A) : ∀ (n : Nat) (j b r : Int), b ≤ A → b ≤ (mx f n j b r).1 ∧ (mx f n j b r).1 ≤ A
  | 0, _, b, _, h => ⟨Int.le_refl b, h⟩
  | n + 1, j, b, r, h => by
    simp only [mx]
    by_cases g : b < f j
    · rw [if_pos g]; have := mx_le hf n (j + 1) (f j) j (hf j); exact ⟨by omega, this.2⟩
    · rw [if_neg g]; exact mx_le hf n (j + 1) b r h
theorem mx_nn {f : Int → Int} {A : Int} (h0 : ∀ j, 0 ≤ f j) (hf : ∀ j, f j ≤ A) {n : Nat} (hn : 0 < n) (j r : Int) : 0 ≤ (mx f n j (-1) r).1 ∧ (mx f n j (-1) r).1 ≤ A := by
  match n, hn with
  | n + 1, _ =>
    have := h0 j
    have := hf j
    simp only [mx]
    rw [if_pos (by omega)]
    have := mx_le hf n (j + 1) (f j) j (hf j)
    omega
theorem op_nights (k m v : Int) : Op 130 240 [vI k, vI m, vI v] := by
  intro s c n hI
  by_cases hkm : ((0 ≤ k ∧ k < c 143 1) ∧ (0 ≤ m ∧ m < c 143 0)) ∧ (2 ≤ v ∧ v ≤ 1000000000)
  case neg =>
    have hs := hI.1.l
    have hc := hI.2.2.2.1
    have hm := hI.2.2.1
    obtain ⟨h7, a7, a8⟩ := hI.2.2.2.2.1.2.2.2.1
    have hn := hI.nM
    have n2 := hn.2
    refine ⟨vI (-1), s, s, c, c, n, ?_, ?_, by omega, hI⟩
    · rw [c130 (hg := gC29 hs c)]
      by_cases w1 : v < 2
      · rw [if_pos w1, c130_15]
      · rw [if_neg w1]
        by_cases w2 : 1000000000 < v
        · rw [if_pos w2, c130_15]
        · rw [if_neg w2]
          rw [k152_n _ hI (fun w => hkm ⟨w, ⟨by omega, by omega⟩⟩)]
          repeat (first | rw [bnd_s] | rw [tI_m] | rw [tL_m] | rw [tA_m] | rw [tV_m] | rw [if_pos (show (0 : Int) = 0 from rfl)] | rw [c130_15])
    · rw [c240 (hg := gC142 hs c)]
      repeat (first | rw [bnd_s] | rw [tI_m] | rw [tL_m] | rw [tA_m] | rw [tV_m] | rw [m221 _ hI] | rw [if_b0])
      by_cases g : 0 ≤ k ∧ k < c 143 1
      · rw [inR_t (by omega), cond_t]
        repeat (first | rw [bnd_s] | rw [tI_m] | rw [tL_m] | rw [tA_m] | rw [tV_m] | rw [m173 _ hs hm hn] | rw [if_b0])
        by_cases g2 : 0 ≤ m ∧ m < c 143 0
        · rw [inR_t (by omega), cond_t]
          repeat (first | rw [bnd_s] | rw [tI_m] | rw [tL_m] | rw [tA_m] | rw [tV_m] | rw [m172] | rw [if_b0])
          rw [inR_f (fun w => hkm ⟨⟨g, g2⟩, w⟩), cond_f, c240_13]
        · rw [inR_f (by omega), cond_f, c240_13]
      · rw [inR_f (by omega), cond_f, c240_13]
  obtain ⟨hkm, hv⟩ := hkm
  obtain ⟨s1, c1, n1, r1, hn1, hI1, e3, e5, hA, hP⟩ := k152 994 hI hkm.1 hkm.2
  have hs := hI1.1.l
  have hc := hI1.2.2.2.1
  have hsg := hI.1.l
  rw [← e3] at hkm
  obtain ⟨⟨k0, k1⟩, m0, m1⟩ := hkm
  obtain ⟨M1, M2, q2, fS, E3, E5, hm2, hM2, ha2, kk, hco, q4⟩ := both hI1 k0 k1 m0 m1
  have hM := hI1.mok m m0 m1
  have p8 := hP.2.2.2.1
  have Inv2 : Inv s1 (mSet c1 k.toNat) n1 := Inv_M hI1 fS (by decide)
  have rb := r3_b hM.2.1.2
  have aN := asN_b (a := c1 145 (800 * k.toNat + 3)) hM.2.1.1 hM.2.1.2 hM.2.2.1.1 hM.2.2.1.2
  by_cases hz : asN (c1 145 (800 * k.toNat + 3)) (c1 143 (20 + m).toNat) (c1 143 (24 + m).toNat) = 0
  · refine ⟨vI (-1), s1, s1, c1, mSet c1 k.toNat, n1, ?_, ?_, by omega, Inv2⟩
    · rw [c130 (hg := gC29 hsg c)]
      repeat (first | rw [bnd_s] | rw [tI_m] | rw [tL_m] | rw [tA_m] | rw [tV_m] | rw [if_neg (show ¬ v < 2 by omega)] | rw [if_neg (show ¬ 1000000000 < v by omega)] | rw [r1] | rw [if_neg (show ¬ (1 : Int) = 0 by decide)] | rw [fC29 hs _ (by decide)] | rw [pC29 hs _ _ (by decide)] | rw [fC131 hs _ (by decide)] | rw [pC131 hs _ _ (by decide)] | rw [CS_29_3 hc] | rw [p8] | rw [if_pos hz] | rw [c130_15])
    · rw [c240 (hg := gC142 hs c1)]
      repeat (first | rw [bnd_s] | rw [tI_m] | rw [tL_m] | rw [tA_m] | rw [tV_m] | rw [M1] | rw [M2] | rw [if_b0] | rw [cond_t] | rw [m172] | rw [inR_t (show 2 ≤ v ∧ v ≤ 1000000000 from hv)] | rw [q2] | rw [q4] | rw [if_pos hz])
  have Bb := mx_nn (fun j => (cntR_b (k := k.toNat) hM j).1) (fun j => (cntR_b (k := k.toNat) hM j).2) (show 0 < (r3 (c1 143 (20 + m).toNat)).toNat by omega) 0 (-1)
  have hC : ∃ cC, Cd 999 130 [vA 29, vI k, vI m, vI v] (s, c) = some ([vI (if (mx (cntR c1 k.toNat m) (r3 (c1 143 (20 + m).toNat)).toNat 0 (-1) (-1)).1 < asN (c1 145 (800 * k.toNat + 3)) (c1 143 (20 + m).toNat) (c1 143 (24 + m).toNat) then ngN v (mx (cntR c1 k.toNat m) (r3 (c1 143 (20 + m).toNat)).toNat 0 (-1) (-1)).1 (asN (c1 145 (800 * k.toNat + 3)) (c1 143 (20 + m).toNat) (c1 143 (24 + m).toNat)) 424 1 else -1)], (s1, cC)) ∧ Inv s1 cC n1 ∧ cC 143 = c1 143 ∧ cC 145 = c1 145 := by
    obtain ⟨c2, x1, xf, x9, x11⟩ := k51 994 hI1 m0 m1 ha2 hP
    have hI2 := xf.inv hI1
    have F3 : c2 143 = c1 143 := funext fun i => xf _ _ (by omega) (by omega) (by omega)
    have F5 : c2 145 = c1 145 := funext fun i => xf _ _ (by omega) (by omega) (by omega)
    have hc2 := hI2.2.2.2.1
    have p8' := (PlayR_of hP xf).2.2.2.1
    rw [F3, F5] at p8'
    by_cases g : (mx (cntR c1 k.toNat m) (r3 (c1 143 (20 + m).toNat)).toNat 0 (-1) (-1)).1 < asN (c1 145 (800 * k.toNat + 3)) (c1 143 (20 + m).toNat) (c1 143 (24 + m).toNat)
    · obtain ⟨c3, w1, wf⟩ := k153 996 hI2 (show 0 ≤ v by omega) hv.2 Bb.1 g aN.2 x9 p8'
      refine ⟨c3, ?_, wf.inv hI2, by rw [← F3]; exact funext fun i => wf _ _ (by omega) (by omega) (by omega), by rw [← F5]; exact funext fun i => wf _ _ (by omega) (by omega) (by omega)⟩
      rw [c130 (hg := gC29 hsg c), if_pos g]
      repeat (first | rw [bnd_s] | rw [tI_m] | rw [tL_m] | rw [tA_m] | rw [tV_m] | rw [if_neg (show ¬ v < 2 by omega)] | rw [if_neg (show ¬ 1000000000 < v by omega)] | rw [r1] | rw [if_neg (show ¬ (1 : Int) = 0 by decide)] | rw [fC29 hs _ (by decide)] | rw [pC29 hs _ _ (by decide)] | rw [fC131 hs _ (by decide)] | rw [pC131 hs _ _ (by decide)] | rw [CS_29_3 hc] | rw [p8] | rw [if_neg hz] | rw [x1] | rw [CS_29_3 hc2] | rw [x9] | rw [p8'] | rw [if_pos g] | rw [w1] | rw [c130_32])
    · refine ⟨c2, ?_, hI2, F3, F5⟩
      rw [c130 (hg := gC29 hsg c), if_neg g]
      repeat (first | rw [bnd_s] | rw [tI_m] | rw [tL_m] | rw [tA_m] | rw [tV_m] | rw [if_neg (show ¬ v < 2 by omega)] | rw [if_neg (show ¬ 1000000000 < v by omega)] | rw [r1] | rw [if_neg (show ¬ (1 : Int) = 0 by decide)] | rw [fC29 hs _ (by decide)] | rw [pC29 hs _ _ (by decide)] | rw [fC131 hs _ (by decide)] | rw [pC131 hs _ _ (by decide)] | rw [CS_29_3 hc] | rw [p8] | rw [if_neg hz] | rw [x1] | rw [CS_29_3 hc2] | rw [x9] | rw [p8'] | rw [if_neg g] | rw [c130_32])
  obtain ⟨c2, hC1, hI2, F3, F5⟩ := hC
  obtain ⟨M1, M2, q2, fS, E3, E5, hm2, hM2, -, -, -, q4⟩ := both hI2 k0 (by rw [F3]; exact k1) m0 (by rw [F3]; exact m1)
  have P2 := MP_set hI2 k0 (by rw [F3]; exact k1) m0 (by rw [F3]; exact m1)
  rw [F3, F5] at q4
  obtain ⟨c3, y1, yf, y36⟩ := m236 992 hs P2
  have cn : cntR (mSet c2 k.toNat) k.toNat m = cntR c1 k.toNat m := funext fun r => by
    unfold cntR; rw [E3, E5, F3, F5]
    exact sumU_cg _ _ (fun i _ _ => by rw [belR_of (E3.trans F3) (E5.trans F5)])
  rw [cn, E3, F3] at y36
  obtain ⟨P3, b3, b5⟩ := P2.mv yf (by decide)
  have B3 : c3 143 = c1 143 := b3.trans (E3.trans F3)
  have B5 : c3 145 = c1 145 := b5.trans (E5.trans F5)
  have q4' := P3.n224 997 hs
  rw [B3, B5] at q4'
  by_cases g : (mx (cntR c1 k.toNat m) (r3 (c1 143 (20 + m).toNat)).toNat 0 (-1) (-1)).1 < asN (c1 145 (800 * k.toNat + 3)) (c1 143 (20 + m).toNat) (c1 143 (24 + m).toNat)
  · obtain ⟨c4, t1, t2, t3⟩ := m240_37 998 hs P3.1.1 (some (vI k)) m v 200 0 c3 (by omega) (Fm.rf _ _ _) (fun j hj => by omega)
    have D5 : DV c4 155 1 := ⟨fun i hi => by rw [(t3 i hi).1]; split <;> decide, vlo_1 199 (fun j hj => (t3 j hj).1)⟩
    have D6 : DV c4 156 1 := ⟨fun i hi => by rw [(t3 i hi).2]; split <;> decide, vlo_1 199 (fun j hj => (t3 j hj).2)⟩
    have n2 := num_2
    have Bv := ng_b (x := v) (b := 0) (by omega) hv.2 (by decide) (by decide) (show 0 ≤ 425 by decide)
    rw [Int.pow_zero, Int.mul_one] at Bv
    obtain ⟨c5, r5, f5, g5⟩ := m238 997 (sC155 hs) D5 (show 0 ≤ v by omega) hv.2 (by rw [Int.mul_one]; omega)
    rw [Int.mul_one] at g5
    have T5 : Fm [155, 156] [] c3 c5 := t2.tr ⟨fun o ho _ => funext fun i => f5 o i (fun w => ho (by rw [w]; decide)), fun k _ => f5 142 k (by decide)⟩
    have P4 := (P3.mv t2 (by decide)).1
    obtain ⟨c6, r6, f6⟩ := m240_66 996 hs P3 (x := v) (by omega) hv.2 (by rw [y36]; exact Bb.1) (by rw [y36, B3, B5]; exact g) (by rw [B3, B5]; exact aN.2) (some (vI k)) (some (vI v)) 425 0 c5 (by omega) T5 (by rw [Int.pow_zero, Int.mul_one]; exact g5) (by rw [Int.pow_zero]; exact DV_of D6 (fun i => f5 156 i (by decide)))
    rw [y36, B3, B5] at r6
    have F4 : Fm [152, 153, 154, 155, 156] [25, 26, 27, 28, 35, 36] c2 c6 := (fS.mono (by decide) (by decide)).tr ((yf.mono (by decide) (by decide)).tr (f6.mono (by decide) (by decide)))
    refine ⟨_, s1, s1, c2, c6, n1, hC1, ?_, by omega, Inv_M hI2 F4 (by decide)⟩
    have r5' : Cd 998 238 [vA 155, vI v] (s1, c4) = some ([], (s1, c5)) := r5
    have m37 := P4.1.1
    have ng : ngN v (mx (cntR c1 k.toNat m) (r3 (c1 143 (20 + m).toNat)).toNat 0 (-1) (-1)).1 (asN (c1 145 (800 * k.toNat + 3)) (c1 143 (20 + m).toNat) (c1 143 (24 + m).toNat)) 425 0 = ngN v (mx (cntR c1 k.toNat m) (r3 (c1 143 (20 + m).toNat)).toNat 0 (-1) (-1)).1 (asN (c1 145 (800 * k.toNat + 3)) (c1 143 (20 + m).toNat) (c1 143 (24 + m).toNat)) 424 1 := by
      rw [ngN, if_neg (by rw [Int.pow_zero, Int.pow_zero]; omega)]
    rw [if_pos g, c240 (hg := gC142 hs c2), ← ng]
    repeat (first | rw [bnd_s] | rw [tI_m] | rw [tL_m] | rw [tA_m] | rw [tV_m] | rw [M1] | rw [M2] | rw [if_b0] | rw [cond_t] | rw [m172] | rw [inR_t (show 2 ≤ v ∧ v ≤ 1000000000 from hv)] | rw [q2] | rw [q4] | rw [if_neg hz] | rw [y1] | rw [fC142 hs _ (by decide)] | rw [pC142 hs _ _ (by decide)] | rw [y36] | rw [q4'] | rw [if_neg (show ¬ (mx (cntR c1 k.toNat m) (r3 (c1 143 (20 + m).toNat)).toNat 0 (-1) (-1)).1 = asN (c1 145 (800 * k.toNat + 3)) (c1 143 (20 + m).toNat) (c1 143 (24 + m).toNat) by omega)])
    have t1' : Rr (Cd 998) 240 37 [some (vA 142), some (vI k), some (vI m), some (vI v), some (vI 0)] [] (s1, c3) = Rr (Cd 998) 240 37 [some (vA 142), some (vI k), some (vI m), some (vI v), some (vI 200)] [] (s1, c4) := t1
    rw [t1', c240_37, if_neg (by decide)]
    repeat (first | rw [bnd_s] | rw [tI_m] | rw [tL_m] | rw [tA_m] | rw [tV_m] | rw [fC142 hs _ (by decide)] | rw [pC142 hs _ _ (by decide)] | rw [MS_37 m37] | rw [r5'])
    exact r6
  · have F4 : Fm [152, 153, 154] [25, 26, 27, 28, 35, 36] c2 c3 := (fS.mono (by decide) (by decide)).tr (yf.mono (by decide) (by decide))
    refine ⟨_, s1, s1, c2, c3, n1, hC1, ?_, by omega, Inv_M hI2 F4 (by decide)⟩
    rw [if_neg g, c240 (hg := gC142 hs c2)]
    repeat (first | rw [bnd_s] | rw [tI_m] | rw [tL_m] | rw [tA_m] | rw [tV_m] | rw [M1] | rw [M2] | rw [if_b0] | rw [cond_t] | rw [m172] | rw [inR_t (show 2 ≤ v ∧ v ≤ 1000000000 from hv)] | rw [q2] | rw [q4] | rw [if_neg hz] | rw [y1] | rw [fC142 hs _ (by decide)] | rw [pC142 hs _ _ (by decide)] | rw [y36] | rw [q4'] | rw [if_pos (show (mx (cntR c1 k.toNat m) (r3 (c1 143 (20 + m).toNat)).toNat 0 (-1) (-1)).1 = asN (c1 145 (800 * k.toNat + 3)) (c1 143 (20 + m).toNat) (c1 143 (24 + m).toNat) by omega)])
