/-! the tape -/
theorem iand_255 (x : Int) : 0 ≤ iand x 255 ∧ iand x 255 ≤ 255 := by
  unfold iand
  have h : (Int32.ofInt x &&& Int32.ofInt 255).toBitVec.toNat ≤ 255 := by
    rw [Int32.toBitVec_and, BitVec.toNat_and]
    exact Nat.le_trans Nat.and_le_right (by decide)
  rw [toI_of rfl (by omega)]
  omega
def by4 (v j : Int) : Int := iand (ishr v (24 - 8 * j)) 255
/-- four bytes behind a tape -/
def App (T o f : Nat) (l v : Int) (c c' : Nat → Nat → Int) : Prop := c' o f = l + 4 ∧ (∀ i, 0 ≤ i → i < l → c' T i.toNat = c T i.toNat) ∧ (∀ j, 0 ≤ j → j < 4 → c' T (l + j).toNat = by4 v j) ∧ ∀ o' k, o' ≠ T → ¬ (o' = o ∧ k = f) → c' o' k = c o' k
theorem k67 (d : Nat) {s : List (Nat × Nat)} {c : Nat → Nat → Int} (hs : SpL s) (hc : c 122 0 = 123) {l : Int} (hl : c 122 5 = l) (h0 : 0 ≤ l) (h1 : l + 4 ≤ 300) (v : Int) : ∃ c', Cd (d + 1) 67 [vA 122, vI v] (s, c) = some ([], (s, c')) ∧ App 123 122 5 l v c c' := by
  refine ⟨(u2 (u2 (u2 (u2 (u2 (u2 (u2 (u2 c 123 l.toNat (iand (ishr v 24) 255)) 122 5 (l + 1)) 123 (l + 1).toNat (iand (ishr v 16) 255)) 122 5 (l + 2)) 123 (l + 2).toNat (iand (ishr v 8) 255)) 122 5 (l + 3)) 123 (l + 3).toNat (iand (ishr v 0) 255)) 122 5 (l + 4)), ?_, ?_, fun i g0 g1 => ?_, fun j g0 g1 => ?_, fun o' k g1 g2 => ?_⟩
  · rw [c67 (hg := gC122 hs c)]
    repeat (first | rw [bnd_s] | rw [tI_m] | rw [tL_m] | rw [tA_m] | rw [tV_m] | rw [fC122 hs _ (by decide)] | rw [pC122 hs _ _ (by decide)] | rw [u2_e] | rw [u2_n (by omega)] | rw [hc] | rw [hl] | rw [qC123 hs _ _ (by omega) (by omega)] | rw [w32_id (z := l + 1) (by omega) (by omega)] | rw [w32_id (z := l + 1 + 1) (by omega) (by omega)] | rw [w32_id (z := l + 2 + 1) (by omega) (by omega)] | rw [w32_id (z := l + 3 + 1) (by omega) (by omega)] | rw [show l + 1 + 1 = l + 2 by omega] | rw [show l + 2 + 1 = l + 3 by omega] | rw [show l + 3 + 1 = l + 4 by omega] | rw [show w32 ((24 : Int) + (-8)) = 16 by decide] | rw [show w32 ((16 : Int) + (-8)) = 8 by decide] | rw [show w32 ((8 : Int) + (-8)) = 0 by decide] | rw [show w32 ((0 : Int) + (-8)) = -8 by decide] | rw [if_neg (show ¬ (24 : Int) < 0 by decide)] | rw [if_neg (show ¬ (16 : Int) < 0 by decide)] | rw [if_neg (show ¬ (8 : Int) < 0 by decide)] | rw [if_neg (show ¬ (0 : Int) < 0 by decide)] | rw [if_pos (show (-8 : Int) < 0 by decide)] | rw [if_pos (show l < 300 by omega)] | rw [if_pos (show l + 1 < 300 by omega)] | rw [if_pos (show l + 2 < 300 by omega)] | rw [if_pos (show l + 3 < 300 by omega)] | rw [c67_24] | rw [c67_2])
  · rw [u2_e]
  · repeat rw [u2_n (by omega)]
  · have : j = 0 ∨ j = 1 ∨ j = 2 ∨ j = 3 := by omega
    rcases this with rfl | rfl | rfl | rfl
    · rw [show l + 0 = l by omega]
      repeat (first | rw [u2_e] | rw [u2_n (by omega)])
      rfl
    all_goals (repeat (first | rw [u2_e] | rw [u2_n (by omega)]))
    all_goals rfl
  · repeat rw [u2_n (by omega)]
theorem m192 (d : Nat) {s : List (Nat × Nat)} {c : Nat → Nat → Int} (hs : SpL s) (hm : c 142 8 = 150) {l : Int} (hl : c 142 9 = l) (h0 : 0 ≤ l) (h1 : l + 4 ≤ 300) (v : Int) : ∃ c', Cd (d + 1) 192 [vA 142, vI v] (s, c) = some ([], (s, c')) ∧ App 150 142 9 l v c c' := by
  refine ⟨(u2 (u2 (u2 (u2 (u2 (u2 (u2 (u2 c 150 l.toNat (iand (ishr v 24) 255)) 142 9 (l + 1)) 150 (l + 1).toNat (iand (ishr v 16) 255)) 142 9 (l + 2)) 150 (l + 2).toNat (iand (ishr v 8) 255)) 142 9 (l + 3)) 150 (l + 3).toNat (iand (ishr v 0) 255)) 142 9 (l + 4)), ?_, ?_, fun i g0 g1 => ?_, fun j g0 g1 => ?_, fun o' k g1 g2 => ?_⟩
  · rw [c192 (hg := gC142 hs c)]
    repeat (first | rw [bnd_s] | rw [tI_m] | rw [tL_m] | rw [tA_m] | rw [tV_m] | rw [fC142 hs _ (by decide)] | rw [pC142 hs _ _ (by decide)] | rw [u2_e] | rw [u2_n (by omega)] | rw [hm] | rw [hl] | rw [qC150 hs _ _ (by omega) (by omega)] | rw [w32_id (z := l + 1) (by omega) (by omega)] | rw [w32_id (z := l + 1 + 1) (by omega) (by omega)] | rw [w32_id (z := l + 2 + 1) (by omega) (by omega)] | rw [w32_id (z := l + 3 + 1) (by omega) (by omega)] | rw [show l + 1 + 1 = l + 2 by omega] | rw [show l + 2 + 1 = l + 3 by omega] | rw [show l + 3 + 1 = l + 4 by omega] | rw [show w32 ((24 : Int) + (-8)) = 16 by decide] | rw [show w32 ((16 : Int) + (-8)) = 8 by decide] | rw [show w32 ((8 : Int) + (-8)) = 0 by decide] | rw [show w32 ((0 : Int) + (-8)) = -8 by decide] | rw [if_neg (show ¬ (24 : Int) < 0 by decide)] | rw [if_neg (show ¬ (16 : Int) < 0 by decide)] | rw [if_neg (show ¬ (8 : Int) < 0 by decide)] | rw [if_neg (show ¬ (0 : Int) < 0 by decide)] | rw [if_pos (show (-8 : Int) < 0 by decide)] | rw [c192_2])
  · rw [u2_e]
  · repeat rw [u2_n (by omega)]
  · have : j = 0 ∨ j = 1 ∨ j = 2 ∨ j = 3 := by omega
    rcases this with rfl | rfl | rfl | rfl
    · rw [show l + 0 = l by omega]
      repeat (first | rw [u2_e] | rw [u2_n (by omega)])
      rfl
    all_goals (repeat (first | rw [u2_e] | rw [u2_n (by omega)]))
    all_goals rfl
  · repeat rw [u2_n (by omega)]
def TR (t1 t2 : Nat → Int) (l : Int) : Prop := ∀ i, 0 ≤ i → i < l → t1 i.toNat = t2 i.toNat ∧ 0 ≤ t2 i.toNat ∧ t2 i.toNat ≤ 255
theorem TR_app {c1 c1' c2 c2' : Nat → Nat → Int} {l v : Int} (h0 : 0 ≤ l) (h : TR (c1 123) (c2 150) l) (a : App 123 122 5 l v c1 c1') (b : App 150 142 9 l v c2 c2') : TR (c1' 123) (c2' 150) (l + 4) := by
  intro i g0 g1
  by_cases hi : i < l
  · rw [a.2.1 i g0 hi, b.2.1 i g0 hi]; exact h i g0 hi
  · obtain ⟨j, hj⟩ : ∃ j, j = i - l := ⟨_, rfl⟩
    have e : i = l + j := by omega
    rw [e, a.2.2.1 j (by omega) (by omega), b.2.2.1 j (by omega) (by omega)]
    exact ⟨rfl, iand_255 _⟩
/-- a change of the tape, and of what was last read -/
theorem Inv_tape {s : List (Nat × Nat)} {c c' : Nat → Nat → Int} {n : Nat} (hI : Inv s c n) (e : ∀ o k, ¬ (122 ≤ o ∧ o ≤ 130) → o ≠ 142 → o ≠ 150 → ¬ (148 ≤ o ∧ o ≤ 158) → c' o k = c o k) (e1 : ∀ k, k < 5 → c' 122 k = c 122 k) (e2 : ∀ k, k < 3 → c' 127 k = c 127 k) (e3 : ∀ q ∈ mRefs, c' 142 q.1 = c 142 q.1) (h : TapeRel c') : Inv s c' n := by
  have hmok := hI.mok
  have hn := hI.nM
  have n2 := hn.2
  obtain ⟨i1, i2, i3, i4, i5, i6, i7, i8, i9, i10⟩ := hI
  have ec : ∀ o, ¬ (122 ≤ o ∧ o ≤ 130) → o ≠ 142 → o ≠ 150 → ¬ (148 ≤ o ∧ o ≤ 158) → c' o = c o := fun o g1 g2 g3 g4 => funext fun k => e o k g1 g2 g3 g4
  refine ⟨i1, Xt_of i2 (fun o k ho => e o k (by omega) (by omega) (by omega) (by omega)), MS_of i3 e3 (ec _ (by omega) (by omega) (by omega) (by omega)) (ec _ (by omega) (by omega) (by omega) (by omega)), CS_k i4 (fun o k hk => ?_) (ec _ (by omega) (by omega) (by omega) (by omega)), ?_, ?_, ?_, RefI_of i8 (fun m hm => ⟨e _ _ (by omega) (by omega) (by omega) (by omega), e _ _ (by omega) (by omega) (by omega) (by omega)⟩), AnsI_of i9 (ec _ (by omega) (by omega) (by omega) (by omega)) (fun o k h1 h2 => e o k (by omega) (by omega) (by omega) (by omega)) (fun o ho => ec o (by omega) (by omega) (by omega) (by omega)), h⟩
  · by_cases ho : 122 ≤ o ∧ o ≤ 130
    · have : (o = 122 ∧ k < 5) ∨ (o = 127 ∧ k < 3) := by
        have hk2 : (cRefs.all fun q => !decide (122 ≤ q.1 ∧ q.1 ≤ 130) || (q.1 == 122 && decide (q.2.1 < 5)) || (q.1 == 127 && decide (q.2.1 < 3))) = true := by decide +kernel
        obtain ⟨q, hq, g⟩ := List.any_eq_true.mp hk
        simp only [Bool.and_eq_true, beq_iff_eq] at g
        obtain ⟨rfl, rfl⟩ := g
        have := List.all_eq_true.mp hk2 q hq
        rw [decide_eq_true ho] at this
        simpa using this
      rcases this with ⟨rfl, g⟩ | ⟨rfl, g⟩
      · exact e1 k g
      · exact e2 k g
    · have := isRf_n hk
      exact e o k ho (by omega) (by omega) (by omega)
  · rw [ec 143 (by omega) (by omega) (by omega) (by omega), ec 145 (by omega) (by omega) (by omega) (by omega)]
    exact StRel_of i5 (fun o k h1 h2 _ _ _ _ _ => e o k (by omega) (by omega) (by omega) (by omega))
  · rw [ec 144 (by omega) (by omega) (by omega) (by omega), ec 145 (by omega) (by omega) (by omega) (by omega)]
    exact StRel_of i6 (fun o k h1 h2 _ _ _ _ _ => e o k (by omega) (by omega) (by omega) (by omega))
  · rw [ec 144 (by omega) (by omega) (by omega) (by omega), ec 143 (by omega) (by omega) (by omega) (by omega)]; exact i7
theorem op_end (v : Int) : Op 124 194 [vI v] := by
  intro s c n hI
  have hs := hI.1.l
  have hc := hI.2.2.2.1
  have hm := hI.2.2.1
  have n2 := hI.nM.2
  obtain ⟨⟨t1, t2, t3⟩, t4, t5, t6⟩ := hI.2.2.2.2.2.2.2.2.2
  by_cases h1 : 0 ≤ v
  · by_cases h2 : v ≤ c 142 9
    · have r1 : Cd 999 124 [vA 29, vI v] (s, c) = some ([vI v], (s, (u2 c 122 5 v))) := by
        rw [c124 (hg := gC29 hs c)]
        repeat (first | rw [bnd_s] | rw [tI_m] | rw [tL_m] | rw [tA_m] | rw [tV_m] | rw [fC29 hs _ (by decide)] | rw [pC29 hs _ _ (by decide)] | rw [fC122 hs _ (by decide)] | rw [pC122 hs _ _ (by decide)] | rw [CS_29_2 hc] | rw [t1] | rw [if_pos (by omega)] | rw [if_neg (by omega)])
      have r2 : Cd 999 194 [vA 142, vI v] (s, (u2 c 122 5 v)) = some ([vI v], (s, (u2 (u2 c 122 5 v) 142 9 v))) := by
        rw [c194 (hg := gC142 hs _)]
        repeat (first | rw [bnd_s] | rw [tI_m] | rw [tL_m] | rw [tA_m] | rw [tV_m] | rw [fC142 hs _ (by decide)] | rw [pC142 hs _ _ (by decide)] | rw [u2_e] | rw [u2_n (by omega)] | rw [m172] | rw [if_b0] | rw [decide_eq_true (by omega)] | rw [decide_eq_false (by omega)] | rw [inR_t (by omega)] | rw [inR_f (by omega)] | rw [cond_t] | rw [cond_f])
      refine ⟨_, s, s, _, (u2 (u2 c 122 5 v) 142 9 v), n, r1, r2, by omega, ?_⟩
      refine Inv_tape hI (fun o k g1 g2 g3 g4 => ?_) (fun k hk => ?_) (fun k hk => ?_) (fun q hq => ?_) ⟨⟨?_, ?_, ?_⟩, fun i g0 g1 => ?_, ?_, ?_⟩
      case refine_4 =>
        have hk2 : (mRefs.all fun q => q.1 != 9) = true := by decide
        have := List.all_eq_true.mp hk2 q hq
        rw [u2_n (by simp at this; omega), u2_n (by omega)]
      case refine_8 =>
        rw [u2_e] at g1
        repeat rw [u2_n (by omega)]
        exact t4 i g0 (by omega)
      all_goals (repeat (first | rw [u2_e] | rw [u2_n (by omega)]))
      all_goals (first | omega | assumption)
    · have r1 : Cd 999 124 [vA 29, vI v] (s, c) = some ([vI (-1)], (s, c)) := by
        rw [c124 (hg := gC29 hs c)]
        repeat (first | rw [bnd_s] | rw [tI_m] | rw [tL_m] | rw [tA_m] | rw [tV_m] | rw [fC29 hs _ (by decide)] | rw [pC29 hs _ _ (by decide)] | rw [fC122 hs _ (by decide)] | rw [pC122 hs _ _ (by decide)] | rw [CS_29_2 hc] | rw [t1] | rw [if_pos (by omega)] | rw [if_neg (by omega)] | rw [c124_7])
      have r2 : Cd 999 194 [vA 142, vI v] (s, c) = some ([vI (-1)], (s, c)) := by
        rw [c194 (hg := gC142 hs c)]
        repeat (first | rw [bnd_s] | rw [tI_m] | rw [tL_m] | rw [tA_m] | rw [tV_m] | rw [fC142 hs _ (by decide)] | rw [pC142 hs _ _ (by decide)] | rw [MS_0 hm] | rw [MS_1 hm] | rw [MS_2 hm] | rw [MS_3 hm] | rw [MS_4 hm] | rw [MS_5 hm] | rw [MS_7 hm] | rw [MS_8 hm] | rw [MS_21 hm] | rw [MS_29 hm] | rw [MS_30 hm] | rw [MS_31 hm] | rw [MS_37 hm] | rw [MS_38 hm] | rw [MS_39 hm] | rw [MS_40 hm] | rw [m172] | rw [if_b0] | rw [decide_eq_true (by omega)] | rw [decide_eq_false (by omega)] | rw [inR_t (by omega)] | rw [inR_f (by omega)] | rw [cond_t] | rw [cond_f])
      exact ⟨_, s, s, c, c, n, r1, r2, by omega, hI⟩
  · have r1 : Cd 999 124 [vA 29, vI v] (s, c) = some ([vI (-1)], (s, c)) := by
      rw [c124 (hg := gC29 hs c)]
      repeat (first | rw [bnd_s] | rw [tI_m] | rw [tL_m] | rw [tA_m] | rw [tV_m] | rw [fC29 hs _ (by decide)] | rw [pC29 hs _ _ (by decide)] | rw [fC122 hs _ (by decide)] | rw [pC122 hs _ _ (by decide)] | rw [CS_29_2 hc] | rw [t1] | rw [if_pos (by omega)] | rw [if_neg (by omega)] | rw [c124_7])
    have r2 : Cd 999 194 [vA 142, vI v] (s, c) = some ([vI (-1)], (s, c)) := by
      rw [c194 (hg := gC142 hs c)]
      repeat (first | rw [bnd_s] | rw [tI_m] | rw [tL_m] | rw [tA_m] | rw [tV_m] | rw [fC142 hs _ (by decide)] | rw [pC142 hs _ _ (by decide)] | rw [MS_0 hm] | rw [MS_1 hm] | rw [MS_2 hm] | rw [MS_3 hm] | rw [MS_4 hm] | rw [MS_5 hm] | rw [MS_7 hm] | rw [MS_8 hm] | rw [MS_21 hm] | rw [MS_29 hm] | rw [MS_30 hm] | rw [MS_31 hm] | rw [MS_37 hm] | rw [MS_38 hm] | rw [MS_39 hm] | rw [MS_40 hm] | rw [m172] | rw [if_b0] | rw [decide_eq_true (by omega)] | rw [decide_eq_false (by omega)] | rw [inR_t (by omega)] | rw [inR_f (by omega)] | rw [cond_t] | rw [cond_f])
    exact ⟨_, s, s, c, c, n, r1, r2, by omega, hI⟩
theorem op_fault (v : Int) : Op 126 220 [vI v] := by
  intro s c n hI
  have hs := hI.1.l
  have hc := hI.2.2.2.1
  have hm := hI.2.2.1
  have n2 := hI.nM.2
  obtain ⟨⟨t1, t2, t3⟩, t4, t5, t6⟩ := hI.2.2.2.2.2.2.2.2.2
  refine ⟨vI (if v = 0 then c 142 10 else if v = 1 then c 142 11 else -1), s, s, c, c, n, ?_, ?_, by omega, hI⟩
  · rw [c126 (hg := gC29 hs c)]
    by_cases h : v = 0
    · rw [if_pos h, if_pos h]
      repeat (first | rw [bnd_s] | rw [tI_m] | rw [tL_m] | rw [tA_m] | rw [tV_m] | rw [fC29 hs _ (by decide)] | rw [pC29 hs _ _ (by decide)] | rw [fC122 hs _ (by decide)] | rw [pC122 hs _ _ (by decide)] | rw [CS_29_2 hc] | rw [t5])
    · rw [if_neg h, if_neg h]
      by_cases h1 : v = 1
      · rw [if_pos h1, if_pos h1]
        repeat (first | rw [bnd_s] | rw [tI_m] | rw [tL_m] | rw [tA_m] | rw [tV_m] | rw [fC29 hs _ (by decide)] | rw [pC29 hs _ _ (by decide)] | rw [fC122 hs _ (by decide)] | rw [pC122 hs _ _ (by decide)] | rw [CS_29_2 hc] | rw [t6] | rw [c126_14])
      · rw [if_neg h1, if_neg h1, c126_14]
  · rw [c220 (hg := gC142 hs c)]
    by_cases h : v = 0
    · rw [if_pos h, if_pos h]
      repeat (first | rw [bnd_s] | rw [tI_m] | rw [tL_m] | rw [tA_m] | rw [tV_m] | rw [fC142 hs _ (by decide)] | rw [pC142 hs _ _ (by decide)] | rw [c220_12])
    · rw [if_neg h, if_neg h]
      by_cases h1 : v = 1
      · rw [if_pos h1, if_pos h1]
        repeat (first | rw [bnd_s] | rw [tI_m] | rw [tL_m] | rw [tA_m] | rw [tV_m] | rw [fC142 hs _ (by decide)] | rw [pC142 hs _ _ (by decide)] | rw [c220_12])
      · rw [if_neg h1, if_neg h1, c220_12]
theorem op_feed (v1 v2 v3 v4 v5 : Int) : Op 123 193 [vI v1, vI v2, vI v3, vI v4, vI v5] := by
  intro s c n hI
  have hs := hI.1.l
  have hc := hI.2.2.2.1
  have hm := hI.2.2.1
  have n2 := hI.nM.2
  obtain ⟨⟨t1, t2, t3⟩, t4, t5, t6⟩ := hI.2.2.2.2.2.2.2.2.2
  by_cases h : 300 < c 142 9 + 20
  · have r1 : Cd 999 123 [vA 29, vI v1, vI v2, vI v3, vI v4, vI v5] (s, c) = some ([vI (-1)], (s, c)) := by
      rw [c123 (hg := gC29 hs c)]
      repeat (first | rw [bnd_s] | rw [tI_m] | rw [tL_m] | rw [tA_m] | rw [tV_m] | rw [fC29 hs _ (by decide)] | rw [pC29 hs _ _ (by decide)] | rw [fC122 hs _ (by decide)] | rw [pC122 hs _ _ (by decide)] | rw [CS_29_2 hc] | rw [t1] | rw [w32_id (z := c 142 9 + 20) (by omega) (by omega)] | rw [if_pos h])
    have r2 : Cd 999 193 [vA 142, vI v1, vI v2, vI v3, vI v4, vI v5] (s, c) = some ([vI (-1)], (s, c)) := by
      rw [c193 (hg := gC142 hs c)]
      repeat (first | rw [bnd_s] | rw [tI_m] | rw [tL_m] | rw [tA_m] | rw [tV_m] | rw [fC142 hs _ (by decide)] | rw [pC142 hs _ _ (by decide)] | rw [w32_id (z := c 142 9 + 20) (by omega) (by omega)] | rw [if_pos h])
    exact ⟨_, s, s, c, c, n, r1, r2, by omega, hI⟩
  · generalize hL : c 142 9 = L at *
    have rf : ∀ {c' c'' : Nat → Nat → Int} {l v : Int}, App 123 122 5 l v c' c'' → (c' 29 2 = 122 ∧ c' 122 0 = 123) → c'' 29 2 = 122 ∧ c'' 122 0 = 123 := fun a g => ⟨(a.2.2.2 29 2 (by decide) (by decide)).trans g.1, (a.2.2.2 122 0 (by decide) (by decide)).trans g.2⟩
    have f0 : c 29 2 = 122 ∧ c 122 0 = 123 := ⟨CS_29_2 hc, CS_122_0 hc⟩
    obtain ⟨c1, q1, a1⟩ := k67 997 hs f0.2 t1 t2 (by omega) v1
    have f1 := rf a1 f0
    obtain ⟨c2, q2, a2⟩ := k67 997 hs f1.2 a1.1 (by omega) (by omega) v2
    have f2 := rf a2 f1
    obtain ⟨c3, q3, a3⟩ := k67 997 hs f2.2 a2.1 (by omega) (by omega) v3
    have f3 := rf a3 f2
    obtain ⟨c4, q4, a4⟩ := k67 997 hs f3.2 a3.1 (by omega) (by omega) v4
    have f4 := rf a4 f3
    obtain ⟨c5, q5, a5⟩ := k67 997 hs f4.2 a4.1 (by omega) (by omega) v5
    have f5 := rf a5 f4
    have r1 : Cd 999 123 [vA 29, vI v1, vI v2, vI v3, vI v4, vI v5] (s, c) = some ([vI (L + 20)], (s, c5)) := by
      rw [c123 (hg := gC29 hs c)]
      repeat (first | rw [bnd_s] | rw [tI_m] | rw [tL_m] | rw [tA_m] | rw [tV_m] | rw [fC29 hs _ (by decide)] | rw [pC29 hs _ _ (by decide)] | rw [fC122 hs _ (by decide)] | rw [pC122 hs _ _ (by decide)] | rw [f0.1] | rw [f1.1] | rw [f2.1] | rw [f3.1] | rw [f4.1] | rw [f5.1] | rw [t1] | rw [q1] | rw [q2] | rw [q3] | rw [q4] | rw [q5] | rw [w32_id (z := L + 20) (by omega) (by omega)] | rw [if_neg h] | rw [a5.1])
      rw [show L + 4 + 4 + 4 + 4 + 4 = L + 20 by omega]
    have kp : ∀ o k, o ≠ 123 → ¬ (o = 122 ∧ k = 5) → c5 o k = c o k := fun o k g1 g2 => by
      rw [a5.2.2.2 o k g1 g2, a4.2.2.2 o k g1 g2, a3.2.2.2 o k g1 g2, a2.2.2.2 o k g1 g2, a1.2.2.2 o k g1 g2]
    have g0 : c5 142 8 = 150 := (kp 142 8 (by decide) (by decide)).trans (MS_8 hm)
    have t1' : c5 142 9 = L := (kp 142 9 (by decide) (by decide)).trans hL
    have rg : ∀ {c' c'' : Nat → Nat → Int} {l v : Int}, App 150 142 9 l v c' c'' → c' 142 8 = 150 → c'' 142 8 = 150 := fun a g => (a.2.2.2 142 8 (by decide) (by decide)).trans g
    obtain ⟨d1, p1, b1⟩ := m192 997 hs g0 t1' t2 (by omega) v1
    have g1 := rg b1 g0
    obtain ⟨d2, p2, b2⟩ := m192 997 hs g1 b1.1 (by omega) (by omega) v2
    have g2 := rg b2 g1
    obtain ⟨d3, p3, b3⟩ := m192 997 hs g2 b2.1 (by omega) (by omega) v3
    have g3 := rg b3 g2
    obtain ⟨d4, p4, b4⟩ := m192 997 hs g3 b3.1 (by omega) (by omega) v4
    have g4 := rg b4 g3
    obtain ⟨d5, p5, b5⟩ := m192 997 hs g4 b4.1 (by omega) (by omega) v5
    have r2 : Cd 999 193 [vA 142, vI v1, vI v2, vI v3, vI v4, vI v5] (s, c5) = some ([vI (L + 20)], (s, d5)) := by
      rw [c193 (hg := gC142 hs c5)]
      repeat (first | rw [bnd_s] | rw [tI_m] | rw [tL_m] | rw [tA_m] | rw [tV_m] | rw [fC142 hs _ (by decide)] | rw [pC142 hs _ _ (by decide)] | rw [t1'] | rw [p1] | rw [p2] | rw [p3] | rw [p4] | rw [p5] | rw [w32_id (z := L + 20) (by omega) (by omega)] | rw [if_neg h] | rw [b5.1])
      rw [show L + 4 + 4 + 4 + 4 + 4 = L + 20 by omega]
    have kd : ∀ o k, o ≠ 150 → ¬ (o = 142 ∧ k = 9) → d5 o k = c5 o k := fun o k g1 g2 => by
      rw [b5.2.2.2 o k g1 g2, b4.2.2.2 o k g1 g2, b3.2.2.2 o k g1 g2, b2.2.2.2 o k g1 g2, b1.2.2.2 o k g1 g2]
    have e150 : c5 150 = c 150 := funext fun k => kp 150 k (by omega) (by omega)
    have T0 : TR (c 123) (c5 150) L := by rw [e150]; exact t4
    have T1 := TR_app t2 T0 a1 b1
    have T2 := TR_app (by omega) T1 a2 b2
    have T3 := TR_app (by omega) T2 a3 b3
    have T4 := TR_app (by omega) T3 a4 b4
    have T5 := TR_app (by omega) T4 a5 b5
    refine ⟨_, s, s, c5, d5, n, r1, r2, by omega, ?_⟩
    refine Inv_tape hI (fun o k x1 x2 x3 x4 => ?_) (fun k hk => ?_) (fun k hk => ?_) (fun q hq => ?_) ⟨⟨?_, ?_, ?_⟩, fun i x0 x1 => ?_, ?_, ?_⟩
    · rw [kd o k x3 (by omega), kp o k (by omega) (by omega)]
    · rw [kd 122 k (by omega) (by omega), kp 122 k (by omega) (by omega)]
    · rw [kd 127 k (by omega) (by omega), kp 127 k (by omega) (by omega)]
    · have hk2 : (mRefs.all fun q => q.1 != 9) = true := by decide
      have := List.all_eq_true.mp hk2 q hq
      simp at this
      rw [kd 142 _ (by omega) (by omega), kp 142 _ (by omega) (by omega)]
    · rw [kd 122 5 (by omega) (by omega), a5.1, b5.1]
    · rw [b5.1]; omega
    · rw [b5.1]; omega
    · rw [b5.1] at x1
      have := T5 i x0 x1
      rw [show d5 123 = c5 123 from funext fun k => kd 123 k (by omega) (by omega)]
      exact this
    · rw [kd 122 6 (by omega) (by omega), kd 142 10 (by omega) (by omega), kp 122 6 (by omega) (by omega), kp 142 10 (by omega) (by omega)]; exact t5
    · rw [kd 122 7 (by omega) (by omega), kd 142 11 (by omega) (by omega), kp 122 7 (by omega) (by omega), kp 142 11 (by omega) (by omega)]; exact t6
