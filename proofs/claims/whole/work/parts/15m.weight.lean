/-! weight -/
def okL (c : Nat → Nat → Int) (m r n s l : Int) : Bool := decide (c 143 (150 + 7 * n + l).toNat < 0) || decide (swp s (pnt (c 143 (20 + m).toNat) r l) = c 143 (150 + 7 * n + l).toNat)
/-- a swap makes a night as it was seen -/
def mtc (c : Nat → Nat → Int) (m r n s : Int) : Bool := allU (okL c m r n s) (c 143 (20 + m).toNat).toNat 0
def prU (f : Int → Int) : Nat → Int → Int
  | 0, _ => 1
  | n + 1, j => f j * prU f n (j + 1)
theorem prU_cg {f g : Int → Int} : ∀ (n : Nat) (j : Int), (∀ i, j ≤ i → i < j + n → f i = g i) → prU f n j = prU g n j
  | 0, _, _ => rfl
  | n + 1, j, h => by simp only [prU]; rw [h j (by omega) (by omega), prU_cg n (j + 1) (fun i h1 h2 => h i (by omega) (by omega))]
def wN (b : Nat → Nat → Int) (k : Nat) (m r j : Int) : Int := if sawN b (b 143 (20 + m).toNat).toNat j then sumU (fun v => b2i (mtc b m r j (drS (b 145 (800 * k + 1)) v))) (b 145 (800 * k + 1)).toNat 0 else 1
def wgt (b : Nat → Nat → Int) (k : Nat) (m r : Int) : Int := if b 145 (800 * k + 2) = 0 then prU (wN b k m r) 20 0 else sumU (fun v => b2i (allU (fun j => mtc b m r j (drS (b 145 (800 * k + 1)) v)) 20 0)) (b 145 (800 * k + 1)).toNat 0
theorem cn_b (b : Nat → Nat → Int) (k : Nat) (m r j : Int) (hw : b 145 (800 * k + 1) = 1 ∨ b 145 (800 * k + 1) = 2 ∨ b 145 (800 * k + 1) = 3 ∨ b 145 (800 * k + 1) = 6) : 0 ≤ sumU (fun v => b2i (mtc b m r j (drS (b 145 (800 * k + 1)) v))) (b 145 (800 * k + 1)).toNat 0 ∧ sumU (fun v => b2i (mtc b m r j (drS (b 145 (800 * k + 1)) v))) (b 145 (800 * k + 1)).toNat 0 ≤ 6 := by
  have := sumU_b (B := 1) (fun v => b2i (mtc b m r j (drS (b 145 (800 * k + 1)) v))) (b 145 (800 * k + 1)).toNat 0 (fun i _ _ => b2i_b _)
  omega
section
variable {s : List (Nat × Nat)} {b : Nat → Nat → Int}
theorem m249_2 (d : Nat) (hs : SpL s) (hm : MS b) {m : Int} (hM : MapOK b m) {r j w : Int} (r0 : 0 ≤ r) (r1 : r < 2187) (j0 : 0 ≤ j) (j1 : j < 20) (w0 : 0 ≤ w) (w1 : w < 6) : ∀ (n : Nat) (l : Int) (o6 : Option AV), 0 ≤ l → l + n = b 143 (20 + m).toNat → Rr (Cd (d + 1)) 249 2 [some (vA 142), some (vI m), some (vI r), some (vI j), some (vI w), some (vI l), o6] [] (s, b) = some ([vI (b2i (allU (okL b m r j w) n l))], (s, b))
  | 0, l, o6, h0, h => by
    obtain ⟨⟨k0, k1⟩, ⟨k2, k3⟩, -⟩ := id hM
    rw [c249_2]
    repeat (first | rw [bnd_s] | rw [tI_m] | rw [tL_m] | rw [tA_m] | rw [tV_m] | rw [fC142 hs _ (by decide)] | rw [pC142 hs _ _ (by decide)] | rw [MS_0 hm] | rw [w32_id (z := 20 + m) (by omega) (by omega)] | rw [aC143 hs _ (show 0 ≤ 20 + m by omega) (by omega)] | rw [if_neg (show ¬ l < b 143 (20 + m).toNat by omega)])
    rfl
  | n + 1, l, o6, h0, h => by
    obtain ⟨⟨k0, k1⟩, ⟨k2, k3⟩, -⟩ := id hM
    have p := pnt_b (b 143 (20 + m).toNat) r l
    have ih := fun o6 => m249_2 d hs hm hM r0 r1 j0 j1 w0 w1 n (l + 1) o6 (by omega) (by omega)
    simp only [allU, okL]
    rw [c249_2]
    repeat (first | rw [bnd_s] | rw [tI_m] | rw [tL_m] | rw [tA_m] | rw [tV_m] | rw [fC142 hs _ (by decide)] | rw [pC142 hs _ _ (by decide)] | rw [MS_0 hm] | rw [w32_id (z := 20 + m) (by omega) (by omega)] | rw [aC143 hs _ (show 0 ≤ 20 + m by omega) (by omega)] | rw [if_pos (show l < b 143 (20 + m).toNat by omega)] | rw [w32_id (z := 7 * j) (by omega) (by omega)] | rw [w32_id (z := 150 + 7 * j) (by omega) (by omega)] | rw [w32_id (z := 150 + 7 * j + l) (by omega) (by omega)] | rw [aC143 hs _ (show 0 ≤ 150 + 7 * j + l by omega) (by omega)])
    by_cases g : b 143 (150 + 7 * j + l).toNat < 0
    · rw [if_pos g, c249_35, w32_id (z := l + 1) (by omega) (by omega), ih, decide_eq_true g, Bool.true_or, Bool.true_and]
    · rw [if_neg g, decide_eq_false g, Bool.false_or]
      repeat (first | rw [bnd_s] | rw [tI_m] | rw [tL_m] | rw [tA_m] | rw [tV_m] | rw [m181 d hs hm hM r0 r1 h0 (show l < b 143 (20 + m).toNat by omega)] | rw [m174 d hs hm w0 w1 p.1 p.2])
      by_cases e : swp w (pnt (b 143 (20 + m).toNat) r l) = b 143 (150 + 7 * j + l).toNat
      · rw [if_pos e, c249_35, w32_id (z := l + 1) (by omega) (by omega), ih, decide_eq_true e, Bool.true_and]
      · rw [if_neg e, decide_eq_false e, Bool.false_and]; rfl
theorem m249 (d : Nat) (hs : SpL s) (hm : MS b) {m : Int} (hM : MapOK b m) {r j w : Int} (r0 : 0 ≤ r) (r1 : r < 2187) (j0 : 0 ≤ j) (j1 : j < 20) (w0 : 0 ≤ w) (w1 : w < 6) : Cd (d + 2) 249 [vA 142, vI m, vI r, vI j, vI w] (s, b) = some ([vI (b2i (mtc b m r j w))], (s, b)) := by
  have k2 := hM.2.1.1
  rw [c249 (hg := gC142 hs b)]
  exact m249_2 d hs hm hM r0 r1 j0 j1 w0 w1 (b 143 (20 + m).toNat).toNat 0 none (by omega) (by omega)
theorem m250_20 (d : Nat) (hs : SpL s) {k : Nat} {m : Int} (hP : MP b k m) {r v a : Int} (r0 : 0 ≤ r) (r1 : r < 2187) (v0 : 0 ≤ v) (v1 : v < b 145 (800 * k + 1)) (a0 : 0 ≤ a) (a1 : a ≤ v) : ∀ (n : Nat) (j : Int) (f : Bool) (o4 : Option AV), 0 ≤ j → j + n = 20 → ∃ o6 o7, Rr (Cd (d + 2)) 250 20 [some (vA 142), some (vI m), some (vI r), some (vL a), o4, some (vI v), some (vI (b2i f)), some (vI j)] [] (s, b) = Rr (Cd (d + 2)) 250 9 [some (vA 142), some (vI m), some (vI r), some (vL (a + b2i (f && allU (fun j => mtc b m r j (drS (b 145 (800 * k + 1)) v)) n j))), none, some (vI (v + 1)), o6, o7] [] (s, b)
  | 0, j, f, o4, h0, h => by
    have w6 : b 145 (800 * k + 1) ≤ 6 := by have := hP.2.2.2.1; omega
    refine ⟨some (vI (b2i f)), some (vI j), ?_⟩
    rw [c250_20, if_neg (by omega), if_b0]
    simp only [allU, Bool.and_true]
    cases f
    · rw [cond_f, c250_46, b2i_f, w64_id (by omega) (by omega), w32_id (by omega) (by omega)]
    · rw [cond_t, c250_46, b2i_t, w64_id (by omega) (by omega), w32_id (by omega) (by omega)]
  | n + 1, j, f, o4, h0, h => by
    have hm := hP.1.1
    have hM := hP.1.2.2.2.2.1
    have wd := drS_b hP.2.2.2.1 v0 v1
    have w6 : b 145 (800 * k + 1) ≤ 6 := by have := hP.2.2.2.1; omega
    obtain ⟨o6, o7, ih⟩ := m250_20 d hs hP r0 r1 v0 v1 a0 a1 n (j + 1) (f && mtc b m r j (drS (b 145 (800 * k + 1)) v)) o4 (by omega) (by omega)
    refine ⟨o6, o7, ?_⟩
    simp only [allU]
    rw [← Bool.and_assoc, ← ih, c250_20, if_pos (by omega), if_b0]
    cases f
    · rw [cond_f, c250_36, c250_37, w32_id (z := j + 1) (by omega) (by omega), Bool.false_and]; rfl
    · rw [cond_t, Bool.true_and]
      repeat (first | rw [bnd_s] | rw [tI_m] | rw [tL_m] | rw [tA_m] | rw [tV_m] | rw [m223 (d + 1) hs hP.2.2.1 v0 (by omega)] | rw [m249 d hs hm hM r0 r1 h0 (by omega) wd.1 wd.2] | rw [if_b0])
      cases mtc b m r j (drS (b 145 (800 * k + 1)) v)
      · rw [cond_f, c250_36, c250_37, w32_id (z := j + 1) (by omega) (by omega)]; rfl
      · rw [cond_t, c250_37, w32_id (z := j + 1) (by omega) (by omega)]; rfl
theorem m250_9 (d : Nat) (hs : SpL s) {k : Nat} {m : Int} (hP : MP b k m) (ho : b 145 (800 * k + 2) ≠ 0) {r : Int} (r0 : 0 ≤ r) (r1 : r < 2187) : ∀ (n : Nat) (v a : Int) (o4 o6 o7 : Option AV), 0 ≤ v → v + n = b 145 (800 * k + 1) → 0 ≤ a → a ≤ v → Rr (Cd (d + 2)) 250 9 [some (vA 142), some (vI m), some (vI r), some (vL a), o4, some (vI v), o6, o7] [] (s, b) = some ([vL (a + sumU (fun v => b2i (allU (fun j => mtc b m r j (drS (b 145 (800 * k + 1)) v)) 20 0)) n v)], (s, b))
  | 0, v, a, o4, o6, o7, h0, h, a0, a1 => by
    have e25 := hP.2.2.1
    have e28 := hP.2.2.2.2.1
    rw [c250_9]
    repeat (first | rw [bnd_s] | rw [tI_m] | rw [tL_m] | rw [tA_m] | rw [tV_m] | rw [fC142 hs _ (by decide)] | rw [pC142 hs _ _ (by decide)] | rw [e25] | rw [e28] | rw [if_neg (show ¬ v < b 145 (800 * k + 1) by omega)] | rw [c250_50] | rw [c250_52] | rw [if_pos (show (0 : Int) < 20 by decide)] | rw [if_neg ho] | rw [c250_101])
    simp [sumU]
  | n + 1, v, a, o4, o6, o7, h0, h, a0, a1 => by
    have e25 := hP.2.2.1
    have e28 := hP.2.2.2.2.1
    obtain ⟨o6', o7', x⟩ := m250_20 d hs hP r0 r1 h0 (show v < b 145 (800 * k + 1) by omega) a0 a1 20 0 true o4 (by omega) (by omega)
    rw [Bool.true_and] at x
    have bb := b2i_b (allU (fun j => mtc b m r j (drS (b 145 (800 * k + 1)) v)) 20 0)
    have ih := m250_9 d hs hP ho r0 r1 n (v + 1) (a + b2i (allU (fun j => mtc b m r j (drS (b 145 (800 * k + 1)) v)) 20 0)) none o6' o7' (by omega) (by omega) (by omega) (by omega)
    simp only [sumU]
    rw [← Int.add_assoc, ← ih, ← x, c250_9]
    repeat (first | rw [bnd_s] | rw [tI_m] | rw [tL_m] | rw [tA_m] | rw [tV_m] | rw [fC142 hs _ (by decide)] | rw [pC142 hs _ _ (by decide)] | rw [e25] | rw [e28] | rw [if_pos (show v < b 145 (800 * k + 1) by omega)] | rw [if_neg ho])
    rfl
theorem m250_73 (d : Nat) (hs : SpL s) {k : Nat} {m : Int} (hP : MP b k m) {r j x : Int} (r0 : 0 ≤ r) (r1 : r < 2187) (j0 : 0 ≤ j) (j1 : j < 20) : ∀ (n : Nat) (v a : Int) (o4 : Option AV), 0 ≤ v → v + n = b 145 (800 * k + 1) → 0 ≤ a → a ≤ v → ∃ o6 o7, Rr (Cd (d + 2)) 250 73 [some (vA 142), some (vI m), some (vI r), some (vL x), o4, some (vI j), some (vI a), some (vI v)] [] (s, b) = Rr (Cd (d + 2)) 250 99 [some (vA 142), some (vI m), some (vI r), some (vL (w64 (x * (a + sumU (fun v => b2i (mtc b m r j (drS (b 145 (800 * k + 1)) v))) n v)))), none, some (vI j), o6, o7] [] (s, b)
  | 0, v, a, o4, h0, h, a0, a1 => by
    have e25 := hP.2.2.1
    refine ⟨some (vI a), some (vI v), ?_⟩
    rw [c250_73]
    repeat (first | rw [bnd_s] | rw [tI_m] | rw [tL_m] | rw [tA_m] | rw [tV_m] | rw [fC142 hs _ (by decide)] | rw [pC142 hs _ _ (by decide)] | rw [e25] | rw [if_neg (show ¬ v < b 145 (800 * k + 1) by omega)])
    simp only [sumU, Int.add_zero]
  | n + 1, v, a, o4, h0, h, a0, a1 => by
    have hm := hP.1.1
    have hM := hP.1.2.2.2.2.1
    have e25 := hP.2.2.1
    have wd := drS_b hP.2.2.2.1 h0 (show v < b 145 (800 * k + 1) by omega)
    have w6 : b 145 (800 * k + 1) ≤ 6 := by have := hP.2.2.2.1; omega
    have bb := b2i_b (mtc b m r j (drS (b 145 (800 * k + 1)) v))
    obtain ⟨o6, o7, ih⟩ := m250_73 d hs hP (x := x) r0 r1 j0 j1 n (v + 1) (a + b2i (mtc b m r j (drS (b 145 (800 * k + 1)) v))) o4 (by omega) (by omega) (by omega) (by omega)
    refine ⟨o6, o7, ?_⟩
    simp only [sumU]
    rw [← Int.add_assoc, ← ih, c250_73]
    repeat (first | rw [bnd_s] | rw [tI_m] | rw [tL_m] | rw [tA_m] | rw [tV_m] | rw [fC142 hs _ (by decide)] | rw [pC142 hs _ _ (by decide)] | rw [e25] | rw [if_pos (show v < b 145 (800 * k + 1) by omega)] | rw [m223 (d + 1) hs hP.2.2.1 h0 (by omega)] | rw [m249 d hs hm hM r0 r1 j0 j1 wd.1 wd.2] | rw [if_b0])
    generalize mtc b m r j (drS (b 145 (800 * k + 1)) v) = B at *
    cases B
    · rw [cond_f, c250_90, b2i_f, w32_id (z := a + 0) (by omega) (by omega), w32_id (z := v + 1) (by omega) (by omega)]
    · rw [cond_t, c250_90, b2i_t, w32_id (z := a + 1) (by omega) (by omega), w32_id (z := v + 1) (by omega) (by omega)]
theorem six_b {a f : Int} {n : Nat} (a0 : 0 ≤ a) (f0 : 0 ≤ f) (f1 : f ≤ 6) (h : a * 6 ^ (n + 1) ≤ 3656158440062976) : 0 ≤ a * f ∧ a * f * 6 ^ n ≤ 3656158440062976 ∧ a * f ≤ 3656158440062976 := by
  have p := pw_pos (show (0 : Int) < 6 by decide) n
  have h1 : 0 ≤ a * f := Int.mul_nonneg a0 f0
  have h2 : a * f ≤ a * 6 := Int.mul_le_mul_of_nonneg_left f1 a0
  have h3 : a * f * 6 ^ n ≤ a * 6 * 6 ^ n := Int.mul_le_mul_of_nonneg_right h2 (by omega)
  rw [Int.pow_succ, Int.mul_comm ((6 : Int) ^ n) 6, ← Int.mul_assoc] at h
  have h4 : a * f * 1 ≤ a * f * 6 ^ n := Int.mul_le_mul_of_nonneg_left (by omega) h1
  rw [Int.mul_one] at h4
  omega
theorem m250_52 (d : Nat) (hs : SpL s) {k : Nat} {m : Int} (hP : MP b k m) (ho : b 145 (800 * k + 2) = 0) {r : Int} (r0 : 0 ≤ r) (r1 : r < 2187) : ∀ (n : Nat) (j a : Int) (o4 o6 o7 : Option AV), 0 ≤ j → j + n = 20 → 0 ≤ a → a * 6 ^ n ≤ 3656158440062976 → Rr (Cd (d + 2)) 250 52 [some (vA 142), some (vI m), some (vI r), some (vL a), o4, some (vI j), o6, o7] [] (s, b) = some ([vL (a * prU (wN b k m r) n j)], (s, b))
  | 0, j, a, o4, o6, o7, h0, h, a0, a1 => by
    rw [c250_52, if_neg (by omega), c250_101]
    simp only [prU, Int.mul_one]
  | n + 1, j, a, o4, o6, o7, h0, h, a0, a1 => by
    have hm := hP.1.1
    have hM := hP.1.2.2.2.2.1
    obtain ⟨⟨k0, k1⟩, ⟨k2, k3⟩, -⟩ := id hM
    have e28 := hP.2.2.2.2.1
    have q8 := m248 (d + 1) hs hm h0 (show j < 20 by omega) (show 0 ≤ b 143 (20 + m).toNat by omega) k3
    simp only [prU]
    rw [← Int.mul_assoc, c250_52, if_pos (by omega)]
    repeat (first | rw [bnd_s] | rw [tI_m] | rw [tL_m] | rw [tA_m] | rw [tV_m] | rw [fC142 hs _ (by decide)] | rw [pC142 hs _ _ (by decide)] | rw [e28] | rw [if_pos ho] | rw [MS_0 hm] | rw [w32_id (z := 20 + m) (by omega) (by omega)] | rw [aC143 hs _ (show 0 ≤ 20 + m by omega) (by omega)] | rw [q8] | rw [if_b0])
    have cb := cn_b b k m r j hP.2.2.2.1
    by_cases g : sawN b (b 143 (20 + m).toNat).toNat j = true
    · have e : wN b k m r j = sumU (fun v => b2i (mtc b m r j (drS (b 145 (800 * k + 1)) v))) (b 145 (800 * k + 1)).toNat 0 := by unfold wN; rw [if_pos g]
      have sb := six_b a0 cb.1 cb.2 a1
      obtain ⟨o6', o7', x⟩ := m250_73 d hs hP (x := a) r0 r1 h0 (show j < 20 by omega) (b 145 (800 * k + 1)).toNat 0 0 o4 (by omega) (by have := hP.2.2.2.1; omega) (by omega) (by omega)
      rw [Int.zero_add, w64_id (by omega) (by omega)] at x
      rw [g, cond_t, x, c250_99, w32_id (z := j + 1) (by omega) (by omega), e]
      exact m250_52 d hs hP ho r0 r1 n (j + 1) _ none o6' o7' (by omega) (by omega) sb.1 sb.2.1
    · have e : wN b k m r j = 1 := by unfold wN; rw [if_neg g]
      have sb := six_b a0 (show (0 : Int) ≤ 1 by decide) (by decide) a1
      rw [Bool.eq_false_iff.mpr g, cond_f, c250_99, w32_id (z := j + 1) (by omega) (by omega), e, Int.mul_one]
      rw [Int.mul_one] at sb
      exact m250_52 d hs hP ho r0 r1 n (j + 1) a o4 o6 o7 (by omega) (by omega) a0 sb.2.1
theorem m250 (d : Nat) (hs : SpL s) {k : Nat} {m : Int} (hP : MP b k m) {r : Int} (r0 : 0 ≤ r) (r1 : r < 2187) : Cd (d + 3) 250 [vA 142, vI m, vI r] (s, b) = some ([vL (wgt b k m r)], (s, b)) := by
  have e28 := hP.2.2.2.2.1
  have e25 := hP.2.2.1
  have w6 : 1 ≤ b 145 (800 * k + 1) ∧ b 145 (800 * k + 1) ≤ 6 := by have := hP.2.2.2.1; omega
  rw [c250 (hg := gC142 hs b)]
  unfold wgt
  by_cases g : b 145 (800 * k + 2) = 0
  · rw [if_pos g]
    repeat (first | rw [bnd_s] | rw [tI_m] | rw [tL_m] | rw [tA_m] | rw [tV_m] | rw [fC142 hs _ (by decide)] | rw [pC142 hs _ _ (by decide)] | rw [e28] | rw [if_pos g] | rw [c250_6] | rw [c250_9] | rw [e25] | rw [if_pos (show (0 : Int) < b 145 (800 * k + 1) by omega)] | rw [c250_50])
    have := m250_52 d hs hP g r0 r1 20 0 1 none none none (by omega) (by omega) (by decide) (by decide)
    rw [Int.one_mul] at this
    exact this
  · rw [if_neg g]
    repeat (first | rw [bnd_s] | rw [tI_m] | rw [tL_m] | rw [tA_m] | rw [tV_m] | rw [fC142 hs _ (by decide)] | rw [pC142 hs _ _ (by decide)] | rw [e28] | rw [if_neg g] | rw [c250_6])
    have := m250_9 d hs hP g r0 r1 (b 145 (800 * k + 1)).toNat 0 0 none none none (by omega) (by omega) (by omega) (by omega)
    rw [Int.zero_add] at this
    exact this
end
