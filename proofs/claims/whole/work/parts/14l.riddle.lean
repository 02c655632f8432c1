/-! the riddle -/
def sgB (b x : Int) : Bool := if 0 < x then bt b (x - 1) else !bt b (-x - 1)
def RK (c : Nat → Nat → Int) (L K : Int) : Prop := (c 38 0 = 39 ∧ c 38 1 = L ∧ c 38 2 = K) ∧ (c 143 3 = L ∧ c 143 2 = K) ∧ (1 ≤ L ∧ L ≤ 3) ∧ (0 ≤ K ∧ K ≤ 3) ∧ ∀ i : Int, 0 ≤ i → i < 3 * K → c 39 i.toNat = c 143 (320 + i).toNat ∧ c 143 (320 + i).toNat ≠ 0 ∧ -3 ≤ c 143 (320 + i).toNat ∧ c 143 (320 + i).toNat ≤ 3
theorem RK_of {s : List (Nat × Nat)} {c : Nat → Nat → Int} {n : Nat} (h : Inv s c n) : RK c (c 143 3) (c 143 2) := by
  obtain ⟨a10, a11, a12, a13⟩ := h.2.2.2.2.1.2.2.2.2.2
  refine ⟨⟨CS_38_0 h.2.2.2.1, a13.1.1, a13.1.2⟩, ⟨rfl, rfl⟩, a13.2.1, a13.2.2.1, fun i h1 h2 => ?_⟩
  have g := a13.2.2.2 i h1 h2
  have := a13.2.1
  exact ⟨g.1, g.2.1, by omega, by omega⟩
def pnB (c : Nat → Nat → Int) (b k i : Int) : Bool := !sgB b (c 143 (320 + (3 * k + i)).toNat)
section
variable {s : List (Nat × Nat)} {c : Nat → Nat → Int} {L K : Int}
theorem m271 (d : Nat) (hs : SpL s) {b x : Int} (hx : x ≠ 0) (hx1 : -3 ≤ x) (hx2 : x ≤ 3) (hb : 0 ≤ b) (hb2 : b < 8) : Cd (d + 1) 271 [vA 142, vI x, vI b] (s, c) = some ([vI (b2i (sgB b x))], (s, c)) := by
  rw [c271 (hg := gC142 hs c)]; unfold sgB
  by_cases h : 0 < x
  · rw [if_pos h, if_pos h, w32_id (by omega) (by omega), bt_sh hb (by omega) (by omega) (by omega), if_b1]
    cases bt b (x - 1)
    · rw [cond_f, c271_27, if_pos (Or.inl rfl)]; rfl
    · rw [cond_t, c271_27, if_pos (Or.inr rfl)]; rfl
  · rw [if_neg h, if_neg h, w32_id (z := -x) (by omega) (by omega), w32_id (by omega) (by omega), bt_sh hb (by omega) (by omega) (by omega), if_b0]
    cases bt b (-x - 1)
    · rw [cond_f, c271_27, if_pos (Or.inr rfl)]; rfl
    · rw [cond_t, c271_27, if_pos (Or.inl rfl)]; rfl
theorem k100 (d : Nat) (hs : SpL s) (hr : RK c L K) {b k i : Int} (hb : 0 ≤ b) (hb2 : b < 8) (hk : 0 ≤ k) (hk2 : k < K) (hi : 0 ≤ i) (hi2 : i < 3) : Cd (d + 2) 100 [vA 38, vI k, vI i, vI b] (s, c) = some ([vI (b2i (pnB c b k i))], (s, c)) := by
  obtain ⟨⟨l0, l1, l2⟩, -, bL, bK, hg⟩ := hr
  have g := hg (3 * k + i) (by omega) (by omega)
  unfold pnB
  rw [c100 (hg := gC38 hs c)]
  have e : c 39 (k * 3 + i).toNat = c 143 (320 + (3 * k + i)).toNat := by rw [Int.mul_comm k 3]; exact g.1
  repeat (first | rw [bnd_s] | rw [tI_m] | rw [tL_m] | rw [tA_m] | rw [tV_m] | rw [fC38 hs _ (by decide)] | rw [pC38 hs _ _ (by decide)] | rw [l0] | rw [w32_id (z := k * 3) (by omega) (by omega)] | rw [w32_id (z := k * 3 + i) (by omega) (by omega)] | rw [aC39 hs _ (show 0 ≤ k * 3 + i by omega) (by omega)] | rw [e])
  generalize c 143 (320 + (3 * k + i)).toNat = x at *
  unfold sgB
  rw [j285 _ _ (by omega) (by omega)]
  by_cases h : 0 < x
  · rw [if_pos h, if_neg (show ¬ x < 0 by omega)]
    repeat (first | rw [bnd_s] | rw [tI_m] | rw [tL_m] | rw [tA_m] | rw [tV_m] | rw [w32_id (z := x - 1) (by omega) (by omega)] | rw [k169 _ _ hb (by omega) (show 0 ≤ x - 1 by omega) (by omega)] | rw [if_pos h])
    cases bt b (x - 1)
    · rw [c100_22, if_neg (show ¬ b2i false = 1 by decide), c100_26, show (1 : Int) = b2i true from rfl, k159]; rfl
    · rw [c100_22, if_pos (show b2i true = 1 by decide), c100_26, show (0 : Int) = b2i false from rfl, k159]; rfl
  · rw [if_neg h, if_pos (show x < 0 by omega)]
    repeat (first | rw [bnd_s] | rw [tI_m] | rw [tL_m] | rw [tA_m] | rw [tV_m] | rw [w32_id (z := -x - 1) (by omega) (by omega)] | rw [k169 _ _ hb (by omega) (show 0 ≤ -x - 1 by omega) (by omega)] | rw [if_neg h])
    cases bt b (-x - 1)
    · rw [c100_22, if_pos (show b2i false = 0 by decide), c100_26, show (0 : Int) = b2i false from rfl, k159]; rfl
    · rw [c100_22, if_neg (show ¬ b2i true = 0 by decide), c100_26, show (1 : Int) = b2i true from rfl, k159]; rfl
def slB (c : Nat → Nat → Int) (b k : Int) : Bool := !(pnB c b k 0 && pnB c b k 1 && pnB c b k 2)
theorem k99_2 (d : Nat) (hs : SpL s) (hr : RK c L K) {b : Int} (hb : 0 ≤ b) (hb2 : b < 8) : ∀ (n : Nat) (k : Int), 0 ≤ k → k + n = K → Rr (Cd (d + 2)) 99 2 [some (vA 38), some (vI b), some (vI k)] [] (s, c) = some ([vI (b2i (allU (slB c b) n k))], (s, c))
  | 0, k, h0, h => by
    have l2 := hr.1.2.2
    rw [c99_2]
    repeat (first | rw [bnd_s] | rw [tI_m] | rw [tL_m] | rw [tA_m] | rw [tV_m] | rw [fC38 hs _ (by decide)] | rw [pC38 hs _ _ (by decide)] | rw [l2] | rw [if_neg (show ¬ k < K by omega)])
    rfl
  | n + 1, k, h0, h => by
    have l2 := hr.1.2.2
    have bK := hr.2.2.2.1
    have ih := k99_2 d hs hr hb hb2 n (k + 1) (by omega) (by omega)
    rw [c99_2]
    repeat (first | rw [bnd_s] | rw [tI_m] | rw [tL_m] | rw [tA_m] | rw [tV_m] | rw [fC38 hs _ (by decide)] | rw [pC38 hs _ _ (by decide)] | rw [l2] | rw [if_pos (show k < K by omega)] | rw [k100 _ hs hr hb hb2 h0 (show k < K by omega) (by decide) (by decide)])
    simp only [allU]
    rw [w32_id (z := k + 1) (by omega) (by omega), ih]
    have e : w32 ((w32 (b2i (pnB c b k 0) * b2i (pnB c b k 1))) * b2i (pnB c b k 2)) = b2i (!slB c b k) := by
      unfold slB
      cases pnB c b k 0 <;> cases pnB c b k 1 <;> cases pnB c b k 2 <;> decide +kernel
    rw [e, if_b0]
    cases slB c b k
    · rw [Bool.not_false, cond_t, Bool.false_and]; rfl
    · rw [Bool.not_true, cond_f, Bool.true_and]
theorem k99 (d : Nat) (hs : SpL s) (hr : RK c L K) {b : Int} (hb : 0 ≤ b) (hb2 : b < 8) : Cd (d + 3) 99 [vA 38, vI b] (s, c) = some ([vI (b2i (allU (slB c b) K.toNat 0))], (s, c)) := by
  have bK := hr.2.2.2.1
  rw [c99 (hg := gC38 hs c), k99_2 d hs hr hb hb2 K.toNat 0 (by omega) (by omega)]
theorem m274_2 (d : Nat) (hs : SpL s) (hm : MS c) (hr : RK c L K) {b : Int} (hb : 0 ≤ b) (hb2 : b < 8) : ∀ (n : Nat) (k : Int), 0 ≤ k → k + n = K → ∀ o3, Rr (Cd (d + 1)) 274 2 [some (vA 142), some (vI b), some (vI k), o3] [] (s, c) = some ([vI (b2i (allU (slB c b) n k))], (s, c))
  | 0, k, h0, h, o3 => by
    have l2 := hr.2.1.2
    rw [c274_2]
    repeat (first | rw [bnd_s] | rw [tI_m] | rw [tL_m] | rw [tA_m] | rw [tV_m] | rw [fC142 hs _ (by decide)] | rw [pC142 hs _ _ (by decide)] | rw [MS_0 hm] | rw [MS_1 hm] | rw [MS_2 hm] | rw [MS_3 hm] | rw [MS_4 hm] | rw [MS_5 hm] | rw [MS_7 hm] | rw [MS_8 hm] | rw [MS_21 hm] | rw [MS_29 hm] | rw [MS_30 hm] | rw [MS_31 hm] | rw [MS_37 hm] | rw [MS_38 hm] | rw [MS_39 hm] | rw [MS_40 hm] | rw [aC143 hs _ (by omega) (by omega)] | rw [show (2 : Int).toNat = 2 from rfl] | rw [show (3 : Int).toNat = 3 from rfl] | rw [l2] | rw [if_neg (show ¬ k < K by omega)])
    rfl
  | n + 1, k, h0, h, o3 => by
    have l2 := hr.2.1.2
    have bK := hr.2.2.2.1
    have g0 := (hr.2.2.2.2 (3 * k + 0) (by omega) (by omega)).2
    have g1 := (hr.2.2.2.2 (3 * k + 1) (by omega) (by omega)).2
    have g2 := (hr.2.2.2.2 (3 * k + 2) (by omega) (by omega)).2
    have ih := m274_2 d hs hm hr hb hb2 n (k + 1) (by omega) (by omega)
    rw [c274_2]
    simp only [allU]
    have eS : slB c b k = !(!sgB b (c 143 (320 + (3 * k + 0)).toNat) && !sgB b (c 143 (320 + (3 * k + 1)).toNat) && !sgB b (c 143 (320 + (3 * k + 2)).toNat)) := rfl
    rw [eS]
    have e0 : (320 + 3 * k).toNat = (320 + (3 * k + 0)).toNat := by omega
    have e1 : (320 + 3 * k + 1).toNat = (320 + (3 * k + 1)).toNat := by omega
    have e2 : (320 + 3 * k + 2).toNat = (320 + (3 * k + 2)).toNat := by omega
    repeat (first | rw [bnd_s] | rw [tI_m] | rw [tL_m] | rw [tA_m] | rw [tV_m] | rw [fC142 hs _ (by decide)] | rw [pC142 hs _ _ (by decide)] | rw [MS_0 hm] | rw [MS_1 hm] | rw [MS_2 hm] | rw [MS_3 hm] | rw [MS_4 hm] | rw [MS_5 hm] | rw [MS_7 hm] | rw [MS_8 hm] | rw [MS_21 hm] | rw [MS_29 hm] | rw [MS_30 hm] | rw [MS_31 hm] | rw [MS_37 hm] | rw [MS_38 hm] | rw [MS_39 hm] | rw [MS_40 hm] | rw [aC143 hs _ (show 0 ≤ (2 : Int) by decide) (by decide)] | rw [show (2 : Int).toNat = 2 from rfl] | rw [show (3 : Int).toNat = 3 from rfl] | rw [l2] | rw [if_pos (show k < K by omega)] | rw [w32_id (z := 3 * k) (by omega) (by omega)] | rw [w32_id (z := 320 + 3 * k) (by omega) (by omega)] | rw [w32_id (z := 320 + 3 * k + 1) (by omega) (by omega)] | rw [w32_id (z := 320 + 3 * k + 2) (by omega) (by omega)] | rw [aC143 hs _ (show 0 ≤ 320 + 3 * k by omega) (by omega)] | rw [aC143 hs _ (show 0 ≤ 320 + 3 * k + 1 by omega) (by omega)] | rw [aC143 hs _ (show 0 ≤ 320 + 3 * k + 2 by omega) (by omega)] | rw [e0] | rw [e1] | rw [e2] | rw [m271 _ hs g0.1 g0.2.1 g0.2.2 hb hb2] | rw [m271 _ hs g1.1 g1.2.1 g1.2.2 hb hb2] | rw [m271 _ hs g2.1 g2.2.1 g2.2.2 hb hb2] | rw [if_b0])
    cases h1 : sgB b (c 143 (320 + (3 * k + 0)).toNat)
    · rw [cond_f]
      repeat (first | rw [bnd_s] | rw [tI_m] | rw [tL_m] | rw [tA_m] | rw [tV_m] | rw [fC142 hs _ (by decide)] | rw [pC142 hs _ _ (by decide)] | rw [MS_0 hm] | rw [MS_1 hm] | rw [MS_2 hm] | rw [MS_3 hm] | rw [MS_4 hm] | rw [MS_5 hm] | rw [MS_7 hm] | rw [MS_8 hm] | rw [MS_21 hm] | rw [MS_29 hm] | rw [MS_30 hm] | rw [MS_31 hm] | rw [MS_37 hm] | rw [MS_38 hm] | rw [MS_39 hm] | rw [MS_40 hm] | rw [w32_id (z := 3 * k) (by omega) (by omega)] | rw [w32_id (z := 320 + 3 * k) (by omega) (by omega)] | rw [w32_id (z := 320 + 3 * k + 1) (by omega) (by omega)] | rw [w32_id (z := 320 + 3 * k + 2) (by omega) (by omega)] | rw [aC143 hs _ (show 0 ≤ 320 + 3 * k by omega) (by omega)] | rw [aC143 hs _ (show 0 ≤ 320 + 3 * k + 1 by omega) (by omega)] | rw [aC143 hs _ (show 0 ≤ 320 + 3 * k + 2 by omega) (by omega)] | rw [e0] | rw [e1] | rw [e2] | rw [m271 _ hs g0.1 g0.2.1 g0.2.2 hb hb2] | rw [m271 _ hs g1.1 g1.2.1 g1.2.2 hb hb2] | rw [m271 _ hs g2.1 g2.2.1 g2.2.2 hb hb2] | rw [if_b0])
      cases h2 : sgB b (c 143 (320 + (3 * k + 1)).toNat)
      · rw [cond_f]
        repeat (first | rw [bnd_s] | rw [tI_m] | rw [tL_m] | rw [tA_m] | rw [tV_m] | rw [fC142 hs _ (by decide)] | rw [pC142 hs _ _ (by decide)] | rw [MS_0 hm] | rw [MS_1 hm] | rw [MS_2 hm] | rw [MS_3 hm] | rw [MS_4 hm] | rw [MS_5 hm] | rw [MS_7 hm] | rw [MS_8 hm] | rw [MS_21 hm] | rw [MS_29 hm] | rw [MS_30 hm] | rw [MS_31 hm] | rw [MS_37 hm] | rw [MS_38 hm] | rw [MS_39 hm] | rw [MS_40 hm] | rw [w32_id (z := 3 * k) (by omega) (by omega)] | rw [w32_id (z := 320 + 3 * k) (by omega) (by omega)] | rw [w32_id (z := 320 + 3 * k + 1) (by omega) (by omega)] | rw [w32_id (z := 320 + 3 * k + 2) (by omega) (by omega)] | rw [aC143 hs _ (show 0 ≤ 320 + 3 * k by omega) (by omega)] | rw [aC143 hs _ (show 0 ≤ 320 + 3 * k + 1 by omega) (by omega)] | rw [aC143 hs _ (show 0 ≤ 320 + 3 * k + 2 by omega) (by omega)] | rw [e0] | rw [e1] | rw [e2] | rw [m271 _ hs g0.1 g0.2.1 g0.2.2 hb hb2] | rw [m271 _ hs g1.1 g1.2.1 g1.2.2 hb hb2] | rw [m271 _ hs g2.1 g2.2.1 g2.2.2 hb hb2] | rw [if_b0])
        cases h3 : sgB b (c 143 (320 + (3 * k + 2)).toNat)
        · rw [cond_f]; rfl
        · rw [cond_t, c274_44, w32_id (z := k + 1) (by omega) (by omega), ih]; rfl
      · rw [cond_t, c274_44, w32_id (z := k + 1) (by omega) (by omega), ih]; rfl
    · rw [cond_t, c274_44, w32_id (z := k + 1) (by omega) (by omega), ih]; rfl
theorem m274 (d : Nat) (hs : SpL s) (hm : MS c) (hr : RK c L K) {b : Int} (hb : 0 ≤ b) (hb2 : b < 8) : Cd (d + 2) 274 [vA 142, vI b] (s, c) = some ([vI (b2i (allU (slB c b) K.toNat 0))], (s, c)) := by
  have bK := hr.2.2.2.1
  rw [c274 (hg := gC142 hs c), m274_2 d hs hm hr hb hb2 K.toNat 0 (by omega) (by omega)]
end
def t272 (v0 v1 v2 j : Int) : Bool := !decide (v0 = j % 3) && !decide (v1 = j / 3 % 3) && !decide (j % 3 = j / 3 % 3) && !decide (j % 3 = j / 9 % 3) && !decide (j / 3 % 3 = j / 9 % 3) && !decide (j / 9 % 3 = j / 27 % 3) && !decide (v2 = j / 81 % 3) && !decide (j / 27 % 3 = j / 81 % 3) && !decide (j / 27 % 3 = j / 243) && !decide (j / 81 % 3 = j / 243) && !decide (j / 243 = 1) && !decide (j / 243 = 2)
theorem m272_4 (d : Nat) (hp : HP) (v0 v1 v2 : Int) : ∀ (n : Nat) (j a : Int), 0 ≤ j → j + n = 729 → 0 ≤ a → a ≤ j → ∀ o5 o6 o7 o8 o9 o10 o11, Rr (Cd d) 272 4 [some (vI v0), some (vI v1), some (vI v2), some (vI a), some (vI j), o5, o6, o7, o8, o9, o10, o11] [] hp = some ([vI (a + sumU (fun e => b2i (t272 v0 v1 v2 e)) n j)], hp)
  | 0, j, a, h0, h, ha, ha2, _, _, _, _, _, _, _ => by rw [c272_4, if_neg (by omega)]; simp [sumU]
  | n + 1, j, a, h0, h, ha, ha2, o5, o6, o7, o8, o9, o10, o11 => by
    have ih0 := m272_4 d hp v0 v1 v2 n (j + 1) a (by omega) (by omega) (by omega) (by omega)
    have ih1 := m272_4 d hp v0 v1 v2 n (j + 1) (a + 1) (by omega) (by omega) (by omega) (by omega)
    rw [c272_4, if_pos (show j < 729 by omega)]
    repeat (first | rw [idiv_n (x := j) (y := 3) h0 (by omega) (by decide) (by decide)] | rw [idiv_n (x := j) (y := 9) h0 (by omega) (by decide) (by decide)] | rw [idiv_n (x := j) (y := 27) h0 (by omega) (by decide) (by decide)] | rw [idiv_n (x := j) (y := 81) h0 (by omega) (by decide) (by decide)] | rw [idiv_n (x := j) (y := 243) h0 (by omega) (by decide) (by decide)] | rw [irem_n (x := j) (y := 3) h0 (by omega) (by decide) (by decide)] | rw [irem_n (x := j / 3) (y := 3) (by omega) (by omega) (by decide) (by decide)] | rw [irem_n (x := j / 9) (y := 3) (by omega) (by omega) (by decide) (by decide)] | rw [irem_n (x := j / 27) (y := 3) (by omega) (by omega) (by decide) (by decide)] | rw [irem_n (x := j / 81) (y := 3) (by omega) (by omega) (by decide) (by decide)])
    simp only [sumU]
    by_cases q0 : v0 = j % 3
    · have ht : t272 v0 v1 v2 j = false := by unfold t272; rw [decide_eq_true q0]; simp
      rw [ht, if_pos q0, c272_59, c272_60, if_pos rfl, c272_84, c272_85, Int.add_zero, w32_id (z := a) (by omega) (by omega), w32_id (z := j + 1) (by omega) (by omega), ih0, b2i_f, Int.zero_add]
    rw [if_neg q0]
    by_cases q1 : v1 = j / 3 % 3
    · have ht : t272 v0 v1 v2 j = false := by unfold t272; rw [decide_eq_true q1]; simp
      rw [ht, if_pos q1, c272_59, c272_60, if_pos rfl, c272_84, c272_85, Int.add_zero, w32_id (z := a) (by omega) (by omega), w32_id (z := j + 1) (by omega) (by omega), ih0, b2i_f, Int.zero_add]
    rw [if_neg q1]
    by_cases q2 : j % 3 = j / 3 % 3
    · have ht : t272 v0 v1 v2 j = false := by unfold t272; rw [decide_eq_true q2]; simp
      rw [ht, if_pos q2, c272_59, c272_60, if_pos rfl, c272_84, c272_85, Int.add_zero, w32_id (z := a) (by omega) (by omega), w32_id (z := j + 1) (by omega) (by omega), ih0, b2i_f, Int.zero_add]
    rw [if_neg q2]
    by_cases q3 : j % 3 = j / 9 % 3
    · have ht : t272 v0 v1 v2 j = false := by unfold t272; rw [decide_eq_true q3]; simp
      rw [ht, if_pos q3, c272_59, c272_60, if_pos rfl, c272_84, c272_85, Int.add_zero, w32_id (z := a) (by omega) (by omega), w32_id (z := j + 1) (by omega) (by omega), ih0, b2i_f, Int.zero_add]
    rw [if_neg q3]
    by_cases q4 : j / 3 % 3 = j / 9 % 3
    · have ht : t272 v0 v1 v2 j = false := by unfold t272; rw [decide_eq_true q4]; simp
      rw [ht, if_pos q4, c272_59, c272_60, if_pos rfl, c272_84, c272_85, Int.add_zero, w32_id (z := a) (by omega) (by omega), w32_id (z := j + 1) (by omega) (by omega), ih0, b2i_f, Int.zero_add]
    rw [if_neg q4]
    by_cases q5 : j / 9 % 3 = j / 27 % 3
    · have ht : t272 v0 v1 v2 j = false := by unfold t272; rw [decide_eq_true q5]; simp
      rw [ht, if_pos q5, c272_59, c272_60, if_pos rfl, c272_84, c272_85, Int.add_zero, w32_id (z := a) (by omega) (by omega), w32_id (z := j + 1) (by omega) (by omega), ih0, b2i_f, Int.zero_add]
    rw [if_neg q5, c272_60, if_neg (show ¬ (1 : Int) = 0 by decide)]
    by_cases q6 : v2 = j / 81 % 3
    · have ht : t272 v0 v1 v2 j = false := by unfold t272; rw [decide_eq_true q6]; simp
      rw [ht, if_pos q6, c272_84, c272_85, Int.add_zero, w32_id (z := a) (by omega) (by omega), w32_id (z := j + 1) (by omega) (by omega), ih0, b2i_f, Int.zero_add]
    rw [if_neg q6]
    by_cases q7 : j / 27 % 3 = j / 81 % 3
    · have ht : t272 v0 v1 v2 j = false := by unfold t272; rw [decide_eq_true q7]; simp
      rw [ht, if_pos q7, c272_84, c272_85, Int.add_zero, w32_id (z := a) (by omega) (by omega), w32_id (z := j + 1) (by omega) (by omega), ih0, b2i_f, Int.zero_add]
    rw [if_neg q7]
    by_cases q8 : j / 27 % 3 = j / 243
    · have ht : t272 v0 v1 v2 j = false := by unfold t272; rw [decide_eq_true q8]; simp
      rw [ht, if_pos q8, c272_84, c272_85, Int.add_zero, w32_id (z := a) (by omega) (by omega), w32_id (z := j + 1) (by omega) (by omega), ih0, b2i_f, Int.zero_add]
    rw [if_neg q8]
    by_cases q9 : j / 81 % 3 = j / 243
    · have ht : t272 v0 v1 v2 j = false := by unfold t272; rw [decide_eq_true q9]; simp
      rw [ht, if_pos q9, c272_84, c272_85, Int.add_zero, w32_id (z := a) (by omega) (by omega), w32_id (z := j + 1) (by omega) (by omega), ih0, b2i_f, Int.zero_add]
    rw [if_neg q9]
    by_cases q10 : j / 243 = 1
    · have ht : t272 v0 v1 v2 j = false := by unfold t272; rw [decide_eq_true q10]; simp
      rw [ht, if_pos q10, c272_84, c272_85, Int.add_zero, w32_id (z := a) (by omega) (by omega), w32_id (z := j + 1) (by omega) (by omega), ih0, b2i_f, Int.zero_add]
    rw [if_neg q10]
    by_cases q11 : j / 243 = 2
    · have ht : t272 v0 v1 v2 j = false := by unfold t272; rw [decide_eq_true q11]; simp
      rw [ht, if_pos q11, c272_84, c272_85, Int.add_zero, w32_id (z := a) (by omega) (by omega), w32_id (z := j + 1) (by omega) (by omega), ih0, b2i_f, Int.zero_add]
    rw [if_neg q11]
    have ht : t272 v0 v1 v2 j = true := by unfold t272; rw [decide_eq_false q0, decide_eq_false q1, decide_eq_false q2, decide_eq_false q3, decide_eq_false q4, decide_eq_false q5, decide_eq_false q6, decide_eq_false q7, decide_eq_false q8, decide_eq_false q9, decide_eq_false q10, decide_eq_false q11]; rfl
    rw [ht, c272_85, w32_id (z := a + 1) (by omega) (by omega), w32_id (z := j + 1) (by omega) (by omega), ih1, b2i_t, Int.add_assoc]
def pr3 (a b e : Bool) : Int := sumU (fun x => b2i (t272 (b2i a) (b2i b) (b2i e) x)) 729 0
theorem m272 (d : Nat) (hp : HP) (a b e : Bool) : Cd (d + 1) 272 [vI (b2i a), vI (b2i b), vI (b2i e)] hp = some ([vI (pr3 a b e)], hp) := by
  rw [c272, m272_4 d hp _ _ _ 729 0 0 (by decide) (by decide) (by decide) (by decide), Int.zero_add]; rfl
def sg (k : Int) : Int := swL.getD k.toNat 0
def ain (v2 l f : Int) : Nat → Int → Int → Int
  | 0, _, a => a
  | n + 1, j, a => ain v2 l f n (j + 3) (w32 (a + b2i (!decide (f = 0) && (!decide (sg (j + 1) = v2) && decide (sg (j + 2) = 0)) && !decide (sg (l + 2) = sg j))))
def aou (v0 v1 v2 : Int) : Nat → Int → Int → Int
  | 0, _, a => a
  | n + 1, l, a => aou v0 v1 v2 n (l + 3) (ain v2 l (b2i (!decide (sg l = v0) && !decide (sg (l + 1) = v1))) 6 0 a)
section
variable {s : List (Nat × Nat)} {c : Nat → Nat → Int}
theorem k103_25 (d : Nat) (hs : SpL s) (hx : Xt c) (v0 v1 v2 : Int) {l : Int} (hl : 0 ≤ l) (hl2 : l < 16) {r : Int → Int} (hK : ∀ a o5 o6 o7 o8, Rr (Cd (d + 1)) 103 4 [some (vI v0), some (vI v1), some (vI v2), some (vI a), some (vI (l + 3)), o5, o6, o7, o8] [] (s, c) = some ([vI (r a)], (s, c))) (f : Int) : ∀ (n : Nat) (j a : Int), 0 ≤ j → j + 3 * n = 18 → ∀ o7 o8, Rr (Cd (d + 1)) 103 25 [some (vI v0), some (vI v1), some (vI v2), some (vI a), some (vI l), some (vI f), some (vI j), o7, o8] [] (s, c) = some ([vI (r (ain v2 l f n j a))], (s, c))
  | 0, j, a, h0, h, o7, o8 => by
    rw [c103_25, if_neg (by omega), w32_id (z := l + 3) (by omega) (by omega), hK]; rfl
  | n + 1, j, a, h0, h, o7, o8 => by
    have ih := k103_25 d hs hx v0 v1 v2 hl hl2 hK f n (j + 3)
    have q0 : c 2 j.toNat = sg j := x2 hx _
    have q1 : c 2 (j + 1).toNat = sg (j + 1) := x2 hx _
    have q2 : c 2 (j + 2).toNat = sg (j + 2) := x2 hx _
    have q3 : c 2 (l + 2).toNat = sg (l + 2) := x2 hx _
    have fin : ∀ (x : Bool) (o7 o8 : Option AV), Rr (Cd (d + 1)) 103 68 [some (vI v0), some (vI v1), some (vI v2), some (vI a), some (vI l), some (vI f), some (vI j), o7, o8] [vI (b2i x), vI a] (s, c) = some ([vI (r (ain v2 l f n (j + 3) (w32 (a + b2i x))))], (s, c)) := fun x o7 o8 => by
      rw [c103_68, k159]
      repeat (first | rw [bnd_s] | rw [tI_m] | rw [tL_m] | rw [tA_m] | rw [tV_m] | rw [w32_id (z := j + 3) (by omega) (by omega)] | rw [ih _ (by omega) (by omega)])
    have mid : ∀ (y : Bool) (o7 o8 : Option AV), Rr (Cd (d + 1)) 103 44 [some (vI v0), some (vI v1), some (vI v2), some (vI a), some (vI l), some (vI f), some (vI j), o7, o8] [vI (b2i y)] (s, c) = some ([vI (r (ain v2 l f n (j + 3) (w32 (a + b2i (!decide (f = 0) && y && !decide (sg (l + 2) = sg j))))))], (s, c)) := fun y o7 o8 => by
      rw [c103_44]
      repeat (first | rw [bnd_s] | rw [tI_m] | rw [tL_m] | rw [tA_m] | rw [tV_m] | rw [w32_id (z := l + 2) (by omega) (by omega)] | rw [aC2 hs c (show 0 ≤ l + 2 by omega) (by omega)] | rw [aC2 hs c h0 (by omega)] | rw [q3] | rw [q0])
      by_cases g : sg (l + 2) = sg j
      · rw [if_pos g, decide_eq_true g, Bool.not_true, Bool.and_false, c103_57]
        have := fin false (some (vI (b2i y))) (some (vI 0))
        rw [b2i_f] at this
        by_cases f0 : f = 0
        · rw [if_pos f0, c103_67, this]; rfl
        · rw [if_neg f0]
          cases y
          · rw [if_pos b2i_f, c103_67, this]; rfl
          · rw [if_neg (show ¬ b2i true = 0 by decide), if_pos rfl, c103_67, this]; rfl
      · rw [if_neg g, decide_eq_false g, Bool.not_false, Bool.and_true, c103_57]
        have u := fin false (some (vI (b2i y))) (some (vI 1))
        have w := fin true (some (vI (b2i y))) (some (vI 1))
        rw [b2i_f] at u
        rw [b2i_t] at w
        by_cases f0 : f = 0
        · rw [if_pos f0, c103_67, u, decide_eq_true f0]; rfl
        · rw [if_neg f0, decide_eq_false f0]
          cases y
          · rw [if_pos b2i_f, c103_67, u]; rfl
          · rw [if_neg (show ¬ b2i true = 0 by decide), if_neg (by decide), w]; rfl
    rw [c103_25, if_pos (show j < 18 by omega)]
    repeat (first | rw [bnd_s] | rw [tI_m] | rw [tL_m] | rw [tA_m] | rw [tV_m] | rw [w32_id (z := j + 1) (by omega) (by omega)] | rw [w32_id (z := j + 2) (by omega) (by omega)] | rw [aC2 hs c (show 0 ≤ j + 1 by omega) (by omega)] | rw [aC2 hs c (show 0 ≤ j + 2 by omega) (by omega)] | rw [q1] | rw [q2])
    simp only [ain]
    by_cases g1 : sg (j + 1) = v2
    · rw [if_pos g1, c103_43, show (0 : Int) = b2i false from rfl, mid, decide_eq_true g1]; rfl
    · rw [if_neg g1, decide_eq_false g1]
      by_cases g2 : sg (j + 2) = 0
      · rw [if_pos g2, show (1 : Int) = b2i true from rfl, mid, decide_eq_true g2]; rfl
      · rw [if_neg g2, decide_eq_false g2, c103_43, show (0 : Int) = b2i false from rfl, mid]; rfl
theorem k103_4 (d : Nat) (hs : SpL s) (hx : Xt c) (v0 v1 v2 : Int) : ∀ (n : Nat) (l a : Int), 0 ≤ l → l + 3 * n = 18 → ∀ o5 o6 o7 o8, Rr (Cd (d + 1)) 103 4 [some (vI v0), some (vI v1), some (vI v2), some (vI a), some (vI l), o5, o6, o7, o8] [] (s, c) = some ([vI (aou v0 v1 v2 n l a)], (s, c))
  | 0, l, a, h0, h, o5, o6, o7, o8 => by rw [c103_4, if_neg (by omega)]; rfl
  | n + 1, l, a, h0, h, o5, o6, o7, o8 => by
    have ih := k103_25 d hs hx v0 v1 v2 h0 (by omega) (fun a => k103_4 d hs hx v0 v1 v2 n (l + 3) a (by omega) (by omega))
    have q0 : c 2 l.toNat = sg l := x2 hx _
    have q1 : c 2 (l + 1).toNat = sg (l + 1) := x2 hx _
    have i1 := fun f => ih f 6 0 a (by decide) (by decide)
    rw [c103_4, if_pos (show l < 18 by omega)]
    repeat (first | rw [bnd_s] | rw [tI_m] | rw [tL_m] | rw [tA_m] | rw [tV_m] | rw [w32_id (z := l + 1) (by omega) (by omega)] | rw [aC2 hs c h0 (by omega)] | rw [aC2 hs c (show 0 ≤ l + 1 by omega) (by omega)] | rw [q0] | rw [q1])
    simp only [aou]
    by_cases g1 : sg l = v0
    · rw [if_pos g1, c103_21, c103_22, i1, decide_eq_true g1]; rfl
    · rw [if_neg g1, decide_eq_false g1]
      by_cases g2 : sg (l + 1) = v1
      · rw [if_pos g2, c103_21, c103_22, i1, decide_eq_true g2]; rfl
      · rw [if_neg g2, c103_22, i1, decide_eq_false g2]; rfl
theorem pr_ok : ∀ a b e : Bool, aou (b2i a) (b2i b) (b2i e) 6 0 0 = pr3 a b e := by
  intro a b e; cases a <;> cases b <;> cases e <;> decide +kernel
theorem k103 (d : Nat) (hs : SpL s) (hx : Xt c) (a b e : Bool) : Cd (d + 2) 103 [vI (b2i a), vI (b2i b), vI (b2i e)] (s, c) = some ([vI (pr3 a b e)], (s, c)) := by
  rw [c103, k103_4 d hs hx _ _ _ 6 0 0 (by decide) (by decide), pr_ok]
end
def prdU (f : Int → Int) : Nat → Int → Int → Int
  | 0, _, a => a
  | n + 1, j, a => prdU f n (j + 1) (w32 (a * f j))
def swU (f : Int → Int) : Nat → Int → Int → Int
  | 0, _, a => a
  | n + 1, j, a => swU f n (j + 1) (w32 (a + f j))
def prF (c : Nat → Nat → Int) (b k : Int) : Int := pr3 (pnB c b k 0) (pnB c b k 1) (pnB c b k 2)
section
variable {s : List (Nat × Nat)} {c : Nat → Nat → Int} {L K : Int}
theorem k102_4 (d : Nat) (hs : SpL s) (hx : Xt c) (hr : RK c L K) {b : Int} (hb : 0 ≤ b) (hb2 : b < 8) : ∀ (n : Nat) (k a : Int), 0 ≤ k → k + n = K → Rr (Cd (d + 2)) 102 4 [some (vA 38), some (vI b), some (vI a), some (vI k)] [] (s, c) = some ([vI (prdU (prF c b) n k a)], (s, c))
  | 0, k, a, h0, h => by
    have l2 := hr.1.2.2
    rw [c102_4]
    repeat (first | rw [bnd_s] | rw [tI_m] | rw [tL_m] | rw [tA_m] | rw [tV_m] | rw [fC38 hs _ (by decide)] | rw [pC38 hs _ _ (by decide)] | rw [l2] | rw [if_neg (show ¬ k < K by omega)])
    rfl
  | n + 1, k, a, h0, h => by
    have l2 := hr.1.2.2
    have bK := hr.2.2.2.1
    have ih := k102_4 d hs hx hr hb hb2 n (k + 1) (w32 (a * prF c b k)) (by omega) (by omega)
    rw [c102_4]
    repeat (first | rw [bnd_s] | rw [tI_m] | rw [tL_m] | rw [tA_m] | rw [tV_m] | rw [fC38 hs _ (by decide)] | rw [pC38 hs _ _ (by decide)] | rw [l2] | rw [if_pos (show k < K by omega)] | rw [k100 _ hs hr hb hb2 h0 (show k < K by omega) (by decide) (by decide)] | rw [k103 _ hs hx] | rw [w32_id (z := k + 1) (by omega) (by omega)])
    exact ih
theorem k102 (d : Nat) (hs : SpL s) (hx : Xt c) (hr : RK c L K) {b : Int} (hb : 0 ≤ b) (hb2 : b < 8) : Cd (d + 3) 102 [vA 38, vI b] (s, c) = some ([vI (prdU (prF c b) K.toNat 0 1)], (s, c)) := by
  have bK := hr.2.2.2.1
  rw [c102 (hg := gC38 hs c), k102_4 d hs hx hr hb hb2 K.toNat 0 1 (by omega) (by omega)]
theorem m273_4 (d : Nat) (hs : SpL s) (hm : MS c) (hr : RK c L K) {b : Int} (hb : 0 ≤ b) (hb2 : b < 8) : ∀ (n : Nat) (k a : Int), 0 ≤ k → k + n = K → ∀ o4, Rr (Cd (d + 1)) 273 4 [some (vA 142), some (vI b), some (vI a), some (vI k), o4] [] (s, c) = some ([vI (prdU (prF c b) n k a)], (s, c))
  | 0, k, a, h0, h, o4 => by
    have l2 := hr.2.1.2
    rw [c273_4]
    repeat (first | rw [bnd_s] | rw [tI_m] | rw [tL_m] | rw [tA_m] | rw [tV_m] | rw [fC142 hs _ (by decide)] | rw [pC142 hs _ _ (by decide)] | rw [MS_0 hm] | rw [MS_1 hm] | rw [MS_2 hm] | rw [MS_3 hm] | rw [MS_4 hm] | rw [MS_5 hm] | rw [MS_7 hm] | rw [MS_8 hm] | rw [MS_21 hm] | rw [MS_29 hm] | rw [MS_30 hm] | rw [MS_31 hm] | rw [MS_37 hm] | rw [MS_38 hm] | rw [MS_39 hm] | rw [MS_40 hm] | rw [aC143 hs _ (by omega) (by omega)] | rw [show (2 : Int).toNat = 2 from rfl] | rw [show (3 : Int).toNat = 3 from rfl] | rw [l2] | rw [if_neg (show ¬ k < K by omega)])
    rfl
  | n + 1, k, a, h0, h, o4 => by
    have l2 := hr.2.1.2
    have bK := hr.2.2.2.1
    have g0 := (hr.2.2.2.2 (3 * k + 0) (by omega) (by omega)).2
    have g1 := (hr.2.2.2.2 (3 * k + 1) (by omega) (by omega)).2
    have g2 := (hr.2.2.2.2 (3 * k + 2) (by omega) (by omega)).2
    have ih := m273_4 d hs hm hr hb hb2 n (k + 1) (w32 (a * prF c b k)) (by omega) (by omega)
    have e0 : (320 + 3 * k).toNat = (320 + (3 * k + 0)).toNat := by omega
    have e1 : (320 + 3 * k + 1).toNat = (320 + (3 * k + 1)).toNat := by omega
    have e2 : (320 + 3 * k + 2).toNat = (320 + (3 * k + 2)).toNat := by omega
    have if01 : ∀ {α : Type} (x : Bool) (f : Int → α), (if b2i x = 0 then f 1 else f 0) = f (b2i (!x)) := fun x f => by cases x <;> rfl
    rw [c273_4]
    repeat (first | rw [bnd_s] | rw [tI_m] | rw [tL_m] | rw [tA_m] | rw [tV_m] | rw [fC142 hs _ (by decide)] | rw [pC142 hs _ _ (by decide)] | rw [MS_0 hm] | rw [MS_1 hm] | rw [MS_2 hm] | rw [MS_3 hm] | rw [MS_4 hm] | rw [MS_5 hm] | rw [MS_7 hm] | rw [MS_8 hm] | rw [MS_21 hm] | rw [MS_29 hm] | rw [MS_30 hm] | rw [MS_31 hm] | rw [MS_37 hm] | rw [MS_38 hm] | rw [MS_39 hm] | rw [MS_40 hm] | rw [aC143 hs _ (show 0 ≤ (2 : Int) by decide) (by decide)] | rw [show (2 : Int).toNat = 2 from rfl] | rw [show (3 : Int).toNat = 3 from rfl] | rw [l2] | rw [if_pos (show k < K by omega)] | rw [w32_id (z := 3 * k) (by omega) (by omega)] | rw [w32_id (z := 320 + 3 * k) (by omega) (by omega)] | rw [w32_id (z := 320 + 3 * k + 1) (by omega) (by omega)] | rw [w32_id (z := 320 + 3 * k + 2) (by omega) (by omega)] | rw [aC143 hs _ (show 0 ≤ 320 + 3 * k by omega) (by omega)] | rw [aC143 hs _ (show 0 ≤ 320 + 3 * k + 1 by omega) (by omega)] | rw [aC143 hs _ (show 0 ≤ 320 + 3 * k + 2 by omega) (by omega)] | rw [e0] | rw [e1] | rw [e2] | rw [m271 _ hs g0.1 g0.2.1 g0.2.2 hb hb2] | rw [m271 _ hs g1.1 g1.2.1 g1.2.2 hb hb2] | rw [m271 _ hs g2.1 g2.2.1 g2.2.2 hb hb2])
    rw [if01 (sgB b (c 143 (320 + (3 * k + 0)).toNat)) (fun z => Rr (Cd (d + 1)) 273 28 [some (vA 142), some (vI b), some (vI a), some (vI k), some (vI (320 + 3 * k))] [vI z, vI a] (s, c)), c273_28]
    repeat (first | rw [bnd_s] | rw [tI_m] | rw [tL_m] | rw [tA_m] | rw [tV_m] | rw [fC142 hs _ (by decide)] | rw [pC142 hs _ _ (by decide)] | rw [MS_0 hm] | rw [MS_1 hm] | rw [MS_2 hm] | rw [MS_3 hm] | rw [MS_4 hm] | rw [MS_5 hm] | rw [MS_7 hm] | rw [MS_8 hm] | rw [MS_21 hm] | rw [MS_29 hm] | rw [MS_30 hm] | rw [MS_31 hm] | rw [MS_37 hm] | rw [MS_38 hm] | rw [MS_39 hm] | rw [MS_40 hm] | rw [w32_id (z := 3 * k) (by omega) (by omega)] | rw [w32_id (z := 320 + 3 * k) (by omega) (by omega)] | rw [w32_id (z := 320 + 3 * k + 1) (by omega) (by omega)] | rw [w32_id (z := 320 + 3 * k + 2) (by omega) (by omega)] | rw [aC143 hs _ (show 0 ≤ 320 + 3 * k by omega) (by omega)] | rw [aC143 hs _ (show 0 ≤ 320 + 3 * k + 1 by omega) (by omega)] | rw [aC143 hs _ (show 0 ≤ 320 + 3 * k + 2 by omega) (by omega)] | rw [e0] | rw [e1] | rw [e2] | rw [m271 _ hs g0.1 g0.2.1 g0.2.2 hb hb2] | rw [m271 _ hs g1.1 g1.2.1 g1.2.2 hb hb2] | rw [m271 _ hs g2.1 g2.2.1 g2.2.2 hb hb2])
    rw [if01 (sgB b (c 143 (320 + (3 * k + 1)).toNat)) (fun z => Rr (Cd (d + 1)) 273 41 [some (vA 142), some (vI b), some (vI a), some (vI k), some (vI (320 + 3 * k))] [vI z, vI (b2i (!sgB b (c 143 (320 + (3 * k + 0)).toNat))), vI a] (s, c)), c273_41]
    repeat (first | rw [bnd_s] | rw [tI_m] | rw [tL_m] | rw [tA_m] | rw [tV_m] | rw [fC142 hs _ (by decide)] | rw [pC142 hs _ _ (by decide)] | rw [MS_0 hm] | rw [MS_1 hm] | rw [MS_2 hm] | rw [MS_3 hm] | rw [MS_4 hm] | rw [MS_5 hm] | rw [MS_7 hm] | rw [MS_8 hm] | rw [MS_21 hm] | rw [MS_29 hm] | rw [MS_30 hm] | rw [MS_31 hm] | rw [MS_37 hm] | rw [MS_38 hm] | rw [MS_39 hm] | rw [MS_40 hm] | rw [w32_id (z := 3 * k) (by omega) (by omega)] | rw [w32_id (z := 320 + 3 * k) (by omega) (by omega)] | rw [w32_id (z := 320 + 3 * k + 1) (by omega) (by omega)] | rw [w32_id (z := 320 + 3 * k + 2) (by omega) (by omega)] | rw [aC143 hs _ (show 0 ≤ 320 + 3 * k by omega) (by omega)] | rw [aC143 hs _ (show 0 ≤ 320 + 3 * k + 1 by omega) (by omega)] | rw [aC143 hs _ (show 0 ≤ 320 + 3 * k + 2 by omega) (by omega)] | rw [e0] | rw [e1] | rw [e2] | rw [m271 _ hs g0.1 g0.2.1 g0.2.2 hb hb2] | rw [m271 _ hs g1.1 g1.2.1 g1.2.2 hb hb2] | rw [m271 _ hs g2.1 g2.2.1 g2.2.2 hb hb2])
    rw [if01 (sgB b (c 143 (320 + (3 * k + 2)).toNat)) (fun z => Rr (Cd (d + 1)) 273 54 [some (vA 142), some (vI b), some (vI a), some (vI k), some (vI (320 + 3 * k))] [vI z, vI (b2i (!sgB b (c 143 (320 + (3 * k + 1)).toNat))), vI (b2i (!sgB b (c 143 (320 + (3 * k + 0)).toNat))), vI a] (s, c)), c273_54]
    repeat (first | rw [bnd_s] | rw [tI_m] | rw [tL_m] | rw [tA_m] | rw [tV_m] | rw [fC142 hs _ (by decide)] | rw [pC142 hs _ _ (by decide)] | rw [MS_0 hm] | rw [MS_1 hm] | rw [MS_2 hm] | rw [MS_3 hm] | rw [MS_4 hm] | rw [MS_5 hm] | rw [MS_7 hm] | rw [MS_8 hm] | rw [MS_21 hm] | rw [MS_29 hm] | rw [MS_30 hm] | rw [MS_31 hm] | rw [MS_37 hm] | rw [MS_38 hm] | rw [MS_39 hm] | rw [MS_40 hm] | rw [m272] | rw [w32_id (z := k + 1) (by omega) (by omega)])
    exact ih _
theorem m273 (d : Nat) (hs : SpL s) (hm : MS c) (hr : RK c L K) {b : Int} (hb : 0 ≤ b) (hb2 : b < 8) : Cd (d + 2) 273 [vA 142, vI b] (s, c) = some ([vI (prdU (prF c b) K.toNat 0 1)], (s, c)) := by
  have bK := hr.2.2.2.1
  rw [c273 (hg := gC142 hs c), m273_4 d hs hm hr hb hb2 K.toNat 0 1 (by omega) (by omega)]
theorem wy (h1 : 1 ≤ L) (h2 : L ≤ 3) : 2 ≤ ishl 1 L ∧ ishl 1 L ≤ 8 := by
  have : L = 1 ∨ L = 2 ∨ L = 3 := by omega
  rcases this with rfl | rfl | rfl <;> decide +kernel
theorem k95 (d : Nat) (hs : SpL s) (hr : RK c L K) : Cd (d + 1) 95 [vA 38] (s, c) = some ([vI (ishl 1 L)], (s, c)) := by
  have l1 := hr.1.2.1
  rw [c95 (hg := gC38 hs c)]
  repeat (first | rw [bnd_s] | rw [tI_m] | rw [tL_m] | rw [tA_m] | rw [tV_m] | rw [fC38 hs _ (by decide)] | rw [pC38 hs _ _ (by decide)] | rw [l1])
theorem k98_4 (d : Nat) (hs : SpL s) (hr : RK c L K) : ∀ (n : Nat) (b a : Int), 0 ≤ b → b + n = ishl 1 L → Rr (Cd (d + 3)) 98 4 [some (vA 38), some (vI a), some (vI b)] [] (s, c) = some ([vI (swU (fun b => b2i (allU (slB c b) K.toNat 0)) n b a)], (s, c))
  | 0, b, a, h0, h => by
    rw [c98_4]
    repeat (first | rw [bnd_s] | rw [tI_m] | rw [tL_m] | rw [tA_m] | rw [tV_m] | rw [k95 _ hs hr] | rw [if_neg (show ¬ b < ishl 1 L by omega)])
    rfl
  | n + 1, b, a, h0, h => by
    have w := wy hr.2.2.1.1 hr.2.2.1.2
    have ih := k98_4 d hs hr n (b + 1) (w32 (a + b2i (allU (slB c b) K.toNat 0))) (by omega) (by omega)
    rw [c98_4]
    repeat (first | rw [bnd_s] | rw [tI_m] | rw [tL_m] | rw [tA_m] | rw [tV_m] | rw [k95 _ hs hr] | rw [if_pos (show b < ishl 1 L by omega)] | rw [k99 _ hs hr h0 (by omega)] | rw [k159] | rw [w32_id (z := b + 1) (by omega) (by omega)])
    exact ih
theorem k101_4 (d : Nat) (hs : SpL s) (hx : Xt c) (hr : RK c L K) : ∀ (n : Nat) (b a : Int), 0 ≤ b → b + n = ishl 1 L → Rr (Cd (d + 3)) 101 4 [some (vA 38), some (vI a), some (vI b)] [] (s, c) = some ([vI (swU (fun b => prdU (prF c b) K.toNat 0 1) n b a)], (s, c))
  | 0, b, a, h0, h => by
    rw [c101_4]
    repeat (first | rw [bnd_s] | rw [tI_m] | rw [tL_m] | rw [tA_m] | rw [tV_m] | rw [k95 _ hs hr] | rw [if_neg (show ¬ b < ishl 1 L by omega)])
    rfl
  | n + 1, b, a, h0, h => by
    have w := wy hr.2.2.1.1 hr.2.2.1.2
    have ih := k101_4 d hs hx hr n (b + 1) (w32 (a + prdU (prF c b) K.toNat 0 1)) (by omega) (by omega)
    rw [c101_4]
    repeat (first | rw [bnd_s] | rw [tI_m] | rw [tL_m] | rw [tA_m] | rw [tV_m] | rw [k95 _ hs hr] | rw [if_pos (show b < ishl 1 L by omega)] | rw [k102 _ hs hx hr h0 (by omega)] | rw [w32_id (z := b + 1) (by omega) (by omega)])
    exact ih
theorem m275_69 (d : Nat) (hs : SpL s) (hm : MS c) (hr : RK c L K) : ∀ (n : Nat) (b a : Int), 0 ≤ b → b + n = ishl 1 L → Rr (Cd (d + 2)) 275 69 [some (vA 142), some (vI 3), some (vI (ishl 1 L)), some (vI a), some (vI b)] [] (s, c) = some ([vI (swU (fun b => prdU (prF c b) K.toNat 0 1) n b a)], (s, c))
  | 0, b, a, h0, h => by rw [c275_69, if_neg (by omega)]; rfl
  | n + 1, b, a, h0, h => by
    have w := wy hr.2.2.1.1 hr.2.2.1.2
    have ih := m275_69 d hs hm hr n (b + 1) (w32 (a + prdU (prF c b) K.toNat 0 1)) (by omega) (by omega)
    rw [c275_69, if_pos (show b < ishl 1 L by omega), if_pos rfl]
    repeat (first | rw [bnd_s] | rw [tI_m] | rw [tL_m] | rw [tA_m] | rw [tV_m] | rw [m273 _ hs hm hr h0 (by omega)] | rw [c275_87] | rw [w32_id (z := b + 1) (by omega) (by omega)])
    exact ih
theorem m275_69b (d : Nat) (hs : SpL s) (hm : MS c) (hr : RK c L K) : ∀ (n : Nat) (b a : Int), 0 ≤ b → b + n = ishl 1 L → Rr (Cd (d + 2)) 275 69 [some (vA 142), some (vI 0), some (vI (ishl 1 L)), some (vI a), some (vI b)] [] (s, c) = some ([vI (swU (fun b => b2i (allU (slB c b) K.toNat 0)) n b a)], (s, c))
  | 0, b, a, h0, h => by rw [c275_69, if_neg (by omega)]; rfl
  | n + 1, b, a, h0, h => by
    have w := wy hr.2.2.1.1 hr.2.2.1.2
    have ih := m275_69b d hs hm hr n (b + 1) (w32 (a + b2i (allU (slB c b) K.toNat 0))) (by omega) (by omega)
    rw [c275_69, if_pos (show b < ishl 1 L by omega), if_neg (by decide)]
    repeat (first | rw [bnd_s] | rw [tI_m] | rw [tL_m] | rw [tA_m] | rw [tV_m] | rw [m274 _ hs hm hr h0 (by omega)])
    simp only [swU]
    rw [if_b0]
    generalize allU (slB c b) K.toNat 0 = q at ih ⊢
    cases q
    · rw [cond_f, c275_87, w32_id (z := b + 1) (by omega) (by omega)]; exact ih
    · rw [cond_t, c275_87, w32_id (z := b + 1) (by omega) (by omega)]; exact ih
end
theorem op_riddle (v : Int) : Op 145 275 [vI v] := by
  intro s c n hI
  have hs := hI.1.l
  have hc := hI.2.2.2.1
  have hm := hI.2.2.1
  have hx : Xt c := hI.2.1
  have hr := RK_of hI
  generalize hL : c 143 3 = L at *
  generalize hK : c 143 2 = K at *
  obtain ⟨⟨l0, l1, l2⟩, -, bL, bK, -⟩ := id hr
  have w := wy bL.1 bL.2
  by_cases h0 : v = 0
  · subst h0
    refine ⟨vI (swU (fun b => b2i (allU (slB c b) K.toNat 0)) (ishl 1 L).toNat 0 0), s, s, c, c, n, ?_, ?_, by omega, hI⟩
    · rw [c145 (hg := gC29 hs c)]
      repeat (first | rw [bnd_s] | rw [tI_m] | rw [tL_m] | rw [tA_m] | rw [tV_m] | rw [fC29 hs _ (by decide)] | rw [pC29 hs _ _ (by decide)] | rw [fC30 hs _ (by decide)] | rw [pC30 hs _ _ (by decide)] | rw [fC38 hs _ (by decide)] | rw [pC38 hs _ _ (by decide)] | rw [CS_29_0 hc] | rw [CS_30_5 hc] | rw [l1] | rw [l2] | rw [if_pos (show (0 : Int) = 0 from rfl)] | rw [if_neg (show ¬ (0 : Int) = 1 by decide)] | rw [if_neg (show ¬ (0 : Int) = 2 by decide)] | rw [if_neg (show ¬ (0 : Int) = 3 by decide)] | rw [c98 (hg := gC38 hs _)] | rw [k98_4 _ hs hr (ishl 1 L).toNat 0 0 (by omega) (by omega)])
    · rw [c275 (hg := gC142 hs c)]
      repeat (first | rw [bnd_s] | rw [tI_m] | rw [tL_m] | rw [tA_m] | rw [tV_m] | rw [fC142 hs _ (by decide)] | rw [pC142 hs _ _ (by decide)] | rw [MS_0 hm] | rw [MS_1 hm] | rw [MS_2 hm] | rw [MS_3 hm] | rw [MS_4 hm] | rw [MS_5 hm] | rw [MS_7 hm] | rw [MS_8 hm] | rw [MS_21 hm] | rw [MS_29 hm] | rw [MS_30 hm] | rw [MS_31 hm] | rw [MS_37 hm] | rw [MS_38 hm] | rw [MS_39 hm] | rw [MS_40 hm] | rw [aC143 hs _ (show 0 ≤ (2 : Int) by decide) (by decide)] | rw [aC143 hs _ (show 0 ≤ (3 : Int) by decide) (by decide)] | rw [show (2 : Int).toNat = 2 from rfl] | rw [show (3 : Int).toNat = 3 from rfl] | rw [hL] | rw [hK] | rw [m172] | rw [if_b0] | rw [if_pos (show (0 : Int) = 0 from rfl)] | rw [if_neg (show ¬ (0 : Int) = 1 by decide)] | rw [if_neg (show ¬ (0 : Int) = 2 by decide)] | rw [if_neg (show ¬ (0 : Int) = 3 by decide)] | rw [w32_id (z := 999 + ishl 1 L) (by omega) (by omega)] | rw [w32_id (z := 1000 + ishl 1 L) (by omega) (by omega)] | rw [inR_f (show ¬ ((1000 : Int) ≤ 0 ∧ (0 : Int) ≤ 999 + ishl 1 L) by omega)] | rw [cond_f] | rw [c275_65] | rw [m275_69b _ hs hm hr (ishl 1 L).toNat 0 0 (by omega) (by omega)])
  by_cases h1 : v = 1
  · subst h1
    refine ⟨vI (w32 (w32 (3 + (w32 (2 * L))) + (w32 (6 * K)))), s, s, c, c, n, ?_, ?_, by omega, hI⟩
    · rw [c145 (hg := gC29 hs c)]
      repeat (first | rw [bnd_s] | rw [tI_m] | rw [tL_m] | rw [tA_m] | rw [tV_m] | rw [fC29 hs _ (by decide)] | rw [pC29 hs _ _ (by decide)] | rw [fC30 hs _ (by decide)] | rw [pC30 hs _ _ (by decide)] | rw [fC38 hs _ (by decide)] | rw [pC38 hs _ _ (by decide)] | rw [CS_29_0 hc] | rw [CS_30_5 hc] | rw [l1] | rw [l2] | rw [if_pos (show (1 : Int) = 1 from rfl)] | rw [if_neg (show ¬ (1 : Int) = 0 by decide)] | rw [if_neg (show ¬ (1 : Int) = 2 by decide)] | rw [if_neg (show ¬ (1 : Int) = 3 by decide)] | rw [c96 (hg := gC38 hs _)])
    · rw [c275 (hg := gC142 hs c)]
      repeat (first | rw [bnd_s] | rw [tI_m] | rw [tL_m] | rw [tA_m] | rw [tV_m] | rw [fC142 hs _ (by decide)] | rw [pC142 hs _ _ (by decide)] | rw [MS_0 hm] | rw [MS_1 hm] | rw [MS_2 hm] | rw [MS_3 hm] | rw [MS_4 hm] | rw [MS_5 hm] | rw [MS_7 hm] | rw [MS_8 hm] | rw [MS_21 hm] | rw [MS_29 hm] | rw [MS_30 hm] | rw [MS_31 hm] | rw [MS_37 hm] | rw [MS_38 hm] | rw [MS_39 hm] | rw [MS_40 hm] | rw [aC143 hs _ (show 0 ≤ (2 : Int) by decide) (by decide)] | rw [aC143 hs _ (show 0 ≤ (3 : Int) by decide) (by decide)] | rw [show (2 : Int).toNat = 2 from rfl] | rw [show (3 : Int).toNat = 3 from rfl] | rw [hL] | rw [hK] | rw [m172] | rw [if_b0] | rw [if_pos (show (1 : Int) = 1 from rfl)] | rw [if_neg (show ¬ (1 : Int) = 0 by decide)] | rw [if_neg (show ¬ (1 : Int) = 2 by decide)] | rw [if_neg (show ¬ (1 : Int) = 3 by decide)] | rw [w32_id (z := 999 + ishl 1 L) (by omega) (by omega)] | rw [w32_id (z := 1000 + ishl 1 L) (by omega) (by omega)] | rw [inR_f (show ¬ ((1000 : Int) ≤ 1 ∧ (1 : Int) ≤ 999 + ishl 1 L) by omega)] | rw [cond_f])
  by_cases h2 : v = 2
  · subst h2
    refine ⟨vI (w32 (w32 (3 + (w32 (3 * L))) + (w32 (12 * K)))), s, s, c, c, n, ?_, ?_, by omega, hI⟩
    · rw [c145 (hg := gC29 hs c)]
      repeat (first | rw [bnd_s] | rw [tI_m] | rw [tL_m] | rw [tA_m] | rw [tV_m] | rw [fC29 hs _ (by decide)] | rw [pC29 hs _ _ (by decide)] | rw [fC30 hs _ (by decide)] | rw [pC30 hs _ _ (by decide)] | rw [fC38 hs _ (by decide)] | rw [pC38 hs _ _ (by decide)] | rw [CS_29_0 hc] | rw [CS_30_5 hc] | rw [l1] | rw [l2] | rw [if_pos (show (2 : Int) = 2 from rfl)] | rw [if_neg (show ¬ (2 : Int) = 0 by decide)] | rw [if_neg (show ¬ (2 : Int) = 1 by decide)] | rw [if_neg (show ¬ (2 : Int) = 3 by decide)] | rw [c97 (hg := gC38 hs _)])
    · rw [c275 (hg := gC142 hs c)]
      repeat (first | rw [bnd_s] | rw [tI_m] | rw [tL_m] | rw [tA_m] | rw [tV_m] | rw [fC142 hs _ (by decide)] | rw [pC142 hs _ _ (by decide)] | rw [MS_0 hm] | rw [MS_1 hm] | rw [MS_2 hm] | rw [MS_3 hm] | rw [MS_4 hm] | rw [MS_5 hm] | rw [MS_7 hm] | rw [MS_8 hm] | rw [MS_21 hm] | rw [MS_29 hm] | rw [MS_30 hm] | rw [MS_31 hm] | rw [MS_37 hm] | rw [MS_38 hm] | rw [MS_39 hm] | rw [MS_40 hm] | rw [aC143 hs _ (show 0 ≤ (2 : Int) by decide) (by decide)] | rw [aC143 hs _ (show 0 ≤ (3 : Int) by decide) (by decide)] | rw [show (2 : Int).toNat = 2 from rfl] | rw [show (3 : Int).toNat = 3 from rfl] | rw [hL] | rw [hK] | rw [m172] | rw [if_b0] | rw [if_pos (show (2 : Int) = 2 from rfl)] | rw [if_neg (show ¬ (2 : Int) = 0 by decide)] | rw [if_neg (show ¬ (2 : Int) = 1 by decide)] | rw [if_neg (show ¬ (2 : Int) = 3 by decide)] | rw [w32_id (z := 999 + ishl 1 L) (by omega) (by omega)] | rw [w32_id (z := 1000 + ishl 1 L) (by omega) (by omega)] | rw [inR_f (show ¬ ((1000 : Int) ≤ 2 ∧ (2 : Int) ≤ 999 + ishl 1 L) by omega)] | rw [cond_f])
  by_cases h3 : v = 3
  · subst h3
    refine ⟨vI (swU (fun b => prdU (prF c b) K.toNat 0 1) (ishl 1 L).toNat 0 0), s, s, c, c, n, ?_, ?_, by omega, hI⟩
    · rw [c145 (hg := gC29 hs c)]
      repeat (first | rw [bnd_s] | rw [tI_m] | rw [tL_m] | rw [tA_m] | rw [tV_m] | rw [fC29 hs _ (by decide)] | rw [pC29 hs _ _ (by decide)] | rw [fC30 hs _ (by decide)] | rw [pC30 hs _ _ (by decide)] | rw [fC38 hs _ (by decide)] | rw [pC38 hs _ _ (by decide)] | rw [CS_29_0 hc] | rw [CS_30_5 hc] | rw [l1] | rw [l2] | rw [if_pos (show (3 : Int) = 3 from rfl)] | rw [if_neg (show ¬ (3 : Int) = 0 by decide)] | rw [if_neg (show ¬ (3 : Int) = 1 by decide)] | rw [if_neg (show ¬ (3 : Int) = 2 by decide)] | rw [c101 (hg := gC38 hs _)] | rw [k101_4 _ hs hx hr (ishl 1 L).toNat 0 0 (by omega) (by omega)])
    · rw [c275 (hg := gC142 hs c)]
      repeat (first | rw [bnd_s] | rw [tI_m] | rw [tL_m] | rw [tA_m] | rw [tV_m] | rw [fC142 hs _ (by decide)] | rw [pC142 hs _ _ (by decide)] | rw [MS_0 hm] | rw [MS_1 hm] | rw [MS_2 hm] | rw [MS_3 hm] | rw [MS_4 hm] | rw [MS_5 hm] | rw [MS_7 hm] | rw [MS_8 hm] | rw [MS_21 hm] | rw [MS_29 hm] | rw [MS_30 hm] | rw [MS_31 hm] | rw [MS_37 hm] | rw [MS_38 hm] | rw [MS_39 hm] | rw [MS_40 hm] | rw [aC143 hs _ (show 0 ≤ (2 : Int) by decide) (by decide)] | rw [aC143 hs _ (show 0 ≤ (3 : Int) by decide) (by decide)] | rw [show (2 : Int).toNat = 2 from rfl] | rw [show (3 : Int).toNat = 3 from rfl] | rw [hL] | rw [hK] | rw [m172] | rw [if_b0] | rw [if_pos (show (3 : Int) = 3 from rfl)] | rw [if_neg (show ¬ (3 : Int) = 0 by decide)] | rw [if_neg (show ¬ (3 : Int) = 1 by decide)] | rw [if_neg (show ¬ (3 : Int) = 2 by decide)] | rw [w32_id (z := 999 + ishl 1 L) (by omega) (by omega)] | rw [w32_id (z := 1000 + ishl 1 L) (by omega) (by omega)] | rw [inR_f (show ¬ ((1000 : Int) ≤ 3 ∧ (3 : Int) ≤ 999 + ishl 1 L) by omega)] | rw [cond_f] | rw [c275_65] | rw [m275_69 _ hs hm hr (ishl 1 L).toNat 0 0 (by omega) (by omega)])
  by_cases h4 : 1000 ≤ v ∧ v ≤ 999 + ishl 1 L
  · refine ⟨vI (prdU (prF c (v - 1000)) K.toNat 0 1), s, s, c, c, n, ?_, ?_, by omega, hI⟩
    · rw [c145 (hg := gC29 hs c)]
      repeat (first | rw [bnd_s] | rw [tI_m] | rw [tL_m] | rw [tA_m] | rw [tV_m] | rw [fC29 hs _ (by decide)] | rw [pC29 hs _ _ (by decide)] | rw [fC30 hs _ (by decide)] | rw [pC30 hs _ _ (by decide)] | rw [fC38 hs _ (by decide)] | rw [pC38 hs _ _ (by decide)] | rw [CS_29_0 hc] | rw [CS_30_5 hc] | rw [l1] | rw [l2] | rw [if_neg h0] | rw [if_neg h1] | rw [if_neg h2] | rw [if_neg h3] | rw [w32_id (z := 999 + ishl 1 L) (by omega) (by omega)] | rw [w32_id (z := 1000 + ishl 1 L) (by omega) (by omega)] | rw [k95 _ hs hr] | rw [if_neg (show ¬ v < 1000 by omega)] | rw [if_pos (show v < 1000 + ishl 1 L by omega)] | rw [w32_id (z := v - 1000) (by omega) (by omega)] | rw [k102 _ hs hx hr (show 0 ≤ v - 1000 by omega) (by omega)])
    · rw [c275 (hg := gC142 hs c)]
      repeat (first | rw [bnd_s] | rw [tI_m] | rw [tL_m] | rw [tA_m] | rw [tV_m] | rw [fC142 hs _ (by decide)] | rw [pC142 hs _ _ (by decide)] | rw [MS_0 hm] | rw [MS_1 hm] | rw [MS_2 hm] | rw [MS_3 hm] | rw [MS_4 hm] | rw [MS_5 hm] | rw [MS_7 hm] | rw [MS_8 hm] | rw [MS_21 hm] | rw [MS_29 hm] | rw [MS_30 hm] | rw [MS_31 hm] | rw [MS_37 hm] | rw [MS_38 hm] | rw [MS_39 hm] | rw [MS_40 hm] | rw [aC143 hs _ (show 0 ≤ (2 : Int) by decide) (by decide)] | rw [aC143 hs _ (show 0 ≤ (3 : Int) by decide) (by decide)] | rw [show (2 : Int).toNat = 2 from rfl] | rw [show (3 : Int).toNat = 3 from rfl] | rw [hL] | rw [hK] | rw [m172] | rw [if_b0] | rw [if_neg h0] | rw [if_neg h1] | rw [if_neg h2] | rw [if_neg h3] | rw [w32_id (z := 999 + ishl 1 L) (by omega) (by omega)] | rw [w32_id (z := 1000 + ishl 1 L) (by omega) (by omega)] | rw [inR_t h4] | rw [cond_t] | rw [w32_id (z := v - 1000) (by omega) (by omega)] | rw [m273 _ hs hm hr (show 0 ≤ v - 1000 by omega) (by omega)])
  · refine ⟨vI (-1), s, s, c, c, n, ?_, ?_, by omega, hI⟩
    · rw [c145 (hg := gC29 hs c)]
      repeat (first | rw [bnd_s] | rw [tI_m] | rw [tL_m] | rw [tA_m] | rw [tV_m] | rw [fC29 hs _ (by decide)] | rw [pC29 hs _ _ (by decide)] | rw [fC30 hs _ (by decide)] | rw [pC30 hs _ _ (by decide)] | rw [fC38 hs _ (by decide)] | rw [pC38 hs _ _ (by decide)] | rw [CS_29_0 hc] | rw [CS_30_5 hc] | rw [l1] | rw [l2] | rw [if_neg h0] | rw [if_neg h1] | rw [if_neg h2] | rw [if_neg h3] | rw [w32_id (z := 999 + ishl 1 L) (by omega) (by omega)] | rw [w32_id (z := 1000 + ishl 1 L) (by omega) (by omega)] | rw [k95 _ hs hr])
      by_cases h5 : v < 1000
      · rw [if_pos h5, c145_33]
      · rw [if_neg h5]
        repeat (first | rw [bnd_s] | rw [tI_m] | rw [tL_m] | rw [tA_m] | rw [tV_m] | rw [fC29 hs _ (by decide)] | rw [pC29 hs _ _ (by decide)] | rw [fC30 hs _ (by decide)] | rw [pC30 hs _ _ (by decide)] | rw [fC38 hs _ (by decide)] | rw [pC38 hs _ _ (by decide)] | rw [CS_29_0 hc] | rw [CS_30_5 hc] | rw [l1] | rw [l2] | rw [k95 _ hs hr] | rw [w32_id (z := 999 + ishl 1 L) (by omega) (by omega)] | rw [w32_id (z := 1000 + ishl 1 L) (by omega) (by omega)] | rw [if_neg (show ¬ v < 1000 + ishl 1 L by omega)] | rw [c145_33])
    · rw [c275 (hg := gC142 hs c)]
      repeat (first | rw [bnd_s] | rw [tI_m] | rw [tL_m] | rw [tA_m] | rw [tV_m] | rw [fC142 hs _ (by decide)] | rw [pC142 hs _ _ (by decide)] | rw [MS_0 hm] | rw [MS_1 hm] | rw [MS_2 hm] | rw [MS_3 hm] | rw [MS_4 hm] | rw [MS_5 hm] | rw [MS_7 hm] | rw [MS_8 hm] | rw [MS_21 hm] | rw [MS_29 hm] | rw [MS_30 hm] | rw [MS_31 hm] | rw [MS_37 hm] | rw [MS_38 hm] | rw [MS_39 hm] | rw [MS_40 hm] | rw [aC143 hs _ (show 0 ≤ (2 : Int) by decide) (by decide)] | rw [aC143 hs _ (show 0 ≤ (3 : Int) by decide) (by decide)] | rw [show (2 : Int).toNat = 2 from rfl] | rw [show (3 : Int).toNat = 3 from rfl] | rw [hL] | rw [hK] | rw [m172] | rw [if_b0] | rw [if_neg h0] | rw [if_neg h1] | rw [if_neg h2] | rw [if_neg h3] | rw [w32_id (z := 999 + ishl 1 L) (by omega) (by omega)] | rw [w32_id (z := 1000 + ishl 1 L) (by omega) (by omega)] | rw [inR_f h4] | rw [cond_f])
