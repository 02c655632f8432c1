/-! the reference: maps, borders, answers, swapped rows -/
theorem w32_m {a b : Int} (h1 : -2147483648 ≤ a * b) (h2 : a * b < 2147483648) : w32 (a * b) = a * b := w32_id h1 h2
theorem w32_a3 (a b e : Int) : w32 (w32 a + b + e) = w32 (a + b + e) := by rw [Int.add_assoc, w32_al, ← Int.add_assoc]
theorem w32_b3 (a b e : Int) : w32 (a + w32 b + e) = w32 (a + b + e) := by rw [← w32_al (a + w32 b), w32_ar, w32_al]
theorem w32_c3 (a b e : Int) : w32 (w32 a + b - e) = w32 (a + b - e) := by rw [← w32_sl (w32 a + b), w32_al, w32_sl]
theorem w32_d3 (a b e : Int) : w32 (a + w32 b - e) = w32 (a + b - e) := by rw [← w32_sl (a + w32 b), w32_ar, w32_sl]
def anyU (f : Int → Bool) : Nat → Int → Bool
  | 0, _ => false
  | n + 1, j => f j || anyU f n (j + 1)
def allU (f : Int → Bool) : Nat → Int → Bool
  | 0, _ => true
  | n + 1, j => f j && allU f n (j + 1)
def sumU (f : Int → Int) : Nat → Int → Int
  | 0, _ => 0
  | n + 1, j => f j + sumU f n (j + 1)
def filU (f : Int → Bool) : Nat → Int → List Int
  | 0, _ => []
  | n + 1, j => if f j then j :: filU f n (j + 1) else filU f n (j + 1)
theorem anyU_iff (f : Int → Bool) : ∀ (n : Nat) (j : Int), anyU f n j = true ↔ ∃ i, j ≤ i ∧ i < j + n ∧ f i = true
  | 0, j => by
    simp only [anyU, Bool.false_eq_true, false_iff]
    rintro ⟨i, h1, h2, -⟩; omega
  | n + 1, j => by
    simp only [anyU, Bool.or_eq_true, anyU_iff f n (j + 1)]
    constructor
    · rintro (h | ⟨i, h1, h2, h3⟩)
      · exact ⟨j, by omega, by omega, h⟩
      · exact ⟨i, by omega, by omega, h3⟩
    · rintro ⟨i, h1, h2, h3⟩
      by_cases h : i = j
      · subst h; exact Or.inl h3
      · exact Or.inr ⟨i, by omega, by omega, h3⟩
theorem allU_iff (f : Int → Bool) : ∀ (n : Nat) (j : Int), allU f n j = true ↔ ∀ i, j ≤ i → i < j + n → f i = true
  | 0, j => by
    simp only [allU, true_iff]
    intro i h1 h2; omega
  | n + 1, j => by
    simp only [allU, Bool.and_eq_true, allU_iff f n (j + 1)]
    constructor
    · rintro ⟨h, h2⟩ i h3 h4
      by_cases g : i = j
      · subst g; exact h
      · exact h2 i (by omega) (by omega)
    · intro h
      exact ⟨h j (by omega) (by omega), fun i h3 h4 => h i (by omega) (by omega)⟩
theorem anyU_cg {f g : Int → Bool} : ∀ (n : Nat) (j : Int), (∀ i, j ≤ i → i < j + n → f i = g i) → anyU f n j = anyU g n j
  | 0, _, _ => rfl
  | n + 1, j, h => by simp only [anyU]; rw [h j (by omega) (by omega), anyU_cg n (j + 1) (fun i h1 h2 => h i (by omega) (by omega))]
theorem allU_cg {f g : Int → Bool} : ∀ (n : Nat) (j : Int), (∀ i, j ≤ i → i < j + n → f i = g i) → allU f n j = allU g n j
  | 0, _, _ => rfl
  | n + 1, j, h => by simp only [allU]; rw [h j (by omega) (by omega), allU_cg n (j + 1) (fun i h1 h2 => h i (by omega) (by omega))]
theorem sumU_cg {f g : Int → Int} : ∀ (n : Nat) (j : Int), (∀ i, j ≤ i → i < j + n → f i = g i) → sumU f n j = sumU g n j
  | 0, _, _ => rfl
  | n + 1, j, h => by simp only [sumU]; rw [h j (by omega) (by omega), sumU_cg n (j + 1) (fun i h1 h2 => h i (by omega) (by omega))]
theorem filU_cg {f g : Int → Bool} : ∀ (n : Nat) (j : Int), (∀ i, j ≤ i → i < j + n → f i = g i) → filU f n j = filU g n j
  | 0, _, _ => rfl
  | n + 1, j, h => by simp only [filU]; rw [h j (by omega) (by omega), filU_cg n (j + 1) (fun i h1 h2 => h i (by omega) (by omega))]
theorem filU_len (f : Int → Bool) : ∀ (n : Nat) (j : Int), (filU f n j).length ≤ n
  | 0, _ => by simp [filU]
  | n + 1, j => by
    have := filU_len f n (j + 1)
    simp only [filU]; split <;> simp <;> omega
theorem filU_mem (f : Int → Bool) : ∀ (n : Nat) (j i : Int), i ∈ filU f n j → j ≤ i ∧ i < j + n ∧ f i = true
  | 0, _, _, h => by simp [filU] at h
  | n + 1, j, i, h => by
    simp only [filU] at h
    split at h
    · rename_i hf
      rcases List.mem_cons.mp h with rfl | h
      · exact ⟨by omega, by omega, hf⟩
      · have := filU_mem f n (j + 1) i h; exact ⟨by omega, by omega, this.2.2⟩
    · have := filU_mem f n (j + 1) i h; exact ⟨by omega, by omega, this.2.2⟩
theorem sumU_b (f : Int → Int) {B : Int} : ∀ (n : Nat) (j : Int), (∀ i, j ≤ i → i < j + n → 0 ≤ f i ∧ f i ≤ B) → 0 ≤ sumU f n j ∧ sumU f n j ≤ B * n
  | 0, _, _ => by simp [sumU]
  | n + 1, j, h => by
    have h1 := h j (by omega) (by omega)
    have h2 := sumU_b f n (j + 1) (fun i a b => h i (by omega) (by omega))
    simp only [sumU]
    rw [show ((n + 1 : Nat) : Int) = n + 1 by omega, Int.mul_add, Int.mul_one]
    omega
/-- a MAP of the reference is sound -/
def MapOK (c : Nat → Nat → Int) (m : Int) : Prop := (0 ≤ m ∧ m < 4) ∧ (2 ≤ c 143 (20 + m).toNat ∧ c 143 (20 + m).toNat ≤ 7) ∧ (0 ≤ c 143 (24 + m).toNat ∧ c 143 (24 + m).toNat ≤ 15) ∧ ∀ b, 0 ≤ b → b < c 143 (24 + m).toNat → (0 ≤ c 143 (30 + 30 * m + 2 * b).toNat ∧ c 143 (30 + 30 * m + 2 * b).toNat < c 143 (20 + m).toNat) ∧ (0 ≤ c 143 (30 + 30 * m + 2 * b + 1).toNat ∧ c 143 (30 + 30 * m + 2 * b + 1).toNat < c 143 (20 + m).toNat)
theorem MapOK_of {c c' : Nat → Nat → Int} {m : Int} (h : MapOK c m) (e : c' 143 = c 143) : MapOK c' m := by unfold MapOK at h ⊢; rw [e]; exact h
theorem m176 (d : Nat) {s : List (Nat × Nat)} {c : Nat → Nat → Int} (hs : SpL s) (hm : MS c) {m b : Int} (h0 : 0 ≤ m) (h1 : m < 4) (h2 : 0 ≤ b) (h3 : b < 15) : Cd (d + 1) 176 [vA 142, vI m, vI b] (s, c) = some ([vI (c 143 (30 + 30 * m + 2 * b).toNat)], (s, c)) := by
  rw [c176 (hg := gC142 hs c)]
  repeat (first | rw [bnd_s] | rw [tI_m] | rw [tL_m] | rw [tA_m] | rw [tV_m] | rw [fC142 hs _ (by decide)] | rw [pC142 hs _ _ (by decide)] | rw [MS_0 hm] | rw [MS_1 hm] | rw [MS_2 hm] | rw [MS_3 hm] | rw [MS_4 hm] | rw [MS_5 hm] | rw [MS_7 hm] | rw [MS_8 hm] | rw [MS_21 hm] | rw [MS_29 hm] | rw [MS_30 hm] | rw [MS_31 hm] | rw [MS_37 hm] | rw [MS_38 hm] | rw [MS_39 hm] | rw [MS_40 hm] | rw [w32_m (by omega) (by omega)] | rw [w32_al] | rw [w32_ar] | rw [w32_sl] | rw [w32_sr] | rw [w32_ml] | rw [w32_mr] | rw [w32_a3] | rw [w32_b3] | rw [w32_c3] | rw [w32_d3] | rw [w32_id (by omega) (by omega)] | rw [aC143 hs _ (by omega) (by omega)] | rw [qC143 hs _ _ (by omega) (by omega)])
theorem m177 (d : Nat) {s : List (Nat × Nat)} {c : Nat → Nat → Int} (hs : SpL s) (hm : MS c) {m b : Int} (h0 : 0 ≤ m) (h1 : m < 4) (h2 : 0 ≤ b) (h3 : b < 15) : Cd (d + 1) 177 [vA 142, vI m, vI b] (s, c) = some ([vI (c 143 (30 + 30 * m + 2 * b + 1).toNat)], (s, c)) := by
  rw [c177 (hg := gC142 hs c)]
  repeat (first | rw [bnd_s] | rw [tI_m] | rw [tL_m] | rw [tA_m] | rw [tV_m] | rw [fC142 hs _ (by decide)] | rw [pC142 hs _ _ (by decide)] | rw [MS_0 hm] | rw [MS_1 hm] | rw [MS_2 hm] | rw [MS_3 hm] | rw [MS_4 hm] | rw [MS_5 hm] | rw [MS_7 hm] | rw [MS_8 hm] | rw [MS_21 hm] | rw [MS_29 hm] | rw [MS_30 hm] | rw [MS_31 hm] | rw [MS_37 hm] | rw [MS_38 hm] | rw [MS_39 hm] | rw [MS_40 hm] | rw [w32_m (by omega) (by omega)] | rw [w32_al] | rw [w32_ar] | rw [w32_sl] | rw [w32_sr] | rw [w32_ml] | rw [w32_mr] | rw [w32_a3] | rw [w32_b3] | rw [w32_c3] | rw [w32_d3] | rw [w32_id (by omega) (by omega)] | rw [aC143 hs _ (by omega) (by omega)] | rw [qC143 hs _ _ (by omega) (by omega)])
/-- whether the border b joins x and y, either way -/
def edg (c : Nat → Nat → Int) (m x y b : Int) : Bool := decide ((c 143 (30 + 30 * m + 2 * b).toNat = x ∧ c 143 (30 + 30 * m + 2 * b + 1).toNat = y) ∨ (c 143 (30 + 30 * m + 2 * b).toNat = y ∧ c 143 (30 + 30 * m + 2 * b + 1).toNat = x))
theorem m178_2 (d : Nat) {s : List (Nat × Nat)} {c : Nat → Nat → Int} (hs : SpL s) (hm : MS c) {m : Int} (hk : MapOK c m) (x y : Int) : ∀ (n : Nat) (j : Int), 0 ≤ j → j + n = c 143 (24 + m).toNat → Rr (Cd (d + 1)) 178 2 [some (vA 142), some (vI m), some (vI x), some (vI y), some (vI j)] [] (s, c) = some ([vI (b2i (anyU (edg c m x y) n j))], (s, c))
  | 0, j, h0, h => by
    obtain ⟨⟨k0, k1⟩, ⟨k2, k3⟩, ⟨k4, k5⟩, k6⟩ := hk
    rw [c178_2]
    repeat (first | rw [bnd_s] | rw [tI_m] | rw [tL_m] | rw [tA_m] | rw [tV_m] | rw [fC142 hs _ (by decide)] | rw [pC142 hs _ _ (by decide)] | rw [MS_0 hm] | rw [MS_1 hm] | rw [MS_2 hm] | rw [MS_3 hm] | rw [MS_4 hm] | rw [MS_5 hm] | rw [MS_7 hm] | rw [MS_8 hm] | rw [MS_21 hm] | rw [MS_29 hm] | rw [MS_30 hm] | rw [MS_31 hm] | rw [MS_37 hm] | rw [MS_38 hm] | rw [MS_39 hm] | rw [MS_40 hm] | rw [w32_m (by omega) (by omega)] | rw [w32_al] | rw [w32_ar] | rw [w32_sl] | rw [w32_sr] | rw [w32_ml] | rw [w32_mr] | rw [w32_a3] | rw [w32_b3] | rw [w32_c3] | rw [w32_d3] | rw [w32_id (by omega) (by omega)] | rw [aC143 hs _ (by omega) (by omega)] | rw [qC143 hs _ _ (by omega) (by omega)] | rw [if_pos (by omega)] | rw [if_neg (by omega)])
    all_goals rfl
  | n + 1, j, h0, h => by
    have ih := m178_2 d hs hm hk x y n (j + 1) (by omega) (by omega)
    obtain ⟨⟨k0, k1⟩, ⟨k2, k3⟩, ⟨k4, k5⟩, k6⟩ := hk
    have e1 : Rr (Cd (d + 1)) 178 36 [some (vA 142), some (vI m), some (vI x), some (vI y), some (vI j)] [] (s, c) = some ([vI (b2i (anyU (edg c m x y) n (j + 1)))], (s, c)) := by
      rw [c178_36, w32_id (by omega) (by omega)]; exact ih
    rw [c178_2]
    repeat (first | rw [bnd_s] | rw [tI_m] | rw [tL_m] | rw [tA_m] | rw [tV_m] | rw [fC142 hs _ (by decide)] | rw [pC142 hs _ _ (by decide)] | rw [MS_0 hm] | rw [MS_1 hm] | rw [MS_2 hm] | rw [MS_3 hm] | rw [MS_4 hm] | rw [MS_5 hm] | rw [MS_7 hm] | rw [MS_8 hm] | rw [MS_21 hm] | rw [MS_29 hm] | rw [MS_30 hm] | rw [MS_31 hm] | rw [MS_37 hm] | rw [MS_38 hm] | rw [MS_39 hm] | rw [MS_40 hm] | rw [w32_m (by omega) (by omega)] | rw [w32_al] | rw [w32_ar] | rw [w32_sl] | rw [w32_sr] | rw [w32_ml] | rw [w32_mr] | rw [w32_a3] | rw [w32_b3] | rw [w32_c3] | rw [w32_d3] | rw [w32_id (by omega) (by omega)] | rw [aC143 hs _ (by omega) (by omega)] | rw [qC143 hs _ _ (by omega) (by omega)] | rw [if_pos (show j < c 143 (24 + m).toNat by omega)] | rw [m176 _ hs hm k0 k1 (by omega) (by omega)])
    simp only [anyU, edg]
    by_cases h1 : c 143 (30 + 30 * m + 2 * j).toNat = x
    · by_cases h2 : c 143 (30 + 30 * m + 2 * j + 1).toNat = y
      · rw [if_pos h1]
        repeat (first | rw [bnd_s] | rw [tI_m] | rw [tL_m] | rw [tA_m] | rw [tV_m] | rw [fC142 hs _ (by decide)] | rw [pC142 hs _ _ (by decide)] | rw [MS_0 hm] | rw [MS_1 hm] | rw [MS_2 hm] | rw [MS_3 hm] | rw [MS_4 hm] | rw [MS_5 hm] | rw [MS_7 hm] | rw [MS_8 hm] | rw [MS_21 hm] | rw [MS_29 hm] | rw [MS_30 hm] | rw [MS_31 hm] | rw [MS_37 hm] | rw [MS_38 hm] | rw [MS_39 hm] | rw [MS_40 hm] | rw [m177 _ hs hm k0 k1 (by omega) (by omega)])
        rw [if_pos h2, c178_34, decide_eq_true (Or.inl ⟨h1, h2⟩)]; rfl
      · rw [if_pos h1]
        repeat (first | rw [bnd_s] | rw [tI_m] | rw [tL_m] | rw [tA_m] | rw [tV_m] | rw [fC142 hs _ (by decide)] | rw [pC142 hs _ _ (by decide)] | rw [MS_0 hm] | rw [MS_1 hm] | rw [MS_2 hm] | rw [MS_3 hm] | rw [MS_4 hm] | rw [MS_5 hm] | rw [MS_7 hm] | rw [MS_8 hm] | rw [MS_21 hm] | rw [MS_29 hm] | rw [MS_30 hm] | rw [MS_31 hm] | rw [MS_37 hm] | rw [MS_38 hm] | rw [MS_39 hm] | rw [MS_40 hm] | rw [m177 _ hs hm k0 k1 (by omega) (by omega)])
        rw [if_neg h2, c178_22]
        repeat (first | rw [bnd_s] | rw [tI_m] | rw [tL_m] | rw [tA_m] | rw [tV_m] | rw [fC142 hs _ (by decide)] | rw [pC142 hs _ _ (by decide)] | rw [MS_0 hm] | rw [MS_1 hm] | rw [MS_2 hm] | rw [MS_3 hm] | rw [MS_4 hm] | rw [MS_5 hm] | rw [MS_7 hm] | rw [MS_8 hm] | rw [MS_21 hm] | rw [MS_29 hm] | rw [MS_30 hm] | rw [MS_31 hm] | rw [MS_37 hm] | rw [MS_38 hm] | rw [MS_39 hm] | rw [MS_40 hm] | rw [m176 _ hs hm k0 k1 (by omega) (by omega)])
        by_cases h3 : c 143 (30 + 30 * m + 2 * j).toNat = y
        · rw [if_pos h3]
          repeat (first | rw [bnd_s] | rw [tI_m] | rw [tL_m] | rw [tA_m] | rw [tV_m] | rw [fC142 hs _ (by decide)] | rw [pC142 hs _ _ (by decide)] | rw [MS_0 hm] | rw [MS_1 hm] | rw [MS_2 hm] | rw [MS_3 hm] | rw [MS_4 hm] | rw [MS_5 hm] | rw [MS_7 hm] | rw [MS_8 hm] | rw [MS_21 hm] | rw [MS_29 hm] | rw [MS_30 hm] | rw [MS_31 hm] | rw [MS_37 hm] | rw [MS_38 hm] | rw [MS_39 hm] | rw [MS_40 hm] | rw [m177 _ hs hm k0 k1 (by omega) (by omega)])
          by_cases h4 : c 143 (30 + 30 * m + 2 * j + 1).toNat = x
          · rw [if_pos h4, c178_34, decide_eq_true (Or.inr ⟨h3, h4⟩)]; rfl
          · rw [if_neg h4, e1, decide_eq_false (by omega)]; rfl
        · rw [if_neg h3, e1, decide_eq_false (by omega)]; rfl
    · rw [if_neg h1, c178_22]
      repeat (first | rw [bnd_s] | rw [tI_m] | rw [tL_m] | rw [tA_m] | rw [tV_m] | rw [fC142 hs _ (by decide)] | rw [pC142 hs _ _ (by decide)] | rw [MS_0 hm] | rw [MS_1 hm] | rw [MS_2 hm] | rw [MS_3 hm] | rw [MS_4 hm] | rw [MS_5 hm] | rw [MS_7 hm] | rw [MS_8 hm] | rw [MS_21 hm] | rw [MS_29 hm] | rw [MS_30 hm] | rw [MS_31 hm] | rw [MS_37 hm] | rw [MS_38 hm] | rw [MS_39 hm] | rw [MS_40 hm] | rw [m176 _ hs hm k0 k1 (by omega) (by omega)])
      by_cases h3 : c 143 (30 + 30 * m + 2 * j).toNat = y
      · rw [if_pos h3]
        repeat (first | rw [bnd_s] | rw [tI_m] | rw [tL_m] | rw [tA_m] | rw [tV_m] | rw [fC142 hs _ (by decide)] | rw [pC142 hs _ _ (by decide)] | rw [MS_0 hm] | rw [MS_1 hm] | rw [MS_2 hm] | rw [MS_3 hm] | rw [MS_4 hm] | rw [MS_5 hm] | rw [MS_7 hm] | rw [MS_8 hm] | rw [MS_21 hm] | rw [MS_29 hm] | rw [MS_30 hm] | rw [MS_31 hm] | rw [MS_37 hm] | rw [MS_38 hm] | rw [MS_39 hm] | rw [MS_40 hm] | rw [m177 _ hs hm k0 k1 (by omega) (by omega)])
        by_cases h4 : c 143 (30 + 30 * m + 2 * j + 1).toNat = x
        · rw [if_pos h4, c178_34, decide_eq_true (Or.inr ⟨h3, h4⟩)]; rfl
        · rw [if_neg h4, e1, decide_eq_false (by omega)]; rfl
      · rw [if_neg h3, e1, decide_eq_false (by omega)]; rfl
def isB (c : Nat → Nat → Int) (m x y : Int) : Bool := anyU (edg c m x y) (c 143 (24 + m).toNat).toNat 0
theorem m178 (d : Nat) {s : List (Nat × Nat)} {c : Nat → Nat → Int} (hs : SpL s) (hm : MS c) {m : Int} (hk : MapOK c m) (x y : Int) : Cd (d + 2) 178 [vA 142, vI m, vI x, vI y] (s, c) = some ([vI (b2i (isB c m x y))], (s, c)) := by
  have k4 := hk.2.2.1.1
  rw [c178 (hg := gC142 hs c)]
  exact m178_2 d hs hm hk x y _ 0 (by omega) (by omega)
theorem p3_at {c : Nat → Nat → Int} (hm : MS c) {i : Int} (h0 : 0 ≤ i) (h1 : i < 8) : c 147 i.toNat = r3 i := by
  rw [hm.2.2 _ (by omega)]; rfl
theorem m180 (d : Nat) {s : List (Nat × Nat)} {c : Nat → Nat → Int} (hs : SpL s) (hm : MS c) {m : Int} (hk : MapOK c m) : Cd (d + 1) 180 [vA 142, vI m] (s, c) = some ([vI (r3 (c 143 (20 + m).toNat))], (s, c)) := by
  obtain ⟨⟨k0, k1⟩, ⟨k2, k3⟩, ⟨k4, k5⟩, k6⟩ := hk
  rw [c180 (hg := gC142 hs c)]
  repeat (first | rw [bnd_s] | rw [tI_m] | rw [tL_m] | rw [tA_m] | rw [tV_m] | rw [fC142 hs _ (by decide)] | rw [pC142 hs _ _ (by decide)] | rw [MS_0 hm] | rw [MS_1 hm] | rw [MS_2 hm] | rw [MS_3 hm] | rw [MS_4 hm] | rw [MS_5 hm] | rw [MS_7 hm] | rw [MS_8 hm] | rw [MS_21 hm] | rw [MS_29 hm] | rw [MS_30 hm] | rw [MS_31 hm] | rw [MS_37 hm] | rw [MS_38 hm] | rw [MS_39 hm] | rw [MS_40 hm] | rw [w32_m (by omega) (by omega)] | rw [w32_al] | rw [w32_ar] | rw [w32_sl] | rw [w32_sr] | rw [w32_ml] | rw [w32_mr] | rw [w32_a3] | rw [w32_b3] | rw [w32_c3] | rw [w32_d3] | rw [w32_id (by omega) (by omega)] | rw [aC143 hs _ (by omega) (by omega)] | rw [qC143 hs _ _ (by omega) (by omega)] | rw [aC147 hs _ (by omega) (by omega)] | rw [qC147 hs _ _ (by omega) (by omega)])
  rw [p3_at hm (by omega) (by omega)]
theorem m181 (d : Nat) {s : List (Nat × Nat)} {c : Nat → Nat → Int} (hs : SpL s) (hm : MS c) {m : Int} (hk : MapOK c m) {r l : Int} (h0 : 0 ≤ r) (h1 : r < 2187) (h2 : 0 ≤ l) (h3 : l < c 143 (20 + m).toNat) : Cd (d + 1) 181 [vA 142, vI m, vI r, vI l] (s, c) = some ([vI (pnt (c 143 (20 + m).toNat) r l)], (s, c)) := by
  obtain ⟨⟨k0, k1⟩, ⟨k2, k3⟩, ⟨k4, k5⟩, k6⟩ := hk
  have hb := r3_b (n := c 143 (20 + m).toNat - 1 - l) (by omega)
  have hd := Int.ediv_nonneg h0 (show 0 ≤ r3 (c 143 (20 + m).toNat - 1 - l) by omega)
  have hd2 := Int.ediv_le_self (r3 (c 143 (20 + m).toNat - 1 - l)) h0
  rw [c181 (hg := gC142 hs c)]
  repeat (first | rw [bnd_s] | rw [tI_m] | rw [tL_m] | rw [tA_m] | rw [tV_m] | rw [fC142 hs _ (by decide)] | rw [pC142 hs _ _ (by decide)] | rw [MS_0 hm] | rw [MS_1 hm] | rw [MS_2 hm] | rw [MS_3 hm] | rw [MS_4 hm] | rw [MS_5 hm] | rw [MS_7 hm] | rw [MS_8 hm] | rw [MS_21 hm] | rw [MS_29 hm] | rw [MS_30 hm] | rw [MS_31 hm] | rw [MS_37 hm] | rw [MS_38 hm] | rw [MS_39 hm] | rw [MS_40 hm] | rw [w32_m (by omega) (by omega)] | rw [w32_al] | rw [w32_ar] | rw [w32_sl] | rw [w32_sr] | rw [w32_ml] | rw [w32_mr] | rw [w32_a3] | rw [w32_b3] | rw [w32_c3] | rw [w32_d3] | rw [w32_id (by omega) (by omega)] | rw [aC143 hs _ (by omega) (by omega)] | rw [qC143 hs _ _ (by omega) (by omega)] | rw [aC147 hs _ (by omega) (by omega)] | rw [qC147 hs _ _ (by omega) (by omega)])
  rw [p3_at hm (by omega) (by omega), if_neg (by omega), idiv_n h0 (by omega) (by omega) (by omega), irem_n hd (by omega) (by decide) (by decide)]
  rfl
/-- whether a row is an answer -/
def isA (c : Nat → Nat → Int) (m r : Int) : Bool := allU (fun b => decide (pnt (c 143 (20 + m).toNat) r (c 143 (30 + 30 * m + 2 * b).toNat) ≠ pnt (c 143 (20 + m).toNat) r (c 143 (30 + 30 * m + 2 * b + 1).toNat))) (c 143 (24 + m).toNat).toNat 0
theorem m182_2 (d : Nat) {s : List (Nat × Nat)} {c : Nat → Nat → Int} (hs : SpL s) (hm : MS c) {m : Int} (hk : MapOK c m) {r : Int} (h0 : 0 ≤ r) (h1 : r < 2187) : ∀ (n : Nat) (j : Int), 0 ≤ j → j + n = c 143 (24 + m).toNat → Rr (Cd (d + 1)) 182 2 [some (vA 142), some (vI m), some (vI r), some (vI j)] [] (s, c) = some ([vI (b2i (allU (fun b => decide (pnt (c 143 (20 + m).toNat) r (c 143 (30 + 30 * m + 2 * b).toNat) ≠ pnt (c 143 (20 + m).toNat) r (c 143 (30 + 30 * m + 2 * b + 1).toNat))) n j))], (s, c))
  | 0, j, hj, h => by
    obtain ⟨⟨k0, k1⟩, ⟨k2, k3⟩, ⟨k4, k5⟩, k6⟩ := hk
    rw [c182_2]
    repeat (first | rw [bnd_s] | rw [tI_m] | rw [tL_m] | rw [tA_m] | rw [tV_m] | rw [fC142 hs _ (by decide)] | rw [pC142 hs _ _ (by decide)] | rw [MS_0 hm] | rw [MS_1 hm] | rw [MS_2 hm] | rw [MS_3 hm] | rw [MS_4 hm] | rw [MS_5 hm] | rw [MS_7 hm] | rw [MS_8 hm] | rw [MS_21 hm] | rw [MS_29 hm] | rw [MS_30 hm] | rw [MS_31 hm] | rw [MS_37 hm] | rw [MS_38 hm] | rw [MS_39 hm] | rw [MS_40 hm] | rw [w32_m (by omega) (by omega)] | rw [w32_al] | rw [w32_ar] | rw [w32_sl] | rw [w32_sr] | rw [w32_ml] | rw [w32_mr] | rw [w32_a3] | rw [w32_b3] | rw [w32_c3] | rw [w32_d3] | rw [w32_id (by omega) (by omega)] | rw [aC143 hs _ (by omega) (by omega)] | rw [qC143 hs _ _ (by omega) (by omega)] | rw [if_pos (by omega)] | rw [if_neg (by omega)])
    all_goals rfl
  | n + 1, j, hj, h => by
    have ih := m182_2 d hs hm hk h0 h1 n (j + 1) (by omega) (by omega)
    have hk' := hk
    obtain ⟨⟨k0, k1⟩, ⟨k2, k3⟩, ⟨k4, k5⟩, k6⟩ := hk
    have hb := k6 j hj (by omega)
    rw [c182_2]
    repeat (first | rw [bnd_s] | rw [tI_m] | rw [tL_m] | rw [tA_m] | rw [tV_m] | rw [fC142 hs _ (by decide)] | rw [pC142 hs _ _ (by decide)] | rw [MS_0 hm] | rw [MS_1 hm] | rw [MS_2 hm] | rw [MS_3 hm] | rw [MS_4 hm] | rw [MS_5 hm] | rw [MS_7 hm] | rw [MS_8 hm] | rw [MS_21 hm] | rw [MS_29 hm] | rw [MS_30 hm] | rw [MS_31 hm] | rw [MS_37 hm] | rw [MS_38 hm] | rw [MS_39 hm] | rw [MS_40 hm] | rw [w32_m (by omega) (by omega)] | rw [w32_al] | rw [w32_ar] | rw [w32_sl] | rw [w32_sr] | rw [w32_ml] | rw [w32_mr] | rw [w32_a3] | rw [w32_b3] | rw [w32_c3] | rw [w32_d3] | rw [w32_id (by omega) (by omega)] | rw [aC143 hs _ (by omega) (by omega)] | rw [qC143 hs _ _ (by omega) (by omega)] | rw [if_pos (show j < c 143 (24 + m).toNat by omega)] | rw [m176 _ hs hm k0 k1 (by omega) (by omega)] | rw [m177 _ hs hm k0 k1 (by omega) (by omega)] | rw [m181 _ hs hm hk' h0 h1 (by omega) (by omega)])
    simp only [allU]
    by_cases g : pnt (c 143 (20 + m).toNat) r (c 143 (30 + 30 * m + 2 * j).toNat) = pnt (c 143 (20 + m).toNat) r (c 143 (30 + 30 * m + 2 * j + 1).toNat)
    · rw [if_pos g, decide_eq_false (by simpa using g)]; rfl
    · rw [if_neg g, decide_eq_true g]
      try rw [w32_id (by omega) (by omega)]
      rw [ih]; rfl
theorem m182 (d : Nat) {s : List (Nat × Nat)} {c : Nat → Nat → Int} (hs : SpL s) (hm : MS c) {m : Int} (hk : MapOK c m) {r : Int} (h0 : 0 ≤ r) (h1 : r < 2187) : Cd (d + 2) 182 [vA 142, vI m, vI r] (s, c) = some ([vI (b2i (isA c m r))], (s, c)) := by
  have k4 := hk.2.2.1.1
  rw [c182 (hg := gC142 hs c)]
  exact m182_2 d hs hm hk h0 h1 _ 0 (by omega) (by omega)
