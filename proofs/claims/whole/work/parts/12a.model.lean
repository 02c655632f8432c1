/-! the reference: its cells, and its maps -/
theorem w32_al (a b : Int) : w32 (w32 a + b) = w32 (a + b) := by
  unfold w32; rw [← Int32.toInt_inj.mpr rfl]; first | (rw [Int32.ofInt_add, Int32.ofInt_toInt, ← Int32.ofInt_add]) | simp [Int32.ofInt_add]
theorem w32_ar (a b : Int) : w32 (a + w32 b) = w32 (a + b) := by rw [Int.add_comm, w32_al, Int.add_comm]
theorem w32_sl (a b : Int) : w32 (w32 a - b) = w32 (a - b) := by rw [Int.sub_eq_add_neg, w32_al, ← Int.sub_eq_add_neg]
theorem w32_ng (a : Int) : w32 (-(w32 a)) = w32 (-a) := by
  unfold w32; first | (rw [Int32.ofInt_neg, Int32.ofInt_toInt, ← Int32.ofInt_neg]) | simp [Int32.ofInt_neg]
theorem w32_sr (a b : Int) : w32 (a - w32 b) = w32 (a - b) := by
  rw [Int.sub_eq_add_neg, Int.sub_eq_add_neg, ← w32_ar a (-(w32 b)), w32_ng, w32_ar]
theorem w32_ml (a b : Int) : w32 (w32 a * b) = w32 (a * b) := by
  unfold w32; first | (rw [Int32.ofInt_mul, Int32.ofInt_toInt, ← Int32.ofInt_mul]) | simp [Int32.ofInt_mul]
theorem w32_mr (a b : Int) : w32 (a * w32 b) = w32 (a * b) := by rw [Int.mul_comm, w32_ml, Int.mul_comm]
theorem u2_e (c : Nat → Nat → Int) (i k : Nat) (v : Int) : u2 c i k v i k = v := by unfold u2; rw [if_pos ⟨rfl, rfl⟩]
theorem u2_n {c : Nat → Nat → Int} {i k : Nat} {v : Int} {i' k' : Nat} (h : ¬ (i' = i ∧ k' = k)) : u2 c i k v i' k' = c i' k' := by unfold u2; rw [if_neg h]
theorem b2i_o (b : Bool) : b2i b = 0 ∨ b2i b = 1 := by cases b <;> simp [b2i]
theorem if_b0 {α : Type} (b : Bool) (x y : α) : (if b2i b = 0 then x else y) = bif b then y else x := by cases b <;> rfl
theorem if_b1 {α : Type} (b : Bool) (x y : α) : (if b2i b = 1 then x else y) = bif b then x else y := by cases b <;> rfl
def mRefs : List (Nat × Int) := [(0, 143), (1, 144), (2, 145), (3, 146), (4, 147), (5, 148), (7, 149), (8, 150), (21, 151), (29, 152), (30, 153), (31, 154), (37, 155), (38, 156), (39, 157), (40, 158)]
/-- how the reference's cells hang together -/
def MS (c : Nat → Nat → Int) : Prop := (∀ q ∈ mRefs, c 142 q.1 = q.2) ∧ (∀ k, k < 18 → c 146 k = swL.getD k 0) ∧ ∀ k, k < 8 → c 147 k = (3 : Int) ^ k
theorem MS_of {c c' : Nat → Nat → Int} (h : MS c) (h1 : ∀ q ∈ mRefs, c' 142 q.1 = c 142 q.1) (h2 : c' 146 = c 146) (h3 : c' 147 = c 147) : MS c' := ⟨fun q hq => (h1 q hq).trans (h.1 q hq), by rw [h2]; exact h.2.1, by rw [h3]; exact h.2.2⟩
theorem MS_u2 {c : Nat → Nat → Int} (h : MS c) {o k : Nat} (v : Int) (ho : o ≠ 146) (ho2 : o ≠ 147) (hk : o = 142 → ∀ q ∈ mRefs, q.1 ≠ k) : MS (u2 c o k v) := by
  refine MS_of h (fun q hq => ?_) (funext fun k' => ?_) (funext fun k' => ?_)
  · rw [u2_n]
    intro g
    exact hk g.1.symm q hq g.2
  · rw [u2_n (by omega)]
  · rw [u2_n (by omega)]
theorem MS_a {c : Nat → Nat → Int} (h : MS c) {o k : Nat} (v : Int) (ho : o ≠ 142 ∧ o ≠ 146 ∧ o ≠ 147) : MS (u2 c o k v) := MS_u2 h v ho.2.1 ho.2.2 (fun g => absurd g ho.1)
theorem MS_f {c : Nat → Nat → Int} (h : MS c) {k : Nat} (v : Int) (hk : (mRefs.all fun q => q.1 != k) = true) : MS (u2 c 142 k v) := MS_u2 h v (by decide) (by decide) (fun _ q hq => by have := List.all_eq_true.mp hk q hq; simpa using this)
theorem MS_0 {c : Nat → Nat → Int} (h : MS c) : c 142 0 = 143 := h.1 (0, 143) (by decide)
theorem MS_1 {c : Nat → Nat → Int} (h : MS c) : c 142 1 = 144 := h.1 (1, 144) (by decide)
theorem MS_2 {c : Nat → Nat → Int} (h : MS c) : c 142 2 = 145 := h.1 (2, 145) (by decide)
theorem MS_3 {c : Nat → Nat → Int} (h : MS c) : c 142 3 = 146 := h.1 (3, 146) (by decide)
theorem MS_4 {c : Nat → Nat → Int} (h : MS c) : c 142 4 = 147 := h.1 (4, 147) (by decide)
theorem MS_5 {c : Nat → Nat → Int} (h : MS c) : c 142 5 = 148 := h.1 (5, 148) (by decide)
theorem MS_7 {c : Nat → Nat → Int} (h : MS c) : c 142 7 = 149 := h.1 (7, 149) (by decide)
theorem MS_8 {c : Nat → Nat → Int} (h : MS c) : c 142 8 = 150 := h.1 (8, 150) (by decide)
theorem MS_21 {c : Nat → Nat → Int} (h : MS c) : c 142 21 = 151 := h.1 (21, 151) (by decide)
theorem MS_29 {c : Nat → Nat → Int} (h : MS c) : c 142 29 = 152 := h.1 (29, 152) (by decide)
theorem MS_30 {c : Nat → Nat → Int} (h : MS c) : c 142 30 = 153 := h.1 (30, 153) (by decide)
theorem MS_31 {c : Nat → Nat → Int} (h : MS c) : c 142 31 = 154 := h.1 (31, 154) (by decide)
theorem MS_37 {c : Nat → Nat → Int} (h : MS c) : c 142 37 = 155 := h.1 (37, 155) (by decide)
theorem MS_38 {c : Nat → Nat → Int} (h : MS c) : c 142 38 = 156 := h.1 (38, 156) (by decide)
theorem MS_39 {c : Nat → Nat → Int} (h : MS c) : c 142 39 = 157 := h.1 (39, 157) (by decide)
theorem MS_40 {c : Nat → Nat → Int} (h : MS c) : c 142 40 = 158 := h.1 (40, 158) (by decide)
def inR (x a b : Int) : Bool := decide (a ≤ x ∧ x ≤ b)
theorem m172 (d : Nat) (x a b : Int) (hp : HP) : Cd (d + 1) 172 [vI x, vI a, vI b] hp = some ([vI (b2i (inR x a b))], hp) := by
  rw [c172]; unfold inR
  by_cases h1 : x < a
  · rw [if_pos h1, c172_8, c172_9, if_pos (by decide), decide_eq_false (by omega)]; rfl
  · rw [if_neg h1]
    by_cases h2 : b < x
    · rw [if_pos h2, c172_8, c172_9, if_pos (by decide), decide_eq_false (by omega)]; rfl
    · rw [if_neg h2, c172_9, if_pos (by decide), decide_eq_true (by omega)]; rfl
/-- the number of MAPS is one that there may be -/
def nM (c : Nat → Nat → Int) : Prop := 0 ≤ c 143 0 ∧ c 143 0 ≤ 4
theorem m173 (d : Nat) {s : List (Nat × Nat)} {c : Nat → Nat → Int} (hs : SpL s) (hm : MS c) (hn : nM c) (m : Int) : Cd (d + 2) 173 [vA 142, vI m] (s, c) = some ([vI (b2i (inR m 0 (c 143 0 - 1)))], (s, c)) := by
  have h1 := hn.1; have h2 := hn.2
  rw [c173 (hg := gC142 hs c)]
  repeat (first | rw [bnd_s] | rw [tI_m] | rw [tL_m] | rw [tA_m] | rw [tV_m] | rw [fC142 hs _ (by decide)] | rw [pC142 hs _ _ (by decide)] | rw [MS_0 hm] | rw [MS_1 hm] | rw [MS_2 hm] | rw [MS_3 hm] | rw [MS_4 hm] | rw [MS_5 hm] | rw [MS_7 hm] | rw [MS_8 hm] | rw [MS_21 hm] | rw [MS_29 hm] | rw [MS_30 hm] | rw [MS_31 hm] | rw [MS_37 hm] | rw [MS_38 hm] | rw [MS_39 hm] | rw [MS_40 hm] | rw [aC143 hs _ (by omega) (by omega)] | rw [qC143 hs _ _ (by omega) (by omega)] | rw [show (0 : Int).toNat = 0 from rfl] | rw [w32_al] | rw [w32_ar] | rw [w32_sl] | rw [w32_sr] | rw [w32_ml] | rw [w32_mr] | rw [w32_id (by omega) (by omega)] | rw [m172] | rw [if_pos (b2i_o _)] | rw [if_b0] | rw [if_b1])
theorem m174 (d : Nat) {s : List (Nat × Nat)} {c : Nat → Nat → Int} (hs : SpL s) (hm : MS c) {w p : Int} (h0 : 0 ≤ w) (h1 : w < 6) (h2 : 0 ≤ p) (h3 : p < 3) : Cd (d + 1) 174 [vA 142, vI w, vI p] (s, c) = some ([vI (swp w p)], (s, c)) := by
  rw [c174 (hg := gC142 hs c)]
  repeat (first | rw [bnd_s] | rw [tI_m] | rw [tL_m] | rw [tA_m] | rw [tV_m] | rw [fC142 hs _ (by decide)] | rw [pC142 hs _ _ (by decide)] | rw [MS_0 hm] | rw [MS_1 hm] | rw [MS_2 hm] | rw [MS_3 hm] | rw [MS_4 hm] | rw [MS_5 hm] | rw [MS_7 hm] | rw [MS_8 hm] | rw [MS_21 hm] | rw [MS_29 hm] | rw [MS_30 hm] | rw [MS_31 hm] | rw [MS_37 hm] | rw [MS_38 hm] | rw [MS_39 hm] | rw [MS_40 hm] | rw [w32_al] | rw [w32_ar] | rw [w32_sl] | rw [w32_sr] | rw [w32_ml] | rw [w32_mr] | rw [w32_id (by omega) (by omega)] | rw [aC146 hs _ (by omega) (by omega)] | rw [qC146 hs _ _ (by omega) (by omega)])
  rw [hm.2.1 _ (by omega)]
  rfl
