/-! the JDK's and the class's small functions -/
def swL : List Int := [0, 1, 2, 1, 0, 2, 1, 2, 0, 2, 0, 1, 0, 2, 1, 2, 1, 0]
def swp (s p : Int) : Int := swL.getD (3 * s + p).toNat 0
def tkL : List Int := [17, 6, 40, 10, 33, 20, 36, 24, 3]
def chL : List Int := [1, 2, 3, 6]
/-- what lies outside is as the start has it -/
def Xt (c : Nat → Nat → Int) : Prop := ∃ xs : Nat → Int32, ∀ i k, i < 29 → c i k = xCt xs i k
theorem Xt_u2 {c : Nat → Nat → Int} (h : Xt c) {o k : Nat} (v : Int) (ho : 29 ≤ o) : Xt (u2 c o k v) := by
  obtain ⟨xs, h⟩ := h
  exact ⟨xs, fun i j hi => by unfold u2; rw [if_neg (by omega)]; exact h i j hi⟩
theorem x2 {c : Nat → Nat → Int} (h : Xt c) (k : Nat) : c 2 k = swL.getD k 0 := by
  obtain ⟨xs, h⟩ := h
  rw [h 2 k (by decide)]; exact xCt_A xs (a := 0) (by decide) k
theorem x3 {c : Nat → Nat → Int} (h : Xt c) (k : Nat) : c 3 k = tkL.getD k 0 := by
  obtain ⟨xs, h⟩ := h
  rw [h 3 k (by decide)]; exact xCt_A xs (a := 1) (by decide) k
theorem x4 {c : Nat → Nat → Int} (h : Xt c) (k : Nat) : c 4 k = chL.getD k 0 := by
  obtain ⟨xs, h⟩ := h
  rw [h 4 k (by decide)]; exact xCt_A xs (a := 2) (by decide) k
theorem swp_b : ∀ s, s < 6 → ∀ p, p < 3 → 0 ≤ swp (s : Nat) (p : Nat) ∧ swp (s : Nat) (p : Nat) < 3 := by decide +kernel
theorem swp_bd {s p : Int} (h0 : 0 ≤ s) (h1 : s < 6) (h2 : 0 ≤ p) (h3 : p < 3) : 0 ≤ swp s p ∧ swp s p < 3 := by
  have := swp_b s.toNat (by omega) p.toNat (by omega)
  rwa [Int.toNat_of_nonneg h0, Int.toNat_of_nonneg h2] at this
theorem j288 (d : Nat) (a b : Int) (hp : HP) : Cd (d + 1) 288 [vI a, vI b] hp = some ([vI (if b < a then b else a)], hp) := by
  rw [c288]; split <;> rw [c288_6]
theorem j286 (d : Nat) (a b : Int) (hp : HP) : Cd (d + 1) 286 [vI a, vI b] hp = some ([vI (if a < b then b else a)], hp) := by
  rw [c286]; split <;> rw [c286_6]
theorem lcmp_lt (a b : Int) : lcmp a b < 0 ↔ a < b := by unfold lcmp; split <;> (try split) <;> omega
theorem lcmp_gt (a b : Int) : 0 < lcmp a b ↔ b < a := by unfold lcmp; split <;> (try split) <;> omega
theorem lcmp_eq (a b : Int) : lcmp a b = 0 ↔ a = b := by unfold lcmp; split <;> (try split) <;> omega
theorem j287 (d : Nat) (a b : Int) (hp : HP) : Cd (d + 1) 287 [vL a, vL b] hp = some ([vL (if a < b then b else a)], hp) := by
  rw [c287]; simp only [lcmp_lt]; split <;> rw [c287_7]
theorem j289 (d : Nat) (a b : Int) (hp : HP) : Cd (d + 1) 289 [vL a, vL b] hp = some ([vL (if b < a then b else a)], hp) := by
  rw [c289]; simp only [lcmp_gt]; split <;> rw [c289_7]
theorem j285 (d : Nat) {a : Int} (hp : HP) (h0 : -2147483648 < a) (h1 : a < 2147483648) : Cd (d + 1) 285 [vI a] hp = some ([vI (if a < 0 then -a else a)], hp) := by
  rw [c285]; split
  · rw [c285_6, w32_id (by omega) (by omega)]
  · rw [c285_6]
/-- how many bits are set -/
def pop (x : Int) : Int := b2i (bt x 0) + b2i (bt x 1) + b2i (bt x 2) + b2i (bt x 3) + b2i (bt x 4) + b2i (bt x 5) + b2i (bt x 6) + b2i (bt x 7) + b2i (bt x 8)
def f284 (v0 : Int) : Int := iand (w32 (w32 (iand (w32 (w32 (iand (w32 (v0 - (iand (iushr v0 1) 1431655765))) 858993459 + (iand (iushr (w32 (v0 - (iand (iushr v0 1) 1431655765))) 2) 858993459)) + (iushr (w32 (iand (w32 (v0 - (iand (iushr v0 1) 1431655765))) 858993459 + (iand (iushr (w32 (v0 - (iand (iushr v0 1) 1431655765))) 2) 858993459))) 4))) 252645135 + (iushr (iand (w32 (w32 (iand (w32 (v0 - (iand (iushr v0 1) 1431655765))) 858993459 + (iand (iushr (w32 (v0 - (iand (iushr v0 1) 1431655765))) 2) 858993459)) + (iushr (w32 (iand (w32 (v0 - (iand (iushr v0 1) 1431655765))) 858993459 + (iand (iushr (w32 (v0 - (iand (iushr v0 1) 1431655765))) 2) 858993459))) 4))) 252645135) 8)) + (iushr (w32 (iand (w32 (w32 (iand (w32 (v0 - (iand (iushr v0 1) 1431655765))) 858993459 + (iand (iushr (w32 (v0 - (iand (iushr v0 1) 1431655765))) 2) 858993459)) + (iushr (w32 (iand (w32 (v0 - (iand (iushr v0 1) 1431655765))) 858993459 + (iand (iushr (w32 (v0 - (iand (iushr v0 1) 1431655765))) 2) 858993459))) 4))) 252645135 + (iushr (iand (w32 (w32 (iand (w32 (v0 - (iand (iushr v0 1) 1431655765))) 858993459 + (iand (iushr (w32 (v0 - (iand (iushr v0 1) 1431655765))) 2) 858993459)) + (iushr (w32 (iand (w32 (v0 - (iand (iushr v0 1) 1431655765))) 858993459 + (iand (iushr (w32 (v0 - (iand (iushr v0 1) 1431655765))) 2) 858993459))) 4))) 252645135) 8))) 16))) 63
theorem f284_ok : (List.range 512).all (fun n => f284 (n : Nat) == pop (n : Nat)) = true := by decide +kernel
theorem j284 (d : Nat) {x : Int} (hp : HP) (h0 : 0 ≤ x) (h1 : x < 512) : Cd (d + 1) 284 [vI x] hp = some ([vI (pop x)], hp) := by
  have h := List.all_eq_true.mp f284_ok x.toNat (List.mem_range.mpr (by omega))
  rw [Int.toNat_of_nonneg h0] at h
  have h : f284 x = pop x := by simpa using h
  rw [c284, ← h]
  rfl
def g48 (v0 v1 : Int) : Int := w32 (v1 + (iushr v0 1))
def g40 (v0 v1 : Int) : Int := if 4 < v0 then g48 (iushr v0 2) (w32 (v1 + 2)) else g48 v0 v1
def g32 (v0 v1 : Int) : Int := if 16 < v0 then g40 (iushr v0 4) (w32 (v1 + 4)) else g40 v0 v1
def g24 (v0 v1 : Int) : Int := if 256 < v0 then g32 (iushr v0 8) (w32 (v1 + 8)) else g32 v0 v1
def f283 (v0 : Int) : Int := if 0 < iand (ixor v0 (-1)) (w32 (v0 - 1)) then (if 65536 < iand (ixor v0 (-1)) (w32 (v0 - 1)) then g24 (iushr (iand (ixor v0 (-1)) (w32 (v0 - 1))) 16) (w32 (1 + 16)) else g24 (iand (ixor v0 (-1)) (w32 (v0 - 1))) 1) else iand (iand (ixor v0 (-1)) (w32 (v0 - 1))) 32
theorem j283_48 (d : Nat) (a b : Int) (hp : HP) : Rr (Cd d) 283 48 [some (vI a), some (vI b)] [] hp = some ([vI (g48 a b)], hp) := c283_48 d a b hp
theorem j283_40 (d : Nat) (a b : Int) (hp : HP) : Rr (Cd d) 283 40 [some (vI a), some (vI b)] [] hp = some ([vI (g40 a b)], hp) := by
  rw [c283_40]; unfold g40; split <;> rw [j283_48]
theorem j283_32 (d : Nat) (a b : Int) (hp : HP) : Rr (Cd d) 283 32 [some (vI a), some (vI b)] [] hp = some ([vI (g32 a b)], hp) := by
  rw [c283_32]; unfold g32; split <;> rw [j283_40]
theorem j283_24 (d : Nat) (a b : Int) (hp : HP) : Rr (Cd d) 283 24 [some (vI a), some (vI b)] [] hp = some ([vI (g24 a b)], hp) := by
  rw [c283_24]; unfold g24; split <;> rw [j283_32]
/-- the lowest bit that is set, below 6 -/
def ntz (x : Int) : Int := if bt x 0 then 0 else if bt x 1 then 1 else if bt x 2 then 2 else if bt x 3 then 3 else if bt x 4 then 4 else 5
theorem f283_ok : (List.range 64).all (fun n => n == 0 || f283 (n : Nat) == ntz (n : Nat)) = true := by decide +kernel
theorem j283 (d : Nat) {x : Int} (hp : HP) (h0 : 0 < x) (h1 : x < 64) : Cd (d + 1) 283 [vI x] hp = some ([vI (ntz x)], hp) := by
  have h := List.all_eq_true.mp f283_ok x.toNat (List.mem_range.mpr (by omega))
  rw [Int.toNat_of_nonneg (by omega)] at h
  have h : f283 x = ntz x := by
    simp only [Bool.or_eq_true, beq_iff_eq] at h
    rcases h with h | h
    · omega
    · exact h
  rw [c283, ← h]
  unfold f283
  split
  · split <;> rw [j283_24]
  · rfl
theorem k159 (d : Nat) (b : Bool) (hp : HP) : Cd (d + 1) 159 [vI (b2i b)] hp = some ([vI (b2i b)], hp) := by
  rw [c159]
  cases b
  · rw [if_pos (show b2i false = 0 from rfl), c159_5]; rfl
  · rw [if_neg (by decide), c159_5]; rfl
theorem k160 (d : Nat) (x : Int) (hp : HP) : Cd (d + 1) 160 [vI x] hp = some ([vI (b2i (decide (0 ≤ x ∧ x < 3)))], hp) := by
  rw [c160]
  by_cases h1 : x < 0
  · rw [if_pos h1, c160_7, c160_8, if_pos (by decide), decide_eq_false (by omega)]; rfl
  · rw [if_neg h1]
    by_cases h2 : x < 3
    · rw [if_pos h2, c160_8, if_pos (by decide), decide_eq_true (by omega)]; rfl
    · rw [if_neg h2, c160_7, c160_8, if_pos (by decide), decide_eq_false (by omega)]; rfl
theorem k161 (d : Nat) (x : Int) (hp : HP) : Cd (d + 1) 161 [vI x] hp = some ([vI (b2i (decide (0 ≤ x ∧ x < 6)))], hp) := by
  rw [c161]
  by_cases h1 : x < 0
  · rw [if_pos h1, c161_7, c161_8, if_pos (by decide), decide_eq_false (by omega)]; rfl
  · rw [if_neg h1]
    by_cases h2 : x < 6
    · rw [if_pos h2, c161_8, if_pos (by decide), decide_eq_true (by omega)]; rfl
    · rw [if_neg h2, c161_7, c161_8, if_pos (by decide), decide_eq_false (by omega)]; rfl
/-- the swaps that may be drawn, a bit each -/
def drw (x : Int) : Int := if x = 2 then 3 else if x = 3 then 13 else if x = 6 then 63 else 1
theorem k162 (d : Nat) (x : Int) (hp : HP) : Cd (d + 1) 162 [vI x] hp = some ([vI (drw x)], hp) := by
  rw [c162]; unfold drw
  by_cases h2 : x = 2
  · rw [if_pos h2, if_pos h2]
  · rw [if_neg h2, if_neg h2]
    by_cases h3 : x = 3
    · rw [if_pos h3, if_pos h3]
    · rw [if_neg h3, if_neg h3]
      by_cases h6 : x = 6
      · subst h6; rfl
      · rw [if_neg h6, if_neg h6]
        split
        · rfl
        · split <;> rfl
def r3 (n : Int) : Int := 3 ^ n.toNat
theorem r3_s {n : Int} (h : 0 ≤ n) : r3 (n + 1) = 3 * r3 n := by
  unfold r3
  rw [show (n + 1).toNat = n.toNat + 1 by omega, Int.pow_succ]; omega
theorem r3_b {n : Int} (h : n ≤ 7) : 1 ≤ r3 n ∧ r3 n ≤ 2187 := by
  unfold r3
  have : ∀ k, k < 8 → 1 ≤ (3 : Int) ^ k ∧ (3 : Int) ^ k ≤ 2187 := by decide
  exact this n.toNat (by omega)
theorem k163_4 (d : Nat) (n : Int) (hn : n ≤ 7) (hp : HP) : ∀ (k : Nat) (j : Int), 0 ≤ j → j + k = n → Rr (Cd d) 163 4 [some (vI n), some (vI (r3 j)), some (vI j)] [] hp = some ([vI (r3 n)], hp)
  | 0, j, h0, h => by
    have : j = n := by omega
    subst this
    rw [c163_4, if_neg (by omega)]
  | k + 1, j, h0, h => by
    have hb := r3_b (n := j) (by omega)
    rw [c163_4, if_pos (by omega), w32_id (by omega) (by omega), w32_id (by omega) (by omega), show r3 j * 3 = r3 (j + 1) by rw [r3_s h0]; omega]
    exact k163_4 d n hn hp k (j + 1) (by omega) (by omega)
theorem k163 (d : Nat) {n : Int} (hp : HP) (h0 : 0 ≤ n) (hn : n ≤ 7) : Cd (d + 1) 163 [vI n] hp = some ([vI (r3 n)], hp) := by
  rw [c163]
  exact k163_4 d n hn hp n.toNat 0 (by omega) (by omega)
/-- a ROW's paints, two bits each -/
def pkL : Nat → Int → Int → Int
  | 0, a, _ => a
  | l + 1, a, r => pkL l (ior a (ishl (irem r 3) (w32 (2 * (l : Int))))) (idiv r 3)
def pkR (r n : Int) : Int := pkL n.toNat 0 r
theorem k164_8 (d : Nat) (hp : HP) (o0 o1 : Option AV) : ∀ (l : Nat) (a r : Int), l ≤ 7 → Rr (Cd d) 164 8 [o0, o1, some (vI a), some (vI r), some (vI ((l : Int) - 1))] [] hp = some ([vI (pkL l a r)], hp)
  | 0, a, r, _ => by rw [c164_8, if_pos (by omega)]; rfl
  | l + 1, a, r, h => by
    rw [c164_8, if_neg (by omega), w32_id (z := ((l + 1 : Nat) : Int) - 1 + -1) (by omega) (by omega), show ((l + 1 : Nat) : Int) - 1 + -1 = (l : Int) - 1 by omega, k164_8 d hp o0 o1 l _ _ (by omega), show ((l + 1 : Nat) : Int) - 1 = (l : Int) by omega]
    rfl
theorem k164 (d : Nat) (r : Int) {n : Int} (hp : HP) (h0 : 0 ≤ n) (hn : n ≤ 7) : Cd (d + 1) 164 [vI r, vI n] hp = some ([vI (pkR r n)], hp) := by
  rw [c164, w32_id (by omega) (by omega)]
  have := k164_8 d hp (some (vI r)) (some (vI n)) n.toNat 0 r (by omega)
  rw [Int.toNat_of_nonneg h0] at this
  exact this
/-- a land's paint in a pack -/
def pin (p l : Int) : Int := iand (ishr p (w32 (2 * l))) 3
theorem k165 (d : Nat) (p l : Int) (hp : HP) : Cd (d + 1) 165 [vI p, vI l] hp = some ([vI (pin p l)], hp) := c165 d p l hp
/-- a ROW's paint of a LAND -/
def pnt (n r l : Int) : Int := r / r3 (n - 1 - l) % 3
def pkOk (n : Nat) : Bool := (List.range (3 ^ n)).all fun r => (let p := pkL n 0 r; decide (0 ≤ p) && decide (p < 16384) && (List.range n).all fun l => pin p l == pnt n r l)
theorem pkOk_2 : pkOk 2 = true := by decide +kernel
theorem pkOk_3 : pkOk 3 = true := by decide +kernel
theorem pkOk_4 : pkOk 4 = true := by decide +kernel
theorem pkOk_5 : pkOk 5 = true := by decide +kernel
theorem pkOk_6 : pkOk 6 = true := by decide +kernel
theorem pkOk_7 : pkOk 7 = true := by decide +kernel
theorem pk_ok {n r : Int} (h0 : 2 ≤ n) (h1 : n ≤ 7) (hr : 0 ≤ r) (hr2 : r < r3 n) : (0 ≤ pkR r n ∧ pkR r n < 16384) ∧ ∀ l, 0 ≤ l → l < n → pin (pkR r n) l = pnt n r l := by
  have hk : pkOk n.toNat = true := by
    have : n = 2 ∨ n = 3 ∨ n = 4 ∨ n = 5 ∨ n = 6 ∨ n = 7 := by omega
    rcases this with rfl | rfl | rfl | rfl | rfl | rfl
    · exact pkOk_2
    · exact pkOk_3
    · exact pkOk_4
    · exact pkOk_5
    · exact pkOk_6
    · exact pkOk_7
  have h := List.all_eq_true.mp hk r.toNat (List.mem_range.mpr (by
    unfold r3 at hr2
    have e : ((3 ^ n.toNat : Nat) : Int) = (3 : Int) ^ n.toNat := by rw [Int.natCast_pow]; rfl
    omega))
  simp only [Bool.and_eq_true, decide_eq_true_eq, Int.toNat_of_nonneg hr] at h
  refine ⟨h.1, fun l hl hl2 => ?_⟩
  have h2 := List.all_eq_true.mp h.2 l.toNat (List.mem_range.mpr (by omega))
  simp only [beq_iff_eq, Int.toNat_of_nonneg hl, Int.toNat_of_nonneg (show 0 ≤ n by omega)] at h2
  exact h2
theorem pnt_b (n r l : Int) : 0 ≤ pnt n r l ∧ pnt n r l < 3 := by unfold pnt; omega
/-- what two LANDS are opened as -/
def opn (p x y : Int) : Int := pin p x * 3 + pin p y
theorem pin_b {p l : Int} (h0 : 0 ≤ p) (h1 : p < 2147483648) (hl : 0 ≤ l) (hl2 : l < 16) : 0 ≤ pin p l ∧ pin p l < 4 := by
  unfold pin
  rw [w32_id (by omega) (by omega), ishr_n h0 h1 (by omega) (by omega), iand_n (Int.natCast_nonneg _) (by
    have := Nat.shiftRight_le p.toNat (2 * l).toNat
    omega) (by decide) (by decide)]
  have : ((((p.toNat >>> (2 * l).toNat : Nat) : Int).toNat) &&& (3 : Int).toNat) ≤ 3 := Nat.and_le_right
  omega
theorem k166 (d : Nat) {p x y : Int} (hp : HP) (h0 : 0 ≤ p) (h1 : p < 2147483648) (hx : 0 ≤ x) (hx2 : x < 16) (hy : 0 ≤ y) (hy2 : y < 16) : Cd (d + 2) 166 [vI p, vI x, vI y] hp = some ([vI (opn p x y)], hp) := by
  have b1 := pin_b h0 h1 hx hx2
  have b2 := pin_b h0 h1 hy hy2
  rw [c166]
  simp only [k165, bnd_s, tI_m]
  rw [w32_id (z := pin p x * 3) (by omega) (by omega), w32_id (by omega) (by omega)]
  rfl
/-- a ROW swapped, from its lowest place -/
def swF : Nat → Int → Int → Int
  | 0, _, _ => 0
  | n + 1, s, r => 3 * swF n s (r / 3) + swp s (r % 3)
theorem swF_b {s : Int} (h0 : 0 ≤ s) (h1 : s < 6) : ∀ (n : Nat) (r : Int), 0 ≤ swF n s r ∧ swF n s r < (3 : Int) ^ n
  | 0, r => by simp [swF]
  | n + 1, r => by
    have := swF_b h0 h1 n (r / 3)
    have b := swp_bd h0 h1 (p := r % 3) (by omega) (by omega)
    simp only [swF, Int.pow_succ]
    omega
theorem k167_8 (d : Nat) {s : List (Nat × Nat)} {c : Nat → Nat → Int} (hs : SpL s) (hx : Xt c) (o0 : Option AV) {n sw : Int} (hn : n ≤ 7) (h0 : 0 ≤ sw) (h1 : sw < 6) : ∀ (k : Nat) (j a pl r : Int), 0 ≤ j → j + k = n → pl = r3 j → 0 ≤ r → r < 2187 → 0 ≤ a → a < pl → Rr (Cd d) 167 8 [o0, some (vI n), some (vI sw), some (vI a), some (vI pl), some (vI r), some (vI j)] [] (s, c) = some ([vI (a + pl * swF k sw r)], (s, c))
  | 0, j, a, pl, r, hj, h, hpl, hr, hr2, ha, ha2 => by
    rw [c167_8, if_neg (by omega)]; simp [swF]
  | k + 1, j, a, pl, r, hj, h, hpl, hr, hr2, ha, ha2 => by
    have hb := r3_b (n := j) (by omega)
    have b := swp_bd h0 h1 (p := r % 3) (by omega) (by omega)
    have e1 : r3 (j + 1) = 3 * r3 j := r3_s hj
    have hb1 := r3_b (n := j + 1) (by omega)
    have hm : 0 ≤ swp sw (r % 3) * pl ∧ swp sw (r % 3) * pl ≤ 2 * pl := ⟨Int.mul_nonneg b.1 (by omega), Int.mul_le_mul_of_nonneg_right (by omega) (by omega)⟩
    rw [c167_8, if_pos (by omega), irem_n hr (by omega) (by decide) (by decide), idiv_n hr (by omega) (by decide) (by decide), w32_id (z := sw * 3) (by omega) (by omega), w32_id (z := sw * 3 + r % 3) (by omega) (by omega), aC2 hs c (by omega) (by omega)]
    simp only [bnd_s]
    rw [x2 hx, show swL.getD (sw * 3 + r % 3).toNat 0 = swp sw (r % 3) by unfold swp; rw [Int.mul_comm sw 3], w32_id (z := swp sw (r % 3) * pl) (by omega) (by omega), w32_id (z := a + swp sw (r % 3) * pl) (by omega) (by omega), w32_id (z := pl * 3) (by omega) (by omega), w32_id (z := j + 1) (by omega) (by omega)]
    rw [k167_8 d hs hx o0 hn h0 h1 k (j + 1) _ (pl * 3) (r / 3) (by omega) (by omega) (by omega) (by omega) (by omega) (by omega) (by omega)]
    have e : a + swp sw (r % 3) * pl + pl * 3 * swF k sw (r / 3) = a + pl * swF (k + 1) sw r := by
      simp only [swF]
      rw [Int.mul_add, Int.mul_comm (swp sw (r % 3)) pl, Int.mul_assoc pl 3]
      omega
    rw [e]
theorem k167 (d : Nat) {s : List (Nat × Nat)} {c : Nat → Nat → Int} (hs : SpL s) (hx : Xt c) {r n sw : Int} (hn0 : 0 ≤ n) (hn : n ≤ 7) (h0 : 0 ≤ sw) (h1 : sw < 6) (hr : 0 ≤ r) (hr2 : r < 2187) : Cd (d + 1) 167 [vI r, vI n, vI sw] (s, c) = some ([vI (swF n.toNat sw r)], (s, c)) := by
  rw [c167, k167_8 d hs hx _ hn h0 h1 n.toNat 0 0 1 r (by omega) (by omega) rfl hr hr2 (by omega) (by omega)]
  rw [Int.one_mul, Int.zero_add]
/-- an opening swapped -/
def swO (o s : Int) : Int := swp s (o / 3) * 3 + swp s (o % 3)
theorem k168 (d : Nat) {s : List (Nat × Nat)} {c : Nat → Nat → Int} (hs : SpL s) (hx : Xt c) {o sw : Int} (h0 : 0 ≤ sw) (h1 : sw < 6) (hr : 0 ≤ o) (hr2 : o < 9) : Cd (d + 1) 168 [vI o, vI sw] (s, c) = some ([vI (swO o sw)], (s, c)) := by
  have b1 := swp_bd h0 h1 (p := o / 3) (by omega) (by omega)
  have b2 := swp_bd h0 h1 (p := o % 3) (by omega) (by omega)
  rw [c168, irem_n hr (by omega) (by decide) (by decide), idiv_n hr (by omega) (by decide) (by decide), w32_id (z := sw * 3) (by omega) (by omega), w32_id (z := sw * 3 + o / 3) (by omega) (by omega), w32_id (z := sw * 3 + o % 3) (by omega) (by omega), aC2 hs c (by omega) (by omega), aC2 hs c (by omega) (by omega)]
  simp only [bnd_s]
  rw [x2 hx, x2 hx, show swL.getD (sw * 3 + o / 3).toNat 0 = swp sw (o / 3) by unfold swp; rw [Int.mul_comm sw 3], show swL.getD (sw * 3 + o % 3).toNat 0 = swp sw (o % 3) by unfold swp; rw [Int.mul_comm sw 3], w32_id (z := swp sw (o / 3) * 3) (by omega) (by omega), w32_id (by omega) (by omega)]
  rfl
theorem k169 (d : Nat) {x k : Int} (hp : HP) (hx : 0 ≤ x) (hx2 : x < 2147483648) (hk : 0 ≤ k) (hk2 : k < 32) : Cd (d + 1) 169 [vI x, vI k] hp = some ([vI (b2i (bt x k))], hp) := by
  rw [c169, bt_sh hx hx2 hk hk2]
  cases bt x k
  · rw [if_neg (by decide), c169_10, if_pos (by decide)]; rfl
  · rw [if_pos (show b2i true = 1 from rfl), c169_10, if_pos (by decide)]; rfl
