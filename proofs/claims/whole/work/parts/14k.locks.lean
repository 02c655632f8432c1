/-! locks: what they show -/
def fnd (f : Int → Option Int) : Nat → Int → Option Int
  | 0, _ => none
  | n + 1, j => match f j with
    | some x => some x
    | none => fnd f n (j + 1)
theorem fnd_s (f : Int → Option Int) (n : Nat) (j r : Int) : (fnd f (n + 1) j).getD r = (f j).getD ((fnd f n (j + 1)).getD r) := by
  simp only [fnd]
  cases f j <;> rfl
theorem fnd_cg {f g : Int → Option Int} : ∀ (n : Nat) (j : Int), (∀ i, j ≤ i → i < j + n → f i = g i) → fnd f n j = fnd g n j
  | 0, _, _ => rfl
  | n + 1, j, h => by
    simp only [fnd]
    rw [h j (by omega) (by omega), fnd_cg n (j + 1) (fun i h1 h2 => h i (by omega) (by omega))]
theorem fnd_add (f : Int → Option Int) (b : Nat) : ∀ (a : Nat) (j : Int), fnd f (a + b) j = (fnd f a j).or (fnd f b (j + a))
  | 0, j => by
    rw [Nat.zero_add, show j + ((0 : Nat) : Int) = j by omega]; rfl
  | a + 1, j => by
    rw [show a + 1 + b = (a + b) + 1 by omega]
    simp only [fnd]
    cases f j with
    | some x => rfl
    | none => simp only []; rw [fnd_add f b a (j + 1), show j + 1 + (a : Int) = j + ((a + 1 : Nat) : Int) by omega]
theorem fnd_sh (f : Int → Option Int) (e : Int) : ∀ (n : Nat) (j : Int), fnd f n (j + e) = fnd (fun i => f (i + e)) n j
  | 0, _ => rfl
  | n + 1, j => by
    simp only [fnd]
    rw [← fnd_sh f e n (j + 1), show j + e + 1 = j + 1 + e by omega]
theorem fnd_no : ∀ (n : Nat) (j : Int), fnd (fun _ => none) n j = none
  | 0, _ => rfl
  | n + 1, j => by simp only [fnd]; exact fnd_no n (j + 1)
theorem fnd_map (g : Int → Int) (f : Int → Option Int) : ∀ (n : Nat) (j : Int), (fnd f n j).map g = fnd (fun i => (f i).map g) n j
  | 0, _ => rfl
  | n + 1, j => by
    simp only [fnd]
    rw [← fnd_map g f n (j + 1)]
    cases f j <;> rfl
theorem fnd_mul (f : Int → Option Int) (R : Nat) : ∀ (k : Nat) (p : Int), fnd f (k * R) (0 + p * R) = fnd (fun q => fnd (fun e => f (e + q * R)) R 0) k p
  | 0, p => by rw [Nat.zero_mul]; rfl
  | k + 1, p => by
    rw [show (k + 1) * R = R + k * R by rw [Nat.add_mul, Nat.one_mul, Nat.add_comm], fnd_add, show 0 + p * (R : Int) + (R : Int) = 0 + (p + 1) * (R : Int) by rw [Int.add_mul, Int.one_mul, Int.add_assoc], fnd_mul f R k (p + 1), fnd_sh]
    simp only [fnd]
    cases fnd (fun i => f (i + p * (R : Int))) R 0 <;> rfl
def shv (A B C N p d : Int) : Int := irem (w32 (w32 (w32 (A * p) + (w32 (B * d))) + (w32 ((w32 (C * p)) * d)))) N
theorem mulB {a b x y : Int} (ha : 0 ≤ a) (hb : 0 ≤ b) (hx : a ≤ x) (hy : b ≤ y) : 0 ≤ a * b ∧ a * b ≤ x * y := ⟨Int.mul_nonneg ha hb, Int.mul_le_mul hx hy hb (by omega)⟩
def LK (c : Nat → Nat → Int) (A B C N R : Int) : Prop := (c 37 0 = A ∧ c 37 1 = B ∧ c 37 2 = C ∧ c 37 3 = N ∧ c 37 4 = R) ∧ (c 143 10 = A ∧ c 143 11 = B ∧ c 143 12 = C ∧ c 143 13 = N ∧ c 143 14 = R) ∧ (0 ≤ A ∧ A ≤ 63) ∧ (0 ≤ B ∧ B ≤ 63) ∧ (0 ≤ C ∧ C ≤ 63) ∧ (1 ≤ N ∧ N ≤ 64) ∧ (1 ≤ R ∧ R ≤ 32)
theorem LK_of {s : List (Nat × Nat)} {c : Nat → Nat → Int} {n : Nat} (h : Inv s c n) : LK c (c 143 10) (c 143 11) (c 143 12) (c 143 13) (c 143 14) := by
  obtain ⟨a10, a11, a12, a13⟩ := h.2.2.2.2.1.2.2.2.2.2
  exact ⟨a12.1, ⟨rfl, rfl, rfl, rfl, rfl⟩, a12.2⟩
theorem shv_b {A B C N p d : Int} (hA : 0 ≤ A ∧ A ≤ 63) (hB : 0 ≤ B ∧ B ≤ 63) (hC : 0 ≤ C ∧ C ≤ 63) (hN : 1 ≤ N ∧ N ≤ 64) (hp : 0 ≤ p) (hp2 : p < 3) (hd : 0 ≤ d) (hd2 : d < 32) : 0 ≤ shv A B C N p d ∧ shv A B C N p d < N := by
  have b1 := mulB (y := 2) hA.1 hp hA.2 (by omega)
  have b2 := mulB (y := 31) hB.1 hd hB.2 (by omega)
  have b3 := mulB (y := 2) hC.1 hp hC.2 (by omega)
  have b4 := mulB (y := 31) b3.1 hd b3.2 (by omega)
  unfold shv
  rw [w32_id (z := A * p) (by omega) (by omega), w32_id (z := B * d) (by omega) (by omega), w32_id (z := C * p) (by omega) (by omega), w32_id (z := C * p * d) (by omega) (by omega), w32_id (z := A * p + B * d) (by omega) (by omega), w32_id (by omega) (by omega), irem_n (by omega) (by omega) (by omega) (by omega)]
  exact ⟨Int.emod_nonneg _ (by omega), Int.emod_lt_of_pos _ (by omega)⟩
section
variable {s : List (Nat × Nat)} {c : Nat → Nat → Int} {A B C N R : Int}
theorem k38 (d : Nat) (hs : SpL s) (hl : LK c A B C N R) (p x : Int) : Cd (d + 1) 38 [vA 37, vI p, vI x] (s, c) = some ([vI (shv A B C N p x)], (s, c)) := by
  obtain ⟨⟨l1, l2, l3, l4, l5⟩, -, hA, hB, hC, hN, hR⟩ := hl
  rw [c38 (hg := gC37 hs c)]
  repeat (first | rw [bnd_s] | rw [tI_m] | rw [tL_m] | rw [tA_m] | rw [tV_m] | rw [fC37 hs _ (by decide)] | rw [pC37 hs _ _ (by decide)] | rw [l1] | rw [l2] | rw [l3] | rw [l4] | rw [if_neg (show ¬ N < 1 by omega)] | rw [if_neg (show ¬ N = 0 by omega)] | rw [c38_25])
  rfl
theorem m260 (d : Nat) (hs : SpL s) (hm : MS c) (hl : LK c A B C N R) (p x : Int) : Cd (d + 1) 260 [vA 142, vI p, vI x] (s, c) = some ([vI (shv A B C N p x)], (s, c)) := by
  obtain ⟨-, ⟨l1, l2, l3, l4, l5⟩, hA, hB, hC, hN, hR⟩ := hl
  rw [c260 (hg := gC142 hs c)]
  repeat (first | rw [bnd_s] | rw [tI_m] | rw [tL_m] | rw [tA_m] | rw [tV_m] | rw [fC142 hs _ (by decide)] | rw [pC142 hs _ _ (by decide)] | rw [MS_0 hm] | rw [MS_1 hm] | rw [MS_2 hm] | rw [MS_3 hm] | rw [MS_4 hm] | rw [MS_5 hm] | rw [MS_7 hm] | rw [MS_8 hm] | rw [MS_21 hm] | rw [MS_29 hm] | rw [MS_30 hm] | rw [MS_31 hm] | rw [MS_37 hm] | rw [MS_38 hm] | rw [MS_39 hm] | rw [MS_40 hm] | rw [aC143 hs _ (by omega) (by omega)] | rw [show (10 : Int).toNat = 10 from rfl] | rw [show (11 : Int).toNat = 11 from rfl] | rw [show (12 : Int).toNat = 12 from rfl] | rw [show (13 : Int).toNat = 13 from rfl] | rw [show (14 : Int).toNat = 14 from rfl] | rw [l1] | rw [l2] | rw [l3] | rw [l4] | rw [if_neg (show ¬ N = 0 by omega)])
  rfl
theorem k41_2 (d : Nat) (hs : SpL s) (hl : LK c A B C N R) (p x : Int) : ∀ (n : Nat) (j : Int), 0 ≤ j → j + n = R → Rr (Cd (d + 1)) 41 2 [some (vA 37), some (vI p), some (vI x), some (vI j)] [] (s, c) = some ([vI ((fnd (fun e => if shv A B C N p e = x then some e else none) n j).getD (-1))], (s, c))
  | 0, j, h0, h => by
    have l5 := hl.1.2.2.2.2
    rw [c41_2]
    repeat (first | rw [bnd_s] | rw [tI_m] | rw [tL_m] | rw [tA_m] | rw [tV_m] | rw [fC37 hs _ (by decide)] | rw [pC37 hs _ _ (by decide)] | rw [l5] | rw [if_pos (by omega)] | rw [if_neg (by omega)])
    rfl
  | n + 1, j, h0, h => by
    have l5 := hl.1.2.2.2.2
    have hR := hl.2.2.2.2.2.2
    have ih := k41_2 d hs hl p x n (j + 1) (by omega) (by omega)
    rw [c41_2, fnd_s]
    repeat (first | rw [bnd_s] | rw [tI_m] | rw [tL_m] | rw [tA_m] | rw [tV_m] | rw [fC37 hs _ (by decide)] | rw [pC37 hs _ _ (by decide)] | rw [l5] | rw [k38 _ hs hl] | rw [if_pos (show j < R by omega)])
    by_cases g : shv A B C N p j = x
    · rw [if_pos g, if_pos g]; rfl
    · rw [if_neg g, if_neg g, w32_id (by omega) (by omega), ih]; rfl
theorem k41 (d : Nat) (hs : SpL s) (hl : LK c A B C N R) (p x : Int) : Cd (d + 2) 41 [vA 37, vI p, vI x] (s, c) = some ([vI ((fnd (fun e => if shv A B C N p e = x then some e else none) R.toNat 0).getD (-1))], (s, c)) := by
  have hR := hl.2.2.2.2.2.2
  rw [c41 (hg := gC37 hs c), k41_2 d hs hl p x R.toNat 0 (by omega) (by omega)]
def chs (w p d o e : Int) : Int := if w = 0 then p else if w = 1 then d else if w = 2 then o else e
def F18 (A B C N R w p d o : Int) : Option Int := if o = p then none else (fnd (fun e => if shv A B C N o e = shv A B C N p d then some e else none) R.toNat 0).map (chs w p d o)
def F7 (A B C N R w p d : Int) : Option Int := fnd (F18 A B C N R w p d) 3 0
def F2 (A B C N R w p : Int) : Option Int := fnd (F7 A B C N R w p) R.toNat 0
theorem k40 (d : Nat) (hp : HP) (w p x o e : Int) : Cd (d + 1) 40 [vI w, vI p, vI x, vI o, vI e] hp = some ([vI (chs w p x o e)], hp) := by
  rw [c40]; unfold chs
  by_cases h1 : w = 0
  · rw [if_pos h1, if_pos h1]
  · rw [if_neg h1, if_neg h1]
    by_cases h2 : w = 1
    · rw [if_pos h2, if_pos h2]
    · rw [if_neg h2, if_neg h2]
      by_cases h3 : w = 2
      · rw [if_pos h3, if_pos h3]
      · rw [if_neg h3, if_neg h3]
theorem fnd_ge {f : Int → Option Int} : ∀ (n : Nat) (j x : Int), (∀ i, j ≤ i → ∀ x, f i = some x → x = i) → 0 ≤ j → fnd f n j = some x → 0 ≤ x
  | 0, _, _, _, _, h => by simp [fnd] at h
  | n + 1, j, x, hf, h0, h => by
    simp only [fnd] at h
    cases g : f j with
    | some y => rw [g] at h; have := hf j (by omega) y g; simp only [Option.some.injEq] at h; omega
    | none => rw [g] at h; exact fnd_ge n (j + 1) x (fun i hi => hf i (by omega)) (by omega) h
theorem k39_18 (d : Nat) (hs : SpL s) (hl : LK c A B C N R) (w p x r : Int) (hx : 0 ≤ x) (hx2 : x < 32) (K : ∀ o4 o5 o6, Rr (Cd (d + 2)) 39 7 [some (vA 37), some (vI w), some (vI p), some (vI (x + 1)), o4, o5, o6] [] (s, c) = some ([vI r], (s, c))) : ∀ (n : Nat) (o : Int), 0 ≤ o → o + n = 3 → ∀ o6, Rr (Cd (d + 2)) 39 18 [some (vA 37), some (vI w), some (vI p), some (vI x), some (vI (shv A B C N p x)), some (vI o), o6] [] (s, c) = some ([vI ((fnd (F18 A B C N R w p x) n o).getD r)], (s, c))
  | 0, o, h0, h, o6 => by
    rw [c39_18, if_neg (by omega), w32_id (by omega) (by omega), K]; rfl
  | n + 1, o, h0, h, o6 => by
    have ih := k39_18 d hs hl w p x r hx hx2 K n (o + 1) (by omega) (by omega)
    rw [c39_18, if_pos (by omega), k41 d hs hl, fnd_s, F18]
    repeat (first | rw [bnd_s] | rw [tI_m] | rw [tL_m] | rw [tA_m] | rw [tV_m])
    by_cases g : o = p
    · rw [if_pos g, if_pos g, c39_39, w32_id (by omega) (by omega), ih]; rfl
    · rw [if_neg g, if_neg g]
      cases q : fnd (fun e => if shv A B C N o e = shv A B C N p x then some e else none) R.toNat 0 with
      | none =>
        rw [if_pos (show (none : Option Int).getD (-1) = -1 from rfl), c39_39, w32_id (by omega) (by omega), ih]; rfl
      | some y =>
        have := fnd_ge _ _ _ (fun i hi z hz => by by_cases u : shv A B C N o i = shv A B C N p x <;> simp [u] at hz; omega) (by omega) q
        rw [if_neg (show ¬ (some y).getD (-1) = -1 by simp only [Option.getD_some]; omega), k40]
        repeat (first | rw [bnd_s] | rw [tI_m] | rw [tL_m] | rw [tA_m] | rw [tV_m])
        rfl
theorem k39_7 (d : Nat) (hs : SpL s) (hl : LK c A B C N R) (w p r : Int) (hp : 0 ≤ p) (hp2 : p < 3) (K : ∀ o3 o4 o5 o6, Rr (Cd (d + 2)) 39 2 [some (vA 37), some (vI w), some (vI (p + 1)), o3, o4, o5, o6] [] (s, c) = some ([vI r], (s, c))) : ∀ (n : Nat) (x : Int), 0 ≤ x → x + n = R → ∀ o4 o5 o6, Rr (Cd (d + 2)) 39 7 [some (vA 37), some (vI w), some (vI p), some (vI x), o4, o5, o6] [] (s, c) = some ([vI ((fnd (F7 A B C N R w p) n x).getD r)], (s, c))
  | 0, x, h0, h, o4, o5, o6 => by
    have l5 := hl.1.2.2.2.2
    rw [c39_7]
    repeat (first | rw [bnd_s] | rw [tI_m] | rw [tL_m] | rw [tA_m] | rw [tV_m] | rw [fC37 hs _ (by decide)] | rw [pC37 hs _ _ (by decide)] | rw [l5] | rw [if_neg (show ¬ x < R by omega)] | rw [w32_id (by omega) (by omega)] | rw [K])
    rfl
  | n + 1, x, h0, h, o4, o5, o6 => by
    have l5 := hl.1.2.2.2.2
    have hR := hl.2.2.2.2.2.2
    have ih := k39_7 d hs hl w p r hp hp2 K n (x + 1) (by omega) (by omega)
    rw [c39_7, fnd_s]
    repeat (first | rw [bnd_s] | rw [tI_m] | rw [tL_m] | rw [tA_m] | rw [tV_m] | rw [fC37 hs _ (by decide)] | rw [pC37 hs _ _ (by decide)] | rw [l5] | rw [if_pos (show x < R by omega)] | rw [k38 _ hs hl] | rw [k39_18 d hs hl w p x _ h0 (by omega) ih 3 0 (by omega) (by omega)])
    rfl
theorem k39_2 (d : Nat) (hs : SpL s) (hl : LK c A B C N R) (w : Int) : ∀ (n : Nat) (p : Int), 0 ≤ p → p + n = 3 → ∀ o3 o4 o5 o6, Rr (Cd (d + 2)) 39 2 [some (vA 37), some (vI w), some (vI p), o3, o4, o5, o6] [] (s, c) = some ([vI ((fnd (F2 A B C N R w) n p).getD (-1))], (s, c))
  | 0, p, h0, h, o3, o4, o5, o6 => by rw [c39_2, if_neg (by omega)]; rfl
  | n + 1, p, h0, h, o3, o4, o5, o6 => by
    have hR := hl.2.2.2.2.2.2
    have ih := k39_2 d hs hl w n (p + 1) (by omega) (by omega)
    rw [c39_2, if_pos (by omega), fnd_s, k39_7 d hs hl w p _ h0 (by omega) ih R.toNat 0 (by omega) (by omega)]
    rfl
theorem k39 (d : Nat) (hs : SpL s) (hl : LK c A B C N R) (w : Int) : Cd (d + 3) 39 [vA 37, vI w] (s, c) = some ([vI ((fnd (F2 A B C N R w) 3 0).getD (-1))], (s, c)) := by
  rw [c39 (hg := gC37 hs c), k39_2 d hs hl w 3 0 (by omega) (by omega)]
def gv (R w i j : Int) : Int := if w = 2 then i / R else if w = 3 then i % R else if w = 4 then j / R else j % R
def G14 (A B C N R w i j : Int) : Option Int := if i / R = j / R then none else if shv A B C N (i / R) (i % R) = shv A B C N (j / R) (j % R) then some (gv R w i j) else none
theorem m263_14 (d : Nat) (hs : SpL s) (hm : MS c) (hl : LK c A B C N R) (w i r : Int) (hi : 0 ≤ i) (hi2 : i < 96) (K : ∀ o4, Rr (Cd (d + 1)) 263 7 [some (vA 142), some (vI w), some (vI R), some (vI (i + 1)), o4] [] (s, c) = some ([vI r], (s, c))) : ∀ (n : Nat) (j : Int), 0 ≤ j → j + n = 3 * R → Rr (Cd (d + 1)) 263 14 [some (vA 142), some (vI w), some (vI R), some (vI i), some (vI j)] [] (s, c) = some ([vI ((fnd (G14 A B C N R w i) n j).getD r)], (s, c))
  | 0, j, h0, h => by
    have hR := hl.2.2.2.2.2.2
    rw [c263_14, w32_id (z := 3 * R) (by omega) (by omega), if_neg (by omega), w32_id (by omega) (by omega), K]; rfl
  | n + 1, j, h0, h => by
    have hR := hl.2.2.2.2.2.2
    have ih := m263_14 d hs hm hl w i r hi hi2 K n (j + 1) (by omega) (by omega)
    rw [c263_14, w32_id (z := 3 * R) (by omega) (by omega), if_pos (show j < 3 * R by omega), fnd_s, G14]
    repeat (first | rw [bnd_s] | rw [tI_m] | rw [tL_m] | rw [tA_m] | rw [tV_m] | rw [if_neg (show ¬ R = 0 by omega)] | rw [idiv_n (x := i) (y := R) (by omega) (by omega) (by omega) (by omega)] | rw [idiv_n (x := j) (y := R) (by omega) (by omega) (by omega) (by omega)] | rw [irem_n (x := i) (y := R) (by omega) (by omega) (by omega) (by omega)] | rw [irem_n (x := j) (y := R) (by omega) (by omega) (by omega) (by omega)] | rw [m260 _ hs hm hl])
    by_cases g : i / R = j / R
    · rw [if_pos g, if_pos g, c263_69, w32_id (by omega) (by omega), ih]; rfl
    · rw [if_neg g, if_neg g]
      by_cases g2 : shv A B C N (i / R) (i % R) = shv A B C N (j / R) (j % R)
      · rw [if_pos g2, if_pos g2]; unfold gv
        by_cases h1 : w = 2
        · rw [if_pos h1, if_pos h1, c263_68]; rfl
        · rw [if_neg h1, if_neg h1]
          by_cases h2 : w = 3
          · rw [if_pos h2, if_pos h2, c263_68]; rfl
          · rw [if_neg h2, if_neg h2]
            by_cases h3 : w = 4
            · rw [if_pos h3, if_pos h3, c263_68]; rfl
            · rw [if_neg h3, if_neg h3, c263_68]; rfl
      · rw [if_neg g2, if_neg g2, c263_69, w32_id (by omega) (by omega), ih]; rfl
theorem m263_7 (d : Nat) (hs : SpL s) (hm : MS c) (hl : LK c A B C N R) (w : Int) : ∀ (n : Nat) (i : Int), 0 ≤ i → i + n = 3 * R → ∀ o4, Rr (Cd (d + 1)) 263 7 [some (vA 142), some (vI w), some (vI R), some (vI i), o4] [] (s, c) = some ([vI ((fnd (fun i => fnd (G14 A B C N R w i) (3 * R.toNat) 0) n i).getD (-1))], (s, c))
  | 0, i, h0, h, o4 => by
    have hR := hl.2.2.2.2.2.2
    rw [c263_7, w32_id (z := 3 * R) (by omega) (by omega), if_neg (by omega)]; rfl
  | n + 1, i, h0, h, o4 => by
    have hR := hl.2.2.2.2.2.2
    have ih := m263_7 d hs hm hl w n (i + 1) (by omega) (by omega)
    rw [c263_7, w32_id (z := 3 * R) (by omega) (by omega), if_pos (by omega), fnd_s, m263_14 d hs hm hl w i _ h0 (by omega) ih (3 * R.toNat) 0 (by omega) (by omega)]
theorem m263 (d : Nat) (hs : SpL s) (hm : MS c) (hl : LK c A B C N R) (w : Int) : Cd (d + 2) 263 [vA 142, vI w] (s, c) = some ([vI ((fnd (fun i => fnd (G14 A B C N R w i) (3 * R.toNat) 0) (3 * R.toNat) 0).getD (-1))], (s, c)) := by
  have hR := hl.2.2.2.2.2.2
  have l5 := hl.2.1.2.2.2.2
  have g := m263_7 d hs hm hl w (3 * R.toNat) 0 (by omega) (by omega) none
  rw [c263 (hg := gC142 hs c)]
  repeat (first | rw [bnd_s] | rw [tI_m] | rw [tL_m] | rw [tA_m] | rw [tV_m] | rw [fC142 hs _ (by decide)] | rw [pC142 hs _ _ (by decide)] | rw [MS_0 hm] | rw [MS_1 hm] | rw [MS_2 hm] | rw [MS_3 hm] | rw [MS_4 hm] | rw [MS_5 hm] | rw [MS_7 hm] | rw [MS_8 hm] | rw [MS_21 hm] | rw [MS_29 hm] | rw [MS_30 hm] | rw [MS_31 hm] | rw [MS_37 hm] | rw [MS_38 hm] | rw [MS_39 hm] | rw [MS_40 hm] | rw [aC143 hs _ (by omega) (by omega)] | rw [show (10 : Int).toNat = 10 from rfl] | rw [show (11 : Int).toNat = 11 from rfl] | rw [show (12 : Int).toNat = 12 from rfl] | rw [show (13 : Int).toNat = 13 from rfl] | rw [show (14 : Int).toNat = 14 from rfl] | rw [l5] | rw [g])
theorem dm {R e o : Int} (h0 : 0 ≤ e) (h1 : e < R) : (e + o * R) / R = o ∧ (e + o * R) % R = e := by
  refine ⟨?_, ?_⟩
  · rw [Int.add_mul_ediv_right _ _ (by omega), Int.ediv_eq_zero_of_lt h0 h1, Int.zero_add]
  · rw [Int.add_mul_emod_self_right, Int.emod_eq_of_lt h0 h1]
theorem dbl (hR : 1 ≤ R) {w : Int} (hw : 0 ≤ w) (hw2 : w < 4) : fnd (fun i => fnd (G14 A B C N R (w + 2) i) (3 * R.toNat) 0) (3 * R.toNat) 0 = fnd (F2 A B C N R w) 3 0 := by
  have e0 : (0 : Int) + 0 * (R.toNat : Int) = 0 := by omega
  have eR : (R.toNat : Int) = R := by omega
  have h := fnd_mul (fun i => fnd (G14 A B C N R (w + 2) i) (3 * R.toNat) 0) R.toNat 3 0
  rw [e0] at h
  rw [h]
  refine fnd_cg 3 0 (fun p hp hp2 => ?_)
  unfold F2
  refine fnd_cg _ 0 (fun x hx hx2 => ?_)
  unfold F7
  have h2 := fnd_mul (G14 A B C N R (w + 2) (x + p * (R.toNat : Int))) R.toNat 3 0
  rw [e0] at h2
  rw [h2]
  refine fnd_cg 3 0 (fun o ho ho2 => ?_)
  have d1 := dm (R := R) (o := p) hx (by omega)
  unfold F18
  rw [eR]
  by_cases g : o = p
  · rw [if_pos g, ← fnd_no R.toNat 0]
    refine fnd_cg _ 0 (fun e he he2 => ?_)
    have d2 := dm (R := R) (o := o) he (by omega)
    unfold G14
    rw [d1.1, d2.1, if_pos g.symm]
  · rw [if_neg g, fnd_map]
    refine fnd_cg _ 0 (fun e he he2 => ?_)
    have d2 := dm (R := R) (o := o) he (by omega)
    unfold G14 gv chs
    rw [d1.1, d2.1, d1.2, d2.2, if_neg (fun q => g q.symm)]
    by_cases u : shv A B C N p x = shv A B C N o e
    · rw [if_pos u, if_pos u.symm]
      have : w = 0 ∨ w = 1 ∨ w = 2 ∨ w = 3 := by omega
      rcases this with rfl | rfl | rfl | rfl <;> rfl
    · rw [if_neg u, if_neg (fun q => u q.symm)]; rfl
/-! smearing -/
def Dsh (A B C N R p x : Int) : Int := sumU (fun e => b2i (decide (shv A B C N p e = x))) R.toNat 0
def Smr (A B C N R p q : Int) : Int := sumU (fun x => if Dsh A B C N R q x < Dsh A B C N R p x then Dsh A B C N R p x - Dsh A B C N R q x else 0) N.toNat 0
theorem Dsh_b (hR : 1 ≤ R ∧ R ≤ 32) (p x : Int) : 0 ≤ Dsh A B C N R p x ∧ Dsh A B C N R p x ≤ 32 := by
  have := sumU_b (fun e => b2i (decide (shv A B C N p e = x))) (B := 1) R.toNat 0 (fun _ _ _ => b2i_b _)
  unfold Dsh
  omega
theorem k43_4 (d : Nat) (hs : SpL s) (hl : LK c A B C N R) (p x : Int) : ∀ (n : Nat) (j a : Int), 0 ≤ j → j + n = R → 0 ≤ a → a ≤ j → Rr (Cd (d + 1)) 43 4 [some (vA 37), some (vI p), some (vI x), some (vI a), some (vI j)] [] (s, c) = some ([vI (a + sumU (fun e => b2i (decide (shv A B C N p e = x))) n j)], (s, c))
  | 0, j, a, h0, h, ha, ha2 => by
    have l5 := hl.1.2.2.2.2
    rw [c43_4]
    repeat (first | rw [bnd_s] | rw [tI_m] | rw [tL_m] | rw [tA_m] | rw [tV_m] | rw [fC37 hs _ (by decide)] | rw [pC37 hs _ _ (by decide)] | rw [l5] | rw [if_neg (show ¬ j < R by omega)])
    simp only [sumU, Int.add_zero]
  | n + 1, j, a, h0, h, ha, ha2 => by
    have l5 := hl.1.2.2.2.2
    have hR := hl.2.2.2.2.2.2
    have ih0 := k43_4 d hs hl p x n (j + 1) a (by omega) (by omega) (by omega) (by omega)
    have ih1 := k43_4 d hs hl p x n (j + 1) (a + 1) (by omega) (by omega) (by omega) (by omega)
    rw [c43_4]
    repeat (first | rw [bnd_s] | rw [tI_m] | rw [tL_m] | rw [tA_m] | rw [tV_m] | rw [fC37 hs _ (by decide)] | rw [pC37 hs _ _ (by decide)] | rw [l5] | rw [k38 _ hs hl] | rw [if_pos (show j < R by omega)])
    simp only [sumU]
    by_cases g : shv A B C N p j = x
    · rw [if_pos g, c43_18, decide_eq_true g, b2i_t, show (1 : Int) = b2i true from rfl, k159]
      repeat (first | rw [bnd_s] | rw [tI_m] | rw [tL_m] | rw [tA_m] | rw [tV_m] | rw [b2i_t] | rw [w32_id (z := a + 1) (by omega) (by omega)] | rw [w32_id (z := j + 1) (by omega) (by omega)] | rw [ih1] | rw [Int.add_assoc])
    · rw [if_neg g, c43_18, decide_eq_false g, b2i_f, show (0 : Int) = b2i false from rfl, k159]
      repeat (first | rw [bnd_s] | rw [tI_m] | rw [tL_m] | rw [tA_m] | rw [tV_m] | rw [b2i_f] | rw [Int.add_zero] | rw [Int.zero_add] | rw [w32_id (z := a) (by omega) (by omega)] | rw [w32_id (z := j + 1) (by omega) (by omega)] | rw [ih0])
theorem k43 (d : Nat) (hs : SpL s) (hl : LK c A B C N R) (p x : Int) : Cd (d + 2) 43 [vA 37, vI p, vI x] (s, c) = some ([vI (Dsh A B C N R p x)], (s, c)) := by
  have hR := hl.2.2.2.2.2.2
  rw [c43 (hg := gC37 hs c), k43_4 d hs hl p x R.toNat 0 0 (by omega) (by omega) (by omega) (by omega), Int.zero_add]; rfl
theorem m262_4 (d : Nat) (hs : SpL s) (hm : MS c) (hl : LK c A B C N R) (p x : Int) : ∀ (n : Nat) (j a : Int), 0 ≤ j → j + n = R → 0 ≤ a → a ≤ j → Rr (Cd (d + 1)) 262 4 [some (vA 142), some (vI p), some (vI x), some (vI a), some (vI j)] [] (s, c) = some ([vI (a + sumU (fun e => b2i (decide (shv A B C N p e = x))) n j)], (s, c))
  | 0, j, a, h0, h, ha, ha2 => by
    have l5 := hl.2.1.2.2.2.2
    rw [c262_4]
    repeat (first | rw [bnd_s] | rw [tI_m] | rw [tL_m] | rw [tA_m] | rw [tV_m] | rw [fC142 hs _ (by decide)] | rw [pC142 hs _ _ (by decide)] | rw [MS_0 hm] | rw [MS_1 hm] | rw [MS_2 hm] | rw [MS_3 hm] | rw [MS_4 hm] | rw [MS_5 hm] | rw [MS_7 hm] | rw [MS_8 hm] | rw [MS_21 hm] | rw [MS_29 hm] | rw [MS_30 hm] | rw [MS_31 hm] | rw [MS_37 hm] | rw [MS_38 hm] | rw [MS_39 hm] | rw [MS_40 hm] | rw [aC143 hs _ (by omega) (by omega)] | rw [show (10 : Int).toNat = 10 from rfl] | rw [show (11 : Int).toNat = 11 from rfl] | rw [show (12 : Int).toNat = 12 from rfl] | rw [show (13 : Int).toNat = 13 from rfl] | rw [show (14 : Int).toNat = 14 from rfl] | rw [l5] | rw [if_neg (show ¬ j < R by omega)])
    simp only [sumU, Int.add_zero]
  | n + 1, j, a, h0, h, ha, ha2 => by
    have l5 := hl.2.1.2.2.2.2
    have hR := hl.2.2.2.2.2.2
    have ih0 := m262_4 d hs hm hl p x n (j + 1) a (by omega) (by omega) (by omega) (by omega)
    have ih1 := m262_4 d hs hm hl p x n (j + 1) (a + 1) (by omega) (by omega) (by omega) (by omega)
    rw [c262_4]
    repeat (first | rw [bnd_s] | rw [tI_m] | rw [tL_m] | rw [tA_m] | rw [tV_m] | rw [fC142 hs _ (by decide)] | rw [pC142 hs _ _ (by decide)] | rw [MS_0 hm] | rw [MS_1 hm] | rw [MS_2 hm] | rw [MS_3 hm] | rw [MS_4 hm] | rw [MS_5 hm] | rw [MS_7 hm] | rw [MS_8 hm] | rw [MS_21 hm] | rw [MS_29 hm] | rw [MS_30 hm] | rw [MS_31 hm] | rw [MS_37 hm] | rw [MS_38 hm] | rw [MS_39 hm] | rw [MS_40 hm] | rw [aC143 hs _ (by omega) (by omega)] | rw [show (10 : Int).toNat = 10 from rfl] | rw [show (11 : Int).toNat = 11 from rfl] | rw [show (12 : Int).toNat = 12 from rfl] | rw [show (13 : Int).toNat = 13 from rfl] | rw [show (14 : Int).toNat = 14 from rfl] | rw [l5] | rw [m260 _ hs hm hl] | rw [if_pos (show j < R by omega)])
    simp only [sumU]
    by_cases g : shv A B C N p j = x
    · rw [if_pos g, c262_20, decide_eq_true g, b2i_t, w32_id (z := a + 1) (by omega) (by omega), w32_id (z := j + 1) (by omega) (by omega), ih1, Int.add_assoc]
    · rw [if_neg g, c262_20, decide_eq_false g, b2i_f, Int.add_zero, Int.zero_add, w32_id (z := a) (by omega) (by omega), w32_id (z := j + 1) (by omega) (by omega), ih0]
theorem m262 (d : Nat) (hs : SpL s) (hm : MS c) (hl : LK c A B C N R) (p x : Int) : Cd (d + 2) 262 [vA 142, vI p, vI x] (s, c) = some ([vI (Dsh A B C N R p x)], (s, c)) := by
  have hR := hl.2.2.2.2.2.2
  rw [c262 (hg := gC142 hs c), m262_4 d hs hm hl p x R.toNat 0 0 (by omega) (by omega) (by omega) (by omega), Int.zero_add]; rfl
theorem k42_4 (d : Nat) (hs : SpL s) (hl : LK c A B C N R) (p q : Int) : ∀ (n : Nat) (j a : Int), 0 ≤ j → j + n = N → 0 ≤ a → a ≤ 32 * j → Rr (Cd (d + 2)) 42 4 [some (vA 37), some (vI p), some (vI q), some (vI a), some (vI j)] [] (s, c) = some ([vI (a + sumU (fun x => if Dsh A B C N R q x < Dsh A B C N R p x then Dsh A B C N R p x - Dsh A B C N R q x else 0) n j)], (s, c))
  | 0, j, a, h0, h, ha, ha2 => by
    have l4 := hl.1.2.2.2.1
    rw [c42_4]
    repeat (first | rw [bnd_s] | rw [tI_m] | rw [tL_m] | rw [tA_m] | rw [tV_m] | rw [fC37 hs _ (by decide)] | rw [pC37 hs _ _ (by decide)] | rw [k43 _ hs hl] | rw [j286] | rw [l4] | rw [if_neg (show ¬ j < N by omega)])
    simp only [sumU, Int.add_zero]
  | n + 1, j, a, h0, h, ha, ha2 => by
    have l4 := hl.1.2.2.2.1
    have hN := hl.2.2.2.2.2.1
    have b1 := Dsh_b (A := A) (B := B) (C := C) (N := N) hl.2.2.2.2.2.2 p j
    have b2 := Dsh_b (A := A) (B := B) (C := C) (N := N) hl.2.2.2.2.2.2 q j
    rw [c42_4]
    repeat (first | rw [bnd_s] | rw [tI_m] | rw [tL_m] | rw [tA_m] | rw [tV_m] | rw [fC37 hs _ (by decide)] | rw [pC37 hs _ _ (by decide)] | rw [k43 _ hs hl] | rw [j286] | rw [l4] | rw [if_pos (show j < N by omega)])
    simp only [sumU]
    generalize Dsh A B C N R p j = X at *
    generalize Dsh A B C N R q j = Y at *
    have ih := k42_4 d hs hl p q n (j + 1) (a + if Y < X then X - Y else 0) (by omega) (by omega) (by split <;> omega) (by split <;> omega)
    by_cases g : Y < X
    · rw [if_pos g] at ih ⊢
      rw [w32_id (z := X - Y) (by omega) (by omega), if_pos (show (0 : Int) < X - Y by omega), w32_id (z := a + (X - Y)) (by omega) (by omega), w32_id (z := j + 1) (by omega) (by omega), ih, Int.add_assoc]
    · rw [if_neg g] at ih ⊢
      rw [w32_id (z := X - Y) (by omega) (by omega), if_neg (show ¬ (0 : Int) < X - Y by omega), w32_id (z := a + 0) (by omega) (by omega), w32_id (z := j + 1) (by omega) (by omega), ih, Int.add_assoc]
theorem k42 (d : Nat) (hs : SpL s) (hl : LK c A B C N R) (p q : Int) : Cd (d + 3) 42 [vA 37, vI p, vI q] (s, c) = some ([vI (Smr A B C N R p q)], (s, c)) := by
  have hN := hl.2.2.2.2.2.1
  rw [c42 (hg := gC37 hs c), k42_4 d hs hl p q N.toNat 0 0 (by omega) (by omega) (by omega) (by omega), Int.zero_add]; rfl
theorem m264_4 (d : Nat) (hs : SpL s) (hm : MS c) (hl : LK c A B C N R) (p q : Int) : ∀ (n : Nat) (j a : Int), 0 ≤ j → j + n = N → 0 ≤ a → a ≤ 32 * j → Rr (Cd (d + 2)) 264 4 [some (vA 142), some (vI p), some (vI q), some (vI a), some (vI j)] [] (s, c) = some ([vI (a + sumU (fun x => if Dsh A B C N R q x < Dsh A B C N R p x then Dsh A B C N R p x - Dsh A B C N R q x else 0) n j)], (s, c))
  | 0, j, a, h0, h, ha, ha2 => by
    have l4 := hl.2.1.2.2.2.1
    rw [c264_4]
    repeat (first | rw [bnd_s] | rw [tI_m] | rw [tL_m] | rw [tA_m] | rw [tV_m] | rw [fC142 hs _ (by decide)] | rw [pC142 hs _ _ (by decide)] | rw [MS_0 hm] | rw [MS_1 hm] | rw [MS_2 hm] | rw [MS_3 hm] | rw [MS_4 hm] | rw [MS_5 hm] | rw [MS_7 hm] | rw [MS_8 hm] | rw [MS_21 hm] | rw [MS_29 hm] | rw [MS_30 hm] | rw [MS_31 hm] | rw [MS_37 hm] | rw [MS_38 hm] | rw [MS_39 hm] | rw [MS_40 hm] | rw [aC143 hs _ (by omega) (by omega)] | rw [show (10 : Int).toNat = 10 from rfl] | rw [show (11 : Int).toNat = 11 from rfl] | rw [show (12 : Int).toNat = 12 from rfl] | rw [show (13 : Int).toNat = 13 from rfl] | rw [show (14 : Int).toNat = 14 from rfl] | rw [m262 _ hs hm hl] | rw [l4] | rw [if_neg (show ¬ j < N by omega)])
    simp only [sumU, Int.add_zero]
  | n + 1, j, a, h0, h, ha, ha2 => by
    have l4 := hl.2.1.2.2.2.1
    have hN := hl.2.2.2.2.2.1
    have b1 := Dsh_b (A := A) (B := B) (C := C) (N := N) hl.2.2.2.2.2.2 p j
    have b2 := Dsh_b (A := A) (B := B) (C := C) (N := N) hl.2.2.2.2.2.2 q j
    rw [c264_4]
    repeat (first | rw [bnd_s] | rw [tI_m] | rw [tL_m] | rw [tA_m] | rw [tV_m] | rw [fC142 hs _ (by decide)] | rw [pC142 hs _ _ (by decide)] | rw [MS_0 hm] | rw [MS_1 hm] | rw [MS_2 hm] | rw [MS_3 hm] | rw [MS_4 hm] | rw [MS_5 hm] | rw [MS_7 hm] | rw [MS_8 hm] | rw [MS_21 hm] | rw [MS_29 hm] | rw [MS_30 hm] | rw [MS_31 hm] | rw [MS_37 hm] | rw [MS_38 hm] | rw [MS_39 hm] | rw [MS_40 hm] | rw [aC143 hs _ (by omega) (by omega)] | rw [show (10 : Int).toNat = 10 from rfl] | rw [show (11 : Int).toNat = 11 from rfl] | rw [show (12 : Int).toNat = 12 from rfl] | rw [show (13 : Int).toNat = 13 from rfl] | rw [show (14 : Int).toNat = 14 from rfl] | rw [m262 _ hs hm hl] | rw [l4] | rw [if_pos (show j < N by omega)])
    simp only [sumU]
    generalize Dsh A B C N R p j = X at *
    generalize Dsh A B C N R q j = Y at *
    have ih := m264_4 d hs hm hl p q n (j + 1) (a + if Y < X then X - Y else 0) (by omega) (by omega) (by split <;> omega) (by split <;> omega)
    by_cases g : Y < X
    · rw [if_pos g] at ih ⊢
      rw [if_pos g, c264_31, w32_id (z := X - Y) (by omega) (by omega), w32_id (z := a + (X - Y)) (by omega) (by omega), w32_id (z := j + 1) (by omega) (by omega), ih, Int.add_assoc]
    · rw [if_neg g] at ih ⊢
      rw [if_neg g, c264_31, w32_id (z := a + 0) (by omega) (by omega), w32_id (z := j + 1) (by omega) (by omega), ih, Int.add_assoc]
theorem m264 (d : Nat) (hs : SpL s) (hm : MS c) (hl : LK c A B C N R) (p q : Int) : Cd (d + 3) 264 [vA 142, vI p, vI q] (s, c) = some ([vI (Smr A B C N R p q)], (s, c)) := by
  have hN := hl.2.2.2.2.2.1
  rw [c264 (hg := gC142 hs c), m264_4 d hs hm hl p q N.toNat 0 0 (by omega) (by omega) (by omega) (by omega), Int.zero_add]; rfl
end
theorem sumU_ad (f g : Int → Int) : ∀ (n : Nat) (j : Int), sumU (fun e => f e + g e) n j = sumU f n j + sumU g n j
  | 0, _ => rfl
  | n + 1, j => by simp only [sumU]; rw [sumU_ad f g n (j + 1)]; omega
theorem sumU_0 : ∀ (n : Nat) (j : Int), sumU (fun _ => 0) n j = 0
  | 0, _ => rfl
  | n + 1, j => by simp only [sumU]; rw [sumU_0 n (j + 1)]; rfl
theorem sumU_swap (f : Int → Int → Int) (n : Nat) (j : Int) : ∀ (m : Nat) (i : Int), sumU (fun x => sumU (fun e => f x e) n j) m i = sumU (fun e => sumU (fun x => f x e) m i) n j
  | 0, i => by
    simp only [sumU]
    rw [sumU_0]
  | m + 1, i => by
    simp only [sumU]
    rw [sumU_swap f n j m (i + 1), ← sumU_ad]
theorem sumU_pt {v : Int} : ∀ (n : Nat) (j : Int), sumU (fun x => b2i (decide (v = x))) n j = if j ≤ v ∧ v < j + n then 1 else 0
  | 0, j => by rw [if_neg (by omega)]; rfl
  | n + 1, j => by
    simp only [sumU]
    rw [sumU_pt n (j + 1)]
    by_cases g : v = j
    · rw [decide_eq_true g, if_neg (by omega), if_pos (by omega)]; rfl
    · rw [decide_eq_false g]
      by_cases h : j + 1 ≤ v ∧ v < j + 1 + n
      · rw [if_pos h, if_pos (by omega)]; rfl
      · rw [if_neg h, if_neg (by omega)]; rfl
theorem sumU_one : ∀ (n : Nat) (j : Int), sumU (fun _ => 1) n j = n
  | 0, _ => rfl
  | n + 1, j => by simp only [sumU]; rw [sumU_one n (j + 1)]; omega
theorem sumU_ge {f g : Int → Int} : ∀ (n : Nat) (j : Int), (∀ i, j ≤ i → i < j + n → f i ≤ g i) → sumU f n j ≤ sumU g n j
  | 0, _, _ => by simp only [sumU]; omega
  | n + 1, j, h => by
    simp only [sumU]
    have h1 := sumU_ge n (j + 1) (fun i a b => h i (by omega) (by omega))
    have h2 := h j (by omega) (by omega)
    omega
theorem sumU_eq {f g : Int → Int} : ∀ (n : Nat) (j : Int), (∀ i, j ≤ i → i < j + n → f i ≤ g i) → sumU f n j = sumU g n j → ∀ i, j ≤ i → i < j + n → f i = g i
  | 0, _, _, _, i, a, b => by omega
  | n + 1, j, h, e, i, a, b => by
    simp only [sumU] at e
    have h1 := sumU_ge n (j + 1) (fun i a b => h i (by omega) (by omega))
    have h2 := h j (by omega) (by omega)
    by_cases q : i = j
    · subst q; omega
    · exact sumU_eq n (j + 1) (fun i a b => h i (by omega) (by omega)) (by omega) i (by omega) (by omega)
theorem sumU_z {f : Int → Int} : ∀ (n : Nat) (j : Int), (∀ i, j ≤ i → i < j + n → 0 ≤ f i) → sumU f n j = 0 → ∀ i, j ≤ i → i < j + n → f i = 0 := fun n j h e i a b => by
  have z : ∀ (n : Nat) (j : Int), sumU (fun _ => 0) n j = 0 := by
    intro n; induction n with
    | zero => intro j; rfl
    | succ n ih => intro j; simp only [sumU]; rw [ih]; rfl
  exact (sumU_eq (f := fun _ => 0) n j h (by rw [z, e]) i a b).symm
theorem Dsh_sum {A B C N R p : Int} (hA : 0 ≤ A ∧ A ≤ 63) (hB : 0 ≤ B ∧ B ≤ 63) (hC : 0 ≤ C ∧ C ≤ 63) (hN : 1 ≤ N ∧ N ≤ 64) (hR : 1 ≤ R ∧ R ≤ 32) (hp : 0 ≤ p) (hp2 : p < 3) : sumU (fun x => Dsh A B C N R p x) N.toNat 0 = R := by
  unfold Dsh
  rw [sumU_swap (fun x e => b2i (decide (shv A B C N p e = x))), sumU_cg (g := fun _ => 1) R.toNat 0 (fun e h1 h2 => ?_), sumU_one]
  · omega
  · have := shv_b (p := p) (d := e) hA hB hC hN hp hp2 h1 (by omega)
    rw [sumU_pt, if_pos (by omega)]
theorem Smr_nn {A B C N R : Int} (p q : Int) : ∀ i, (0 : Int) ≤ (if Dsh A B C N R q i < Dsh A B C N R p i then Dsh A B C N R p i - Dsh A B C N R q i else 0) := fun i => by split <;> omega
theorem Smr_0 {A B C N R p q : Int} (hA : 0 ≤ A ∧ A ≤ 63) (hB : 0 ≤ B ∧ B ≤ 63) (hC : 0 ≤ C ∧ C ≤ 63) (hN : 1 ≤ N ∧ N ≤ 64) (hR : 1 ≤ R ∧ R ≤ 32) (hp : 0 ≤ p) (hp2 : p < 3) (hq : 0 ≤ q) (hq2 : q < 3) : Smr A B C N R p q = 0 ↔ ∀ x, 0 ≤ x → x < N → Dsh A B C N R p x = Dsh A B C N R q x := by
  constructor
  · intro h x h1 h2
    have g := sumU_z _ _ (fun i _ _ => Smr_nn p q i) h
    refine sumU_eq (f := fun x => Dsh A B C N R p x) (g := fun x => Dsh A B C N R q x) N.toNat 0 (fun i a b => ?_) ?_ x h1 (by omega)
    · have := g i a b
      show Dsh A B C N R p i ≤ Dsh A B C N R q i
      split at this <;> omega
    · rw [Dsh_sum hA hB hC hN hR hp hp2, Dsh_sum hA hB hC hN hR hq hq2]
  · intro h
    unfold Smr
    rw [sumU_cg (g := fun x => b2i (decide (-1 = x))) N.toNat 0 (fun i a b => ?_), sumU_pt, if_neg (by omega)]
    rw [h i a (by omega), if_neg (by omega), decide_eq_false (by omega)]; rfl
theorem Smr_b {A B C N R : Int} (hN : 1 ≤ N ∧ N ≤ 64) (hR : 1 ≤ R ∧ R ≤ 32) (p q : Int) : 0 ≤ Smr A B C N R p q ∧ Smr A B C N R p q ≤ 2048 := by
  have := sumU_b (fun x => if Dsh A B C N R q x < Dsh A B C N R p x then Dsh A B C N R p x - Dsh A B C N R q x else 0) (B := 32) N.toNat 0 (fun i _ _ => by
    have b1 := Dsh_b (A := A) (B := B) (C := C) (N := N) hR p i
    have b2 := Dsh_b (A := A) (B := B) (C := C) (N := N) hR q i
    split <;> omega)
  unfold Smr
  omega
theorem fnd_pr {P : Int → Prop} {f : Int → Option Int} : ∀ (n : Nat) (j x : Int), (∀ i, j ≤ i → i < j + n → ∀ x, f i = some x → P x) → fnd f n j = some x → P x
  | 0, _, _, _, h => by simp [fnd] at h
  | n + 1, j, x, hf, h => by
    simp only [fnd] at h
    cases g : f j with
    | some y => rw [g] at h; simp only [Option.some.injEq] at h; subst h; exact hf j (by omega) (by omega) y g
    | none => rw [g] at h; exact fnd_pr n (j + 1) x (fun i hi hi2 => hf i (by omega) (by omega)) h
theorem F2_neg {A B C N R : Int} : ((fnd (F2 A B C N R 0) 3 0).getD (-1) = -1) ↔ ((fnd (F2 A B C N R 0) 3 0).getD (-1) < 0) := by
  cases h : fnd (F2 A B C N R 0) 3 0 with
  | none => simp
  | some x =>
    have : 0 ≤ x := fnd_pr (P := fun x => 0 ≤ x) 3 0 x (fun p hp _ y hy => fnd_pr (P := fun x => 0 ≤ x) _ 0 y (fun e he _ z hz => fnd_pr (P := fun x => 0 ≤ x) 3 0 z (fun o ho _ u hu => by
      unfold F18 at hu
      by_cases g : o = p
      · rw [if_pos g] at hu; cases hu
      · rw [if_neg g] at hu
        obtain ⟨a, -, rfl⟩ := Option.map_eq_some_iff.mp hu
        show 0 ≤ chs 0 p e o a
        unfold chs; rw [if_pos rfl]; exact hp) hz) hy) h
    simp only [Option.getD_some]; omega
theorem op_shows (p x : Int) : Op 139 261 [vI p, vI x] := by
  intro s c n hI
  have hs := hI.1.l
  have hc := hI.2.2.2.1
  have hm := hI.2.2.1
  have hl := LK_of hI
  have hR := hl.2.2.2.2.2.2
  have l5 := hl.1.2.2.2.2
  by_cases h1 : 0 ≤ p ∧ p < 3
  · by_cases h2 : 0 ≤ x
    · by_cases h3 : x < c 143 14
      · have r1 : Cd 999 139 [vA 29, vI p, vI x] (s, c) = some ([vI (shv (c 143 10) (c 143 11) (c 143 12) (c 143 13) p x)], (s, c)) := by
          rw [c139 (hg := gC29 hs c)]
          repeat (first | rw [bnd_s] | rw [tI_m] | rw [tL_m] | rw [tA_m] | rw [tV_m] | rw [fC29 hs _ (by decide)] | rw [pC29 hs _ _ (by decide)] | rw [fC30 hs _ (by decide)] | rw [pC30 hs _ _ (by decide)] | rw [fC37 hs _ (by decide)] | rw [pC37 hs _ _ (by decide)] | rw [CS_29_0 hc] | rw [CS_30_4 hc] | rw [l5] | rw [k160] | rw [if_b0] | rw [decide_eq_true (by omega)] | rw [decide_eq_false (by omega)] | rw [inR_t (by omega)] | rw [inR_f (by omega)] | rw [cond_t] | rw [cond_f] | rw [if_pos (by omega)] | rw [if_neg (by omega)] | rw [k38 _ hs hl])
        have r2 : Cd 999 261 [vA 142, vI p, vI x] (s, c) = some ([vI (shv (c 143 10) (c 143 11) (c 143 12) (c 143 13) p x)], (s, c)) := by
          rw [c261 (hg := gC142 hs c)]
          repeat (first | rw [bnd_s] | rw [tI_m] | rw [tL_m] | rw [tA_m] | rw [tV_m] | rw [fC142 hs _ (by decide)] | rw [pC142 hs _ _ (by decide)] | rw [MS_0 hm] | rw [MS_1 hm] | rw [MS_2 hm] | rw [MS_3 hm] | rw [MS_4 hm] | rw [MS_5 hm] | rw [MS_7 hm] | rw [MS_8 hm] | rw [MS_21 hm] | rw [MS_29 hm] | rw [MS_30 hm] | rw [MS_31 hm] | rw [MS_37 hm] | rw [MS_38 hm] | rw [MS_39 hm] | rw [MS_40 hm] | rw [aC143 hs _ (by omega) (by omega)] | rw [show (10 : Int).toNat = 10 from rfl] | rw [show (11 : Int).toNat = 11 from rfl] | rw [show (12 : Int).toNat = 12 from rfl] | rw [show (13 : Int).toNat = 13 from rfl] | rw [show (14 : Int).toNat = 14 from rfl] | rw [m172] | rw [if_b0] | rw [w32_id (z := c 143 14 - 1) (by omega) (by omega)] | rw [decide_eq_true (by omega)] | rw [decide_eq_false (by omega)] | rw [inR_t (by omega)] | rw [inR_f (by omega)] | rw [cond_t] | rw [cond_f] | rw [m260 _ hs hm hl] | rw [c261_21])
        exact ⟨_, s, s, c, c, n, r1, r2, by omega, hI⟩
      · have r1 : Cd 999 139 [vA 29, vI p, vI x] (s, c) = some ([vI (-1)], (s, c)) := by
          rw [c139 (hg := gC29 hs c)]
          repeat (first | rw [bnd_s] | rw [tI_m] | rw [tL_m] | rw [tA_m] | rw [tV_m] | rw [fC29 hs _ (by decide)] | rw [pC29 hs _ _ (by decide)] | rw [fC30 hs _ (by decide)] | rw [pC30 hs _ _ (by decide)] | rw [fC37 hs _ (by decide)] | rw [pC37 hs _ _ (by decide)] | rw [CS_29_0 hc] | rw [CS_30_4 hc] | rw [l5] | rw [k160] | rw [if_b0] | rw [decide_eq_true (by omega)] | rw [decide_eq_false (by omega)] | rw [inR_t (by omega)] | rw [inR_f (by omega)] | rw [cond_t] | rw [cond_f] | rw [if_pos (by omega)] | rw [if_neg (by omega)] | rw [c139_11])
        have r2 : Cd 999 261 [vA 142, vI p, vI x] (s, c) = some ([vI (-1)], (s, c)) := by
          rw [c261 (hg := gC142 hs c)]
          repeat (first | rw [bnd_s] | rw [tI_m] | rw [tL_m] | rw [tA_m] | rw [tV_m] | rw [fC142 hs _ (by decide)] | rw [pC142 hs _ _ (by decide)] | rw [MS_0 hm] | rw [MS_1 hm] | rw [MS_2 hm] | rw [MS_3 hm] | rw [MS_4 hm] | rw [MS_5 hm] | rw [MS_7 hm] | rw [MS_8 hm] | rw [MS_21 hm] | rw [MS_29 hm] | rw [MS_30 hm] | rw [MS_31 hm] | rw [MS_37 hm] | rw [MS_38 hm] | rw [MS_39 hm] | rw [MS_40 hm] | rw [aC143 hs _ (by omega) (by omega)] | rw [show (10 : Int).toNat = 10 from rfl] | rw [show (11 : Int).toNat = 11 from rfl] | rw [show (12 : Int).toNat = 12 from rfl] | rw [show (13 : Int).toNat = 13 from rfl] | rw [show (14 : Int).toNat = 14 from rfl] | rw [m172] | rw [if_b0] | rw [w32_id (z := c 143 14 - 1) (by omega) (by omega)] | rw [decide_eq_true (by omega)] | rw [decide_eq_false (by omega)] | rw [inR_t (by omega)] | rw [inR_f (by omega)] | rw [cond_t] | rw [cond_f] | rw [c261_20] | rw [c261_21])
        exact ⟨_, s, s, c, c, n, r1, r2, by omega, hI⟩
    · have r1 : Cd 999 139 [vA 29, vI p, vI x] (s, c) = some ([vI (-1)], (s, c)) := by
        rw [c139 (hg := gC29 hs c)]
        repeat (first | rw [bnd_s] | rw [tI_m] | rw [tL_m] | rw [tA_m] | rw [tV_m] | rw [fC29 hs _ (by decide)] | rw [pC29 hs _ _ (by decide)] | rw [fC30 hs _ (by decide)] | rw [pC30 hs _ _ (by decide)] | rw [fC37 hs _ (by decide)] | rw [pC37 hs _ _ (by decide)] | rw [CS_29_0 hc] | rw [CS_30_4 hc] | rw [l5] | rw [k160] | rw [if_b0] | rw [decide_eq_true (by omega)] | rw [decide_eq_false (by omega)] | rw [inR_t (by omega)] | rw [inR_f (by omega)] | rw [cond_t] | rw [cond_f] | rw [if_pos (by omega)] | rw [if_neg (by omega)] | rw [c139_11])
      have r2 : Cd 999 261 [vA 142, vI p, vI x] (s, c) = some ([vI (-1)], (s, c)) := by
        rw [c261 (hg := gC142 hs c)]
        repeat (first | rw [bnd_s] | rw [tI_m] | rw [tL_m] | rw [tA_m] | rw [tV_m] | rw [fC142 hs _ (by decide)] | rw [pC142 hs _ _ (by decide)] | rw [MS_0 hm] | rw [MS_1 hm] | rw [MS_2 hm] | rw [MS_3 hm] | rw [MS_4 hm] | rw [MS_5 hm] | rw [MS_7 hm] | rw [MS_8 hm] | rw [MS_21 hm] | rw [MS_29 hm] | rw [MS_30 hm] | rw [MS_31 hm] | rw [MS_37 hm] | rw [MS_38 hm] | rw [MS_39 hm] | rw [MS_40 hm] | rw [aC143 hs _ (by omega) (by omega)] | rw [show (10 : Int).toNat = 10 from rfl] | rw [show (11 : Int).toNat = 11 from rfl] | rw [show (12 : Int).toNat = 12 from rfl] | rw [show (13 : Int).toNat = 13 from rfl] | rw [show (14 : Int).toNat = 14 from rfl] | rw [m172] | rw [if_b0] | rw [w32_id (z := c 143 14 - 1) (by omega) (by omega)] | rw [decide_eq_true (by omega)] | rw [decide_eq_false (by omega)] | rw [inR_t (by omega)] | rw [inR_f (by omega)] | rw [cond_t] | rw [cond_f] | rw [c261_20] | rw [c261_21])
      exact ⟨_, s, s, c, c, n, r1, r2, by omega, hI⟩
  · have r1 : Cd 999 139 [vA 29, vI p, vI x] (s, c) = some ([vI (-1)], (s, c)) := by
      rw [c139 (hg := gC29 hs c)]
      repeat (first | rw [bnd_s] | rw [tI_m] | rw [tL_m] | rw [tA_m] | rw [tV_m] | rw [fC29 hs _ (by decide)] | rw [pC29 hs _ _ (by decide)] | rw [fC30 hs _ (by decide)] | rw [pC30 hs _ _ (by decide)] | rw [fC37 hs _ (by decide)] | rw [pC37 hs _ _ (by decide)] | rw [CS_29_0 hc] | rw [CS_30_4 hc] | rw [l5] | rw [k160] | rw [if_b0] | rw [decide_eq_true (by omega)] | rw [decide_eq_false (by omega)] | rw [inR_t (by omega)] | rw [inR_f (by omega)] | rw [cond_t] | rw [cond_f] | rw [if_pos (by omega)] | rw [if_neg (by omega)] | rw [c139_11])
    have r2 : Cd 999 261 [vA 142, vI p, vI x] (s, c) = some ([vI (-1)], (s, c)) := by
      rw [c261 (hg := gC142 hs c)]
      repeat (first | rw [bnd_s] | rw [tI_m] | rw [tL_m] | rw [tA_m] | rw [tV_m] | rw [fC142 hs _ (by decide)] | rw [pC142 hs _ _ (by decide)] | rw [MS_0 hm] | rw [MS_1 hm] | rw [MS_2 hm] | rw [MS_3 hm] | rw [MS_4 hm] | rw [MS_5 hm] | rw [MS_7 hm] | rw [MS_8 hm] | rw [MS_21 hm] | rw [MS_29 hm] | rw [MS_30 hm] | rw [MS_31 hm] | rw [MS_37 hm] | rw [MS_38 hm] | rw [MS_39 hm] | rw [MS_40 hm] | rw [aC143 hs _ (by omega) (by omega)] | rw [show (10 : Int).toNat = 10 from rfl] | rw [show (11 : Int).toNat = 11 from rfl] | rw [show (12 : Int).toNat = 12 from rfl] | rw [show (13 : Int).toNat = 13 from rfl] | rw [show (14 : Int).toNat = 14 from rfl] | rw [m172] | rw [if_b0] | rw [w32_id (z := c 143 14 - 1) (by omega) (by omega)] | rw [decide_eq_true (by omega)] | rw [decide_eq_false (by omega)] | rw [inR_t (by omega)] | rw [inR_f (by omega)] | rw [cond_t] | rw [cond_f] | rw [c261_20] | rw [c261_21])
    exact ⟨_, s, s, c, c, n, r1, r2, by omega, hI⟩
theorem op_locks (v : Int) : Op 140 265 [vI v] := by
  intro s c n hI
  have hs := hI.1.l
  have hc := hI.2.2.2.1
  have hm := hI.2.2.1
  have hl := LK_of hI
  generalize hA : c 143 10 = A at *
  generalize hB : c 143 11 = B at *
  generalize hC : c 143 12 = C at *
  generalize hN : c 143 13 = N at *
  generalize hR : c 143 14 = R at *
  obtain ⟨-, -, bA, bB, bC, bN, bR⟩ := id hl
  by_cases hv : 0 ≤ v ∧ v ≤ 8
  · have : v = 0 ∨ v = 1 ∨ v = 2 ∨ v = 3 ∨ v = 4 ∨ v = 5 ∨ v = 6 ∨ v = 7 ∨ v = 8 := by omega
    rcases this with rfl | rfl | rfl | rfl | rfl | rfl | rfl | rfl | rfl
    · refine ⟨vI (b2i (decide ((fnd (F2 A B C N R 0) 3 0).getD (-1) < 0))), s, s, c, c, n, ?_, ?_, by omega, hI⟩
      · rw [c140 (hg := gC29 hs c)]
        repeat (first | rw [bnd_s] | rw [tI_m] | rw [tL_m] | rw [tA_m] | rw [tV_m] | rw [fC29 hs _ (by decide)] | rw [pC29 hs _ _ (by decide)] | rw [fC30 hs _ (by decide)] | rw [pC30 hs _ _ (by decide)] | rw [CS_29_0 hc] | rw [CS_30_4 hc] | rw [if_pos (show (0 : Int) = 0 from rfl)] | rw [if_neg (show ¬ (0 : Int) = 1 by decide)] | rw [if_neg (show ¬ (0 : Int) = 2 by decide)] | rw [if_neg (show ¬ (0 : Int) = 3 by decide)] | rw [if_neg (show ¬ (0 : Int) = 4 by decide)] | rw [if_neg (show ¬ (0 : Int) = 5 by decide)] | rw [if_neg (show ¬ (0 : Int) = 6 by decide)] | rw [if_neg (show ¬ (0 : Int) = 7 by decide)] | rw [if_neg (show ¬ (0 : Int) = 8 by decide)] | rw [k39 _ hs hl] | rw [k42 _ hs hl])
        have q : ((fnd (F2 A B C N R 0) 3 0).getD (-1) = -1) ↔ ((fnd (F2 A B C N R 0) 3 0).getD (-1) < 0) := F2_neg
        by_cases g : (fnd (F2 A B C N R 0) 3 0).getD (-1) < 0
        · rw [if_pos (q.mpr g), decide_eq_true g, c140_12, show (1 : Int) = b2i true from rfl, k159]; rfl
        · rw [if_neg (fun u => g (q.mp u)), decide_eq_false g, c140_12, show (0 : Int) = b2i false from rfl, k159]; rfl
      · rw [c265 (hg := gC142 hs c)]
        repeat (first | rw [bnd_s] | rw [tI_m] | rw [tL_m] | rw [tA_m] | rw [tV_m] | rw [fC142 hs _ (by decide)] | rw [pC142 hs _ _ (by decide)] | rw [MS_0 hm] | rw [MS_1 hm] | rw [MS_2 hm] | rw [MS_3 hm] | rw [MS_4 hm] | rw [MS_5 hm] | rw [MS_7 hm] | rw [MS_8 hm] | rw [MS_21 hm] | rw [MS_29 hm] | rw [MS_30 hm] | rw [MS_31 hm] | rw [MS_37 hm] | rw [MS_38 hm] | rw [MS_39 hm] | rw [MS_40 hm] | rw [m172] | rw [if_b0] | rw [inR_t (show (0 : Int) ≤ 0 ∧ (0 : Int) ≤ 8 by decide)] | rw [cond_t] | rw [if_pos (show (0 : Int) = 0 from rfl)] | rw [if_neg (show ¬ (0 : Int) = 1 by decide)] | rw [if_neg (show ¬ (0 : Int) = 2 by decide)] | rw [if_neg (show ¬ (0 : Int) = 3 by decide)] | rw [if_neg (show ¬ (0 : Int) = 4 by decide)] | rw [if_neg (show ¬ (0 : Int) = 5 by decide)] | rw [if_neg (show ¬ (0 : Int) = 6 by decide)] | rw [if_neg (show ¬ (0 : Int) = 7 by decide)] | rw [if_neg (show ¬ (0 : Int) = 8 by decide)] | rw [if_pos (show (0 : Int) < 6 by decide)] | rw [m263 _ hs hm hl] | rw [m264 _ hs hm hl] | rw [c265_60])
        rw [show (2 : Int) = 0 + 2 from rfl, dbl bR.1 (by decide) (by decide)]
        by_cases g : (fnd (F2 A B C N R 0) 3 0).getD (-1) < 0
        · rw [if_pos g, decide_eq_true g, c265_16]; rfl
        · rw [if_neg g, decide_eq_false g, c265_16]; rfl
    · refine ⟨vI (b2i (decide (Smr A B C N R 0 1 = 0 ∧ Smr A B C N R 0 2 = 0))), s, s, c, c, n, ?_, ?_, by omega, hI⟩
      · rw [c140 (hg := gC29 hs c)]
        repeat (first | rw [bnd_s] | rw [tI_m] | rw [tL_m] | rw [tA_m] | rw [tV_m] | rw [fC29 hs _ (by decide)] | rw [pC29 hs _ _ (by decide)] | rw [fC30 hs _ (by decide)] | rw [pC30 hs _ _ (by decide)] | rw [CS_29_0 hc] | rw [CS_30_4 hc] | rw [if_pos (show (1 : Int) = 1 from rfl)] | rw [if_neg (show ¬ (1 : Int) = 0 by decide)] | rw [if_neg (show ¬ (1 : Int) = 2 by decide)] | rw [if_neg (show ¬ (1 : Int) = 3 by decide)] | rw [if_neg (show ¬ (1 : Int) = 4 by decide)] | rw [if_neg (show ¬ (1 : Int) = 5 by decide)] | rw [if_neg (show ¬ (1 : Int) = 6 by decide)] | rw [if_neg (show ¬ (1 : Int) = 7 by decide)] | rw [if_neg (show ¬ (1 : Int) = 8 by decide)] | rw [k39 _ hs hl] | rw [k42 _ hs hl])
        by_cases g1 : Smr A B C N R 0 1 = 0
        · rw [if_pos g1]
          repeat (first | rw [bnd_s] | rw [tI_m] | rw [tL_m] | rw [tA_m] | rw [tV_m] | rw [fC29 hs _ (by decide)] | rw [pC29 hs _ _ (by decide)] | rw [fC30 hs _ (by decide)] | rw [pC30 hs _ _ (by decide)] | rw [CS_29_0 hc] | rw [CS_30_4 hc] | rw [k42 _ hs hl])
          by_cases g2 : Smr A B C N R 0 2 = 0
          · rw [if_pos g2, decide_eq_true ⟨g1, g2⟩, c140_31, show (1 : Int) = b2i true from rfl, k159]; rfl
          · rw [if_neg g2, decide_eq_false (fun u => g2 u.2), c140_30, c140_31, show (0 : Int) = b2i false from rfl, k159]; rfl
        · rw [if_neg g1, decide_eq_false (fun u => g1 u.1), c140_30, c140_31, show (0 : Int) = b2i false from rfl, k159]; rfl
      · rw [c265 (hg := gC142 hs c)]
        repeat (first | rw [bnd_s] | rw [tI_m] | rw [tL_m] | rw [tA_m] | rw [tV_m] | rw [fC142 hs _ (by decide)] | rw [pC142 hs _ _ (by decide)] | rw [MS_0 hm] | rw [MS_1 hm] | rw [MS_2 hm] | rw [MS_3 hm] | rw [MS_4 hm] | rw [MS_5 hm] | rw [MS_7 hm] | rw [MS_8 hm] | rw [MS_21 hm] | rw [MS_29 hm] | rw [MS_30 hm] | rw [MS_31 hm] | rw [MS_37 hm] | rw [MS_38 hm] | rw [MS_39 hm] | rw [MS_40 hm] | rw [m172] | rw [if_b0] | rw [inR_t (show (0 : Int) ≤ 1 ∧ (1 : Int) ≤ 8 by decide)] | rw [cond_t] | rw [if_pos (show (1 : Int) = 1 from rfl)] | rw [if_neg (show ¬ (1 : Int) = 0 by decide)] | rw [if_neg (show ¬ (1 : Int) = 2 by decide)] | rw [if_neg (show ¬ (1 : Int) = 3 by decide)] | rw [if_neg (show ¬ (1 : Int) = 4 by decide)] | rw [if_neg (show ¬ (1 : Int) = 5 by decide)] | rw [if_neg (show ¬ (1 : Int) = 6 by decide)] | rw [if_neg (show ¬ (1 : Int) = 7 by decide)] | rw [if_neg (show ¬ (1 : Int) = 8 by decide)] | rw [if_pos (show (1 : Int) < 6 by decide)] | rw [m263 _ hs hm hl] | rw [m264 _ hs hm hl] | rw [c265_60])
        have b1 := Smr_b (A := A) (B := B) (C := C) bN bR 0 1
        have b2 := Smr_b (A := A) (B := B) (C := C) bN bR 0 2
        have b3 := Smr_b (A := A) (B := B) (C := C) bN bR 1 2
        rw [w32_id (z := Smr A B C N R 0 1 + Smr A B C N R 0 2) (by omega) (by omega), w32_id (by omega) (by omega)]
        by_cases g : Smr A B C N R 0 1 = 0 ∧ Smr A B C N R 0 2 = 0
        · have z1 := (Smr_0 bA bB bC bN bR (by decide) (by decide) (by decide) (by decide)).mp g.1
          have z2 := (Smr_0 bA bB bC bN bR (by decide) (by decide) (by decide) (by decide)).mp g.2
          have z3 : Smr A B C N R 1 2 = 0 := (Smr_0 bA bB bC bN bR (by decide) (by decide) (by decide) (by decide)).mpr (fun x h1 h2 => (z1 x h1 h2).symm.trans (z2 x h1 h2))
          rw [if_pos (by omega), decide_eq_true g, c265_38]; rfl
        · rw [if_neg (by omega), decide_eq_false g, c265_38]; rfl
    · refine ⟨vI ((fnd (F2 A B C N R 0) 3 0).getD (-1)), s, s, c, c, n, ?_, ?_, by omega, hI⟩
      · rw [c140 (hg := gC29 hs c)]
        repeat (first | rw [bnd_s] | rw [tI_m] | rw [tL_m] | rw [tA_m] | rw [tV_m] | rw [fC29 hs _ (by decide)] | rw [pC29 hs _ _ (by decide)] | rw [fC30 hs _ (by decide)] | rw [pC30 hs _ _ (by decide)] | rw [CS_29_0 hc] | rw [CS_30_4 hc] | rw [if_pos (show (2 : Int) = 2 from rfl)] | rw [if_neg (show ¬ (2 : Int) = 0 by decide)] | rw [if_neg (show ¬ (2 : Int) = 1 by decide)] | rw [if_neg (show ¬ (2 : Int) = 3 by decide)] | rw [if_neg (show ¬ (2 : Int) = 4 by decide)] | rw [if_neg (show ¬ (2 : Int) = 5 by decide)] | rw [if_neg (show ¬ (2 : Int) = 6 by decide)] | rw [if_neg (show ¬ (2 : Int) = 7 by decide)] | rw [if_neg (show ¬ (2 : Int) = 8 by decide)] | rw [show w32 (2 - 2) = 0 from by decide +kernel] | rw [k39 _ hs hl] | rw [k42 _ hs hl])
      · rw [c265 (hg := gC142 hs c)]
        repeat (first | rw [bnd_s] | rw [tI_m] | rw [tL_m] | rw [tA_m] | rw [tV_m] | rw [fC142 hs _ (by decide)] | rw [pC142 hs _ _ (by decide)] | rw [MS_0 hm] | rw [MS_1 hm] | rw [MS_2 hm] | rw [MS_3 hm] | rw [MS_4 hm] | rw [MS_5 hm] | rw [MS_7 hm] | rw [MS_8 hm] | rw [MS_21 hm] | rw [MS_29 hm] | rw [MS_30 hm] | rw [MS_31 hm] | rw [MS_37 hm] | rw [MS_38 hm] | rw [MS_39 hm] | rw [MS_40 hm] | rw [m172] | rw [if_b0] | rw [inR_t (show (0 : Int) ≤ 2 ∧ (2 : Int) ≤ 8 by decide)] | rw [cond_t] | rw [if_pos (show (2 : Int) = 2 from rfl)] | rw [if_neg (show ¬ (2 : Int) = 0 by decide)] | rw [if_neg (show ¬ (2 : Int) = 1 by decide)] | rw [if_neg (show ¬ (2 : Int) = 3 by decide)] | rw [if_neg (show ¬ (2 : Int) = 4 by decide)] | rw [if_neg (show ¬ (2 : Int) = 5 by decide)] | rw [if_neg (show ¬ (2 : Int) = 6 by decide)] | rw [if_neg (show ¬ (2 : Int) = 7 by decide)] | rw [if_neg (show ¬ (2 : Int) = 8 by decide)] | rw [if_pos (show (2 : Int) < 6 by decide)] | rw [m263 _ hs hm hl] | rw [m264 _ hs hm hl] | rw [c265_60])
        rw [show (2 : Int) = 0 + 2 from rfl, dbl bR.1 (by decide) (by decide)]
    · refine ⟨vI ((fnd (F2 A B C N R 1) 3 0).getD (-1)), s, s, c, c, n, ?_, ?_, by omega, hI⟩
      · rw [c140 (hg := gC29 hs c)]
        repeat (first | rw [bnd_s] | rw [tI_m] | rw [tL_m] | rw [tA_m] | rw [tV_m] | rw [fC29 hs _ (by decide)] | rw [pC29 hs _ _ (by decide)] | rw [fC30 hs _ (by decide)] | rw [pC30 hs _ _ (by decide)] | rw [CS_29_0 hc] | rw [CS_30_4 hc] | rw [if_pos (show (3 : Int) = 3 from rfl)] | rw [if_neg (show ¬ (3 : Int) = 0 by decide)] | rw [if_neg (show ¬ (3 : Int) = 1 by decide)] | rw [if_neg (show ¬ (3 : Int) = 2 by decide)] | rw [if_neg (show ¬ (3 : Int) = 4 by decide)] | rw [if_neg (show ¬ (3 : Int) = 5 by decide)] | rw [if_neg (show ¬ (3 : Int) = 6 by decide)] | rw [if_neg (show ¬ (3 : Int) = 7 by decide)] | rw [if_neg (show ¬ (3 : Int) = 8 by decide)] | rw [show w32 (3 - 2) = 1 from by decide +kernel] | rw [k39 _ hs hl] | rw [k42 _ hs hl])
      · rw [c265 (hg := gC142 hs c)]
        repeat (first | rw [bnd_s] | rw [tI_m] | rw [tL_m] | rw [tA_m] | rw [tV_m] | rw [fC142 hs _ (by decide)] | rw [pC142 hs _ _ (by decide)] | rw [MS_0 hm] | rw [MS_1 hm] | rw [MS_2 hm] | rw [MS_3 hm] | rw [MS_4 hm] | rw [MS_5 hm] | rw [MS_7 hm] | rw [MS_8 hm] | rw [MS_21 hm] | rw [MS_29 hm] | rw [MS_30 hm] | rw [MS_31 hm] | rw [MS_37 hm] | rw [MS_38 hm] | rw [MS_39 hm] | rw [MS_40 hm] | rw [m172] | rw [if_b0] | rw [inR_t (show (0 : Int) ≤ 3 ∧ (3 : Int) ≤ 8 by decide)] | rw [cond_t] | rw [if_pos (show (3 : Int) = 3 from rfl)] | rw [if_neg (show ¬ (3 : Int) = 0 by decide)] | rw [if_neg (show ¬ (3 : Int) = 1 by decide)] | rw [if_neg (show ¬ (3 : Int) = 2 by decide)] | rw [if_neg (show ¬ (3 : Int) = 4 by decide)] | rw [if_neg (show ¬ (3 : Int) = 5 by decide)] | rw [if_neg (show ¬ (3 : Int) = 6 by decide)] | rw [if_neg (show ¬ (3 : Int) = 7 by decide)] | rw [if_neg (show ¬ (3 : Int) = 8 by decide)] | rw [if_pos (show (3 : Int) < 6 by decide)] | rw [m263 _ hs hm hl] | rw [m264 _ hs hm hl] | rw [c265_60])
        rw [show (3 : Int) = 1 + 2 from rfl, dbl bR.1 (by decide) (by decide)]
    · refine ⟨vI ((fnd (F2 A B C N R 2) 3 0).getD (-1)), s, s, c, c, n, ?_, ?_, by omega, hI⟩
      · rw [c140 (hg := gC29 hs c)]
        repeat (first | rw [bnd_s] | rw [tI_m] | rw [tL_m] | rw [tA_m] | rw [tV_m] | rw [fC29 hs _ (by decide)] | rw [pC29 hs _ _ (by decide)] | rw [fC30 hs _ (by decide)] | rw [pC30 hs _ _ (by decide)] | rw [CS_29_0 hc] | rw [CS_30_4 hc] | rw [if_pos (show (4 : Int) = 4 from rfl)] | rw [if_neg (show ¬ (4 : Int) = 0 by decide)] | rw [if_neg (show ¬ (4 : Int) = 1 by decide)] | rw [if_neg (show ¬ (4 : Int) = 2 by decide)] | rw [if_neg (show ¬ (4 : Int) = 3 by decide)] | rw [if_neg (show ¬ (4 : Int) = 5 by decide)] | rw [if_neg (show ¬ (4 : Int) = 6 by decide)] | rw [if_neg (show ¬ (4 : Int) = 7 by decide)] | rw [if_neg (show ¬ (4 : Int) = 8 by decide)] | rw [show w32 (4 - 2) = 2 from by decide +kernel] | rw [k39 _ hs hl] | rw [k42 _ hs hl])
      · rw [c265 (hg := gC142 hs c)]
        repeat (first | rw [bnd_s] | rw [tI_m] | rw [tL_m] | rw [tA_m] | rw [tV_m] | rw [fC142 hs _ (by decide)] | rw [pC142 hs _ _ (by decide)] | rw [MS_0 hm] | rw [MS_1 hm] | rw [MS_2 hm] | rw [MS_3 hm] | rw [MS_4 hm] | rw [MS_5 hm] | rw [MS_7 hm] | rw [MS_8 hm] | rw [MS_21 hm] | rw [MS_29 hm] | rw [MS_30 hm] | rw [MS_31 hm] | rw [MS_37 hm] | rw [MS_38 hm] | rw [MS_39 hm] | rw [MS_40 hm] | rw [m172] | rw [if_b0] | rw [inR_t (show (0 : Int) ≤ 4 ∧ (4 : Int) ≤ 8 by decide)] | rw [cond_t] | rw [if_pos (show (4 : Int) = 4 from rfl)] | rw [if_neg (show ¬ (4 : Int) = 0 by decide)] | rw [if_neg (show ¬ (4 : Int) = 1 by decide)] | rw [if_neg (show ¬ (4 : Int) = 2 by decide)] | rw [if_neg (show ¬ (4 : Int) = 3 by decide)] | rw [if_neg (show ¬ (4 : Int) = 5 by decide)] | rw [if_neg (show ¬ (4 : Int) = 6 by decide)] | rw [if_neg (show ¬ (4 : Int) = 7 by decide)] | rw [if_neg (show ¬ (4 : Int) = 8 by decide)] | rw [if_pos (show (4 : Int) < 6 by decide)] | rw [m263 _ hs hm hl] | rw [m264 _ hs hm hl] | rw [c265_60])
        rw [show (4 : Int) = 2 + 2 from rfl, dbl bR.1 (by decide) (by decide)]
    · refine ⟨vI ((fnd (F2 A B C N R 3) 3 0).getD (-1)), s, s, c, c, n, ?_, ?_, by omega, hI⟩
      · rw [c140 (hg := gC29 hs c)]
        repeat (first | rw [bnd_s] | rw [tI_m] | rw [tL_m] | rw [tA_m] | rw [tV_m] | rw [fC29 hs _ (by decide)] | rw [pC29 hs _ _ (by decide)] | rw [fC30 hs _ (by decide)] | rw [pC30 hs _ _ (by decide)] | rw [CS_29_0 hc] | rw [CS_30_4 hc] | rw [if_pos (show (5 : Int) = 5 from rfl)] | rw [if_neg (show ¬ (5 : Int) = 0 by decide)] | rw [if_neg (show ¬ (5 : Int) = 1 by decide)] | rw [if_neg (show ¬ (5 : Int) = 2 by decide)] | rw [if_neg (show ¬ (5 : Int) = 3 by decide)] | rw [if_neg (show ¬ (5 : Int) = 4 by decide)] | rw [if_neg (show ¬ (5 : Int) = 6 by decide)] | rw [if_neg (show ¬ (5 : Int) = 7 by decide)] | rw [if_neg (show ¬ (5 : Int) = 8 by decide)] | rw [show w32 (5 - 2) = 3 from by decide +kernel] | rw [k39 _ hs hl] | rw [k42 _ hs hl])
      · rw [c265 (hg := gC142 hs c)]
        repeat (first | rw [bnd_s] | rw [tI_m] | rw [tL_m] | rw [tA_m] | rw [tV_m] | rw [fC142 hs _ (by decide)] | rw [pC142 hs _ _ (by decide)] | rw [MS_0 hm] | rw [MS_1 hm] | rw [MS_2 hm] | rw [MS_3 hm] | rw [MS_4 hm] | rw [MS_5 hm] | rw [MS_7 hm] | rw [MS_8 hm] | rw [MS_21 hm] | rw [MS_29 hm] | rw [MS_30 hm] | rw [MS_31 hm] | rw [MS_37 hm] | rw [MS_38 hm] | rw [MS_39 hm] | rw [MS_40 hm] | rw [m172] | rw [if_b0] | rw [inR_t (show (0 : Int) ≤ 5 ∧ (5 : Int) ≤ 8 by decide)] | rw [cond_t] | rw [if_pos (show (5 : Int) = 5 from rfl)] | rw [if_neg (show ¬ (5 : Int) = 0 by decide)] | rw [if_neg (show ¬ (5 : Int) = 1 by decide)] | rw [if_neg (show ¬ (5 : Int) = 2 by decide)] | rw [if_neg (show ¬ (5 : Int) = 3 by decide)] | rw [if_neg (show ¬ (5 : Int) = 4 by decide)] | rw [if_neg (show ¬ (5 : Int) = 6 by decide)] | rw [if_neg (show ¬ (5 : Int) = 7 by decide)] | rw [if_neg (show ¬ (5 : Int) = 8 by decide)] | rw [if_pos (show (5 : Int) < 6 by decide)] | rw [m263 _ hs hm hl] | rw [m264 _ hs hm hl] | rw [c265_60])
        rw [show (5 : Int) = 3 + 2 from rfl, dbl bR.1 (by decide) (by decide)]
    · refine ⟨vI (Smr A B C N R 0 1), s, s, c, c, n, ?_, ?_, by omega, hI⟩
      · rw [c140 (hg := gC29 hs c)]
        repeat (first | rw [bnd_s] | rw [tI_m] | rw [tL_m] | rw [tA_m] | rw [tV_m] | rw [fC29 hs _ (by decide)] | rw [pC29 hs _ _ (by decide)] | rw [fC30 hs _ (by decide)] | rw [pC30 hs _ _ (by decide)] | rw [CS_29_0 hc] | rw [CS_30_4 hc] | rw [if_pos (show (6 : Int) = 6 from rfl)] | rw [if_neg (show ¬ (6 : Int) = 0 by decide)] | rw [if_neg (show ¬ (6 : Int) = 1 by decide)] | rw [if_neg (show ¬ (6 : Int) = 2 by decide)] | rw [if_neg (show ¬ (6 : Int) = 3 by decide)] | rw [if_neg (show ¬ (6 : Int) = 4 by decide)] | rw [if_neg (show ¬ (6 : Int) = 5 by decide)] | rw [if_neg (show ¬ (6 : Int) = 7 by decide)] | rw [if_neg (show ¬ (6 : Int) = 8 by decide)] | rw [k39 _ hs hl] | rw [k42 _ hs hl])
      · rw [c265 (hg := gC142 hs c)]
        repeat (first | rw [bnd_s] | rw [tI_m] | rw [tL_m] | rw [tA_m] | rw [tV_m] | rw [fC142 hs _ (by decide)] | rw [pC142 hs _ _ (by decide)] | rw [MS_0 hm] | rw [MS_1 hm] | rw [MS_2 hm] | rw [MS_3 hm] | rw [MS_4 hm] | rw [MS_5 hm] | rw [MS_7 hm] | rw [MS_8 hm] | rw [MS_21 hm] | rw [MS_29 hm] | rw [MS_30 hm] | rw [MS_31 hm] | rw [MS_37 hm] | rw [MS_38 hm] | rw [MS_39 hm] | rw [MS_40 hm] | rw [m172] | rw [if_b0] | rw [inR_t (show (0 : Int) ≤ 6 ∧ (6 : Int) ≤ 8 by decide)] | rw [cond_t] | rw [if_pos (show (6 : Int) = 6 from rfl)] | rw [if_neg (show ¬ (6 : Int) = 0 by decide)] | rw [if_neg (show ¬ (6 : Int) = 1 by decide)] | rw [if_neg (show ¬ (6 : Int) = 2 by decide)] | rw [if_neg (show ¬ (6 : Int) = 3 by decide)] | rw [if_neg (show ¬ (6 : Int) = 4 by decide)] | rw [if_neg (show ¬ (6 : Int) = 5 by decide)] | rw [if_neg (show ¬ (6 : Int) = 7 by decide)] | rw [if_neg (show ¬ (6 : Int) = 8 by decide)] | rw [if_neg (show ¬ (6 : Int) < 6 by decide)] | rw [m263 _ hs hm hl] | rw [m264 _ hs hm hl] | rw [c265_60])
    · refine ⟨vI (Smr A B C N R 0 2), s, s, c, c, n, ?_, ?_, by omega, hI⟩
      · rw [c140 (hg := gC29 hs c)]
        repeat (first | rw [bnd_s] | rw [tI_m] | rw [tL_m] | rw [tA_m] | rw [tV_m] | rw [fC29 hs _ (by decide)] | rw [pC29 hs _ _ (by decide)] | rw [fC30 hs _ (by decide)] | rw [pC30 hs _ _ (by decide)] | rw [CS_29_0 hc] | rw [CS_30_4 hc] | rw [if_pos (show (7 : Int) = 7 from rfl)] | rw [if_neg (show ¬ (7 : Int) = 0 by decide)] | rw [if_neg (show ¬ (7 : Int) = 1 by decide)] | rw [if_neg (show ¬ (7 : Int) = 2 by decide)] | rw [if_neg (show ¬ (7 : Int) = 3 by decide)] | rw [if_neg (show ¬ (7 : Int) = 4 by decide)] | rw [if_neg (show ¬ (7 : Int) = 5 by decide)] | rw [if_neg (show ¬ (7 : Int) = 6 by decide)] | rw [if_neg (show ¬ (7 : Int) = 8 by decide)] | rw [k39 _ hs hl] | rw [k42 _ hs hl])
      · rw [c265 (hg := gC142 hs c)]
        repeat (first | rw [bnd_s] | rw [tI_m] | rw [tL_m] | rw [tA_m] | rw [tV_m] | rw [fC142 hs _ (by decide)] | rw [pC142 hs _ _ (by decide)] | rw [MS_0 hm] | rw [MS_1 hm] | rw [MS_2 hm] | rw [MS_3 hm] | rw [MS_4 hm] | rw [MS_5 hm] | rw [MS_7 hm] | rw [MS_8 hm] | rw [MS_21 hm] | rw [MS_29 hm] | rw [MS_30 hm] | rw [MS_31 hm] | rw [MS_37 hm] | rw [MS_38 hm] | rw [MS_39 hm] | rw [MS_40 hm] | rw [m172] | rw [if_b0] | rw [inR_t (show (0 : Int) ≤ 7 ∧ (7 : Int) ≤ 8 by decide)] | rw [cond_t] | rw [if_pos (show (7 : Int) = 7 from rfl)] | rw [if_neg (show ¬ (7 : Int) = 0 by decide)] | rw [if_neg (show ¬ (7 : Int) = 1 by decide)] | rw [if_neg (show ¬ (7 : Int) = 2 by decide)] | rw [if_neg (show ¬ (7 : Int) = 3 by decide)] | rw [if_neg (show ¬ (7 : Int) = 4 by decide)] | rw [if_neg (show ¬ (7 : Int) = 5 by decide)] | rw [if_neg (show ¬ (7 : Int) = 6 by decide)] | rw [if_neg (show ¬ (7 : Int) = 8 by decide)] | rw [if_neg (show ¬ (7 : Int) < 6 by decide)] | rw [show w32 (7 - 7) = 0 from by decide +kernel] | rw [m263 _ hs hm hl] | rw [m264 _ hs hm hl] | rw [c265_60])
    · refine ⟨vI (Smr A B C N R 1 2), s, s, c, c, n, ?_, ?_, by omega, hI⟩
      · rw [c140 (hg := gC29 hs c)]
        repeat (first | rw [bnd_s] | rw [tI_m] | rw [tL_m] | rw [tA_m] | rw [tV_m] | rw [fC29 hs _ (by decide)] | rw [pC29 hs _ _ (by decide)] | rw [fC30 hs _ (by decide)] | rw [pC30 hs _ _ (by decide)] | rw [CS_29_0 hc] | rw [CS_30_4 hc] | rw [if_pos (show (8 : Int) = 8 from rfl)] | rw [if_neg (show ¬ (8 : Int) = 0 by decide)] | rw [if_neg (show ¬ (8 : Int) = 1 by decide)] | rw [if_neg (show ¬ (8 : Int) = 2 by decide)] | rw [if_neg (show ¬ (8 : Int) = 3 by decide)] | rw [if_neg (show ¬ (8 : Int) = 4 by decide)] | rw [if_neg (show ¬ (8 : Int) = 5 by decide)] | rw [if_neg (show ¬ (8 : Int) = 6 by decide)] | rw [if_neg (show ¬ (8 : Int) = 7 by decide)] | rw [k39 _ hs hl] | rw [k42 _ hs hl])
      · rw [c265 (hg := gC142 hs c)]
        repeat (first | rw [bnd_s] | rw [tI_m] | rw [tL_m] | rw [tA_m] | rw [tV_m] | rw [fC142 hs _ (by decide)] | rw [pC142 hs _ _ (by decide)] | rw [MS_0 hm] | rw [MS_1 hm] | rw [MS_2 hm] | rw [MS_3 hm] | rw [MS_4 hm] | rw [MS_5 hm] | rw [MS_7 hm] | rw [MS_8 hm] | rw [MS_21 hm] | rw [MS_29 hm] | rw [MS_30 hm] | rw [MS_31 hm] | rw [MS_37 hm] | rw [MS_38 hm] | rw [MS_39 hm] | rw [MS_40 hm] | rw [m172] | rw [if_b0] | rw [inR_t (show (0 : Int) ≤ 8 ∧ (8 : Int) ≤ 8 by decide)] | rw [cond_t] | rw [if_pos (show (8 : Int) = 8 from rfl)] | rw [if_neg (show ¬ (8 : Int) = 0 by decide)] | rw [if_neg (show ¬ (8 : Int) = 1 by decide)] | rw [if_neg (show ¬ (8 : Int) = 2 by decide)] | rw [if_neg (show ¬ (8 : Int) = 3 by decide)] | rw [if_neg (show ¬ (8 : Int) = 4 by decide)] | rw [if_neg (show ¬ (8 : Int) = 5 by decide)] | rw [if_neg (show ¬ (8 : Int) = 6 by decide)] | rw [if_neg (show ¬ (8 : Int) = 7 by decide)] | rw [if_neg (show ¬ (8 : Int) < 6 by decide)] | rw [show w32 (8 - 7) = 1 from by decide +kernel] | rw [m263 _ hs hm hl] | rw [m264 _ hs hm hl] | rw [c265_60])
  · refine ⟨vI (-1), s, s, c, c, n, ?_, ?_, by omega, hI⟩
    · rw [c140 (hg := gC29 hs c)]
      repeat (first | rw [if_neg (by omega)])
    · rw [c265 (hg := gC142 hs c)]
      repeat (first | rw [bnd_s] | rw [tI_m] | rw [tL_m] | rw [tA_m] | rw [tV_m] | rw [fC142 hs _ (by decide)] | rw [pC142 hs _ _ (by decide)] | rw [MS_0 hm] | rw [MS_1 hm] | rw [MS_2 hm] | rw [MS_3 hm] | rw [MS_4 hm] | rw [MS_5 hm] | rw [MS_7 hm] | rw [MS_8 hm] | rw [MS_21 hm] | rw [MS_29 hm] | rw [MS_30 hm] | rw [MS_31 hm] | rw [MS_37 hm] | rw [MS_38 hm] | rw [MS_39 hm] | rw [MS_40 hm] | rw [m172] | rw [if_b0] | rw [inR_f hv] | rw [cond_f])
