/-! unlike: the reference -/
/-- the text of a SHOWING, its swaps, once and ask others, and its judge another -/
def txV (t0 : Nat → Int) (k : Nat) (w o a : Int) (u : Bool) : Nat → Int := fun i => if i = 800 * k + 1 then w else if i = 800 * k + 2 then o else if i = 800 * k + 3 then a else if u then (if i = 800 * k then 1 else if i = 800 * k + 4 then 3 else if i = 800 * k + 10 then 1 else if i = 800 * k + 11 then 0 else if i = 800 * k + 12 then 1 else if i = 800 * k + 13 then 1 else if i = 800 * k + 14 then 15 else 0) else t0 i
theorem txV_1 (t0 : Nat → Int) (k : Nat) (w o a : Int) (u : Bool) : txV t0 k w o a u (800 * k + 1) = w := if_pos rfl
theorem txV_2 (t0 : Nat → Int) (k : Nat) (w o a : Int) (u : Bool) : txV t0 k w o a u (800 * k + 2) = o := by
  unfold txV; rw [if_neg (by omega), if_pos rfl]
theorem txV_3 (t0 : Nat → Int) (k : Nat) (w o a : Int) (u : Bool) : txV t0 k w o a u (800 * k + 3) = a := by
  unfold txV; rw [if_neg (by omega), if_neg (by omega), if_pos rfl]
theorem txV_o {t0 : Nat → Int} {k : Nat} {w o a : Int} {i : Nat} (h : i ≠ 800 * k + 1) (h2 : i ≠ 800 * k + 2) (h3 : i ≠ 800 * k + 3) : txV t0 k w o a false i = t0 i := by
  unfold txV; rw [if_neg h, if_neg h2, if_neg h3]; rfl
theorem jud_f (t0 : Nat → Int) (k : Nat) (w o a p q x y : Int) : jud (txV t0 k w o a false) k p q x y = jud t0 k p q x y := by
  have e : codeOf (txV t0 k w o a false) k = codeOf t0 k := by
    unfold codeOf
    rw [txV_o (by omega) (by omega) (by omega)]
    refine List.map_congr_left (fun i _ => ?_)
    rw [txV_o (by omega) (by omega) (by omega), txV_o (by omega) (by omega) (by omega)]
  unfold jud
  rw [e, txV_o (by omega) (by omega) (by omega)]
theorem jud_t (t0 : Nat → Int) (k : Nat) (w o a p q x y : Int) : jud (txV t0 k w o a true) k p q x y = decide (p ≠ q) := by
  have g : ∀ j v, j ≠ 1 → j ≠ 2 → j ≠ 3 → (if j = 0 then (1 : Int) else if j = 4 then 3 else if j = 10 then 1 else if j = 11 then 0 else if j = 12 then 1 else if j = 13 then 1 else if j = 14 then 15 else 0) = v → txV t0 k w o a true (800 * k + j) = v := fun j v h1 h2 h3 h => by
    unfold txV
    rw [if_neg (by omega), if_neg (by omega), if_neg (by omega), if_pos rfl, ← h]
    simp only [show (800 * k + j = 800 * k) = (j = 0) from propext ⟨fun w => by omega, fun w => by omega⟩, Nat.add_left_cancel_iff]
  have e : codeOf (txV t0 k w o a true) k = [(1, 0), (1, 1), (15, 0)] := by
    unfold codeOf
    rw [g 4 3 (by decide) (by decide) (by decide) rfl]
    show [(txV t0 k w o a true (800 * k + 10), txV t0 k w o a true (800 * k + 11)), (txV t0 k w o a true (800 * k + 12), txV t0 k w o a true (800 * k + 13)), (txV t0 k w o a true (800 * k + 14), txV t0 k w o a true (800 * k + 15))] = _
    rw [g 10 1 (by decide) (by decide) (by decide) rfl, g 11 0 (by decide) (by decide) (by decide) rfl, g 12 1 (by decide) (by decide) (by decide) rfl, g 13 1 (by decide) (by decide) (by decide) rfl, g 14 15 (by decide) (by decide) (by decide) rfl, g 15 0 (by decide) (by decide) (by decide) rfl]
  have z := g 0 1 (by decide) (by decide) (by decide) rfl
  rw [Nat.add_zero] at z
  unfold jud
  rw [e, z, if_neg (by decide)]
  rfl
section
variable {s : List (Nat × Nat)} {b : Nat → Nat → Int} {tx : Nat → Int}
theorem m267_119 (d : Nat) (hs : SpL s) {c : Nat → Nat → Int} (hm : MS c) {w P Q X Y : Int} (h7 : ∀ x : Int, 0 ≤ x → x < 81 → c 157 x.toNat = hsU w P Q x) (h8 : ∀ x : Int, 0 ≤ x → x < 81 → c 158 x.toNat = hsU w X Y x) {m m' r r' B cc e : Int} (e0 : 0 ≤ e) (e1 : e < 15) (o1 o3 o5 : Option AV) : ∀ (n : Nat) (x a : Int) (o13 o14 o15 o16 : Option AV), 0 ≤ x → x + n = 81 → 0 ≤ a → a + n ≤ 1000000 → ∃ p12 p13 p14 p15 p16, Rr (Cd d) 267 119 [some (vA 142), o1, some (vI m), o3, some (vI m'), o5, some (vI r), some (vI r'), some (vI B), some (vI a), some (vI cc), some (vI e), some (vI x), o13, o14, o15, o16] [] (s, c) = Rr (Cd d) 267 92 [some (vA 142), o1, some (vI m), o3, some (vI m'), o5, some (vI r), some (vI r'), some (vI B), some (vI (a + sumU (fun z => b2i (unX w P Q X Y z)) n x)), some (vI cc), some (vI (e + 1)), p12, p13, p14, p15, p16] [] (s, c)
  | 0, x, a, o13, o14, o15, o16, h0, h, a0, a1 => ⟨some (vI x), o13, o14, o15, o16, by rw [c267_119, if_neg (by omega), w32_id (by omega) (by omega)]; simp only [sumU, Int.add_zero]⟩
  | n + 1, x, a, o13, o14, o15, o16, h0, h, a0, a1 => by
    have bb := b2i_b (unX w P Q X Y x)
    obtain ⟨p12, p13, p14, p15, p16, ih⟩ := m267_119 d hs hm h7 h8 (m := m) (m' := m') (r := r) (r' := r') (B := B) (cc := cc) e0 e1 o1 o3 o5 n (x + 1) (a + b2i (unX w P Q X Y x)) (some (vI (x / 9))) (some (vI (x % 9))) (some (vI (if x % 9 / 3 = x % 9 % 3 then 0 else hsU w P Q (x / 9)))) (some (vI (if x / 9 / 3 = x / 9 % 3 then 0 else hsU w X Y (x % 9)))) (by omega) (by omega) (by omega) (by omega)
    refine ⟨p12, p13, p14, p15, p16, ?_⟩
    simp only [sumU]
    rw [← Int.add_assoc, ← ih, c267_119, if_pos (by omega), idiv_n h0 (by omega) (show (0 : Int) < 9 by decide) (by decide), irem_n h0 (by omega) (show (0 : Int) < 9 by decide) (by decide), idiv_n (show 0 ≤ x % 9 by omega) (by omega) (show (0 : Int) < 3 by decide) (by decide), irem_n (show 0 ≤ x % 9 by omega) (by omega) (show (0 : Int) < 3 by decide) (by decide)]
    have z1 : ∃ A, A = if x % 9 / 3 = x % 9 % 3 then 0 else hsU w P Q (x / 9) := ⟨_, rfl⟩
    obtain ⟨A, zA⟩ := z1
    have z2 : ∃ C, C = if x / 9 / 3 = x / 9 % 3 then 0 else hsU w X Y (x % 9) := ⟨_, rfl⟩
    obtain ⟨C, zC⟩ := z2
    have step1 : (if x % 9 / 3 = x % 9 % 3 then Rr (Cd d) 267 143 [some (vA 142), o1, some (vI m), o3, some (vI m'), o5, some (vI r), some (vI r'), some (vI B), some (vI a), some (vI cc), some (vI e), some (vI x), some (vI (x / 9)), some (vI (x % 9)), o15, o16] [vI 0] (s, c) else (gF (s, c) 12 39 142).bind fun x1 => (gA (s, c) 0 x1 (x / 9)).bind fun x2 => Rr (Cd d) 267 143 [some (vA 142), o1, some (vI m), o3, some (vI m'), o5, some (vI r), some (vI r'), some (vI B), some (vI a), some (vI cc), some (vI e), some (vI x), some (vI (x / 9)), some (vI (x % 9)), o15, o16] [vI x2] (s, c)) = Rr (Cd d) 267 143 [some (vA 142), o1, some (vI m), o3, some (vI m'), o5, some (vI r), some (vI r'), some (vI B), some (vI a), some (vI cc), some (vI e), some (vI x), some (vI (x / 9)), some (vI (x % 9)), o15, o16] [vI A] (s, c) := by
      by_cases g : x % 9 / 3 = x % 9 % 3
      · rw [if_pos g, zA, if_pos g]
      · rw [if_neg g, zA, if_neg g, fC142 hs _ (by decide), bnd_s, MS_39 hm, aC157 hs _ (show 0 ≤ x / 9 by omega) (by omega), bnd_s, h7 _ (by omega) (by omega)]
    rw [step1, c267_143, idiv_n (show 0 ≤ x / 9 by omega) (by omega) (show (0 : Int) < 3 by decide) (by decide), irem_n (show 0 ≤ x / 9 by omega) (by omega) (show (0 : Int) < 3 by decide) (by decide)]
    have step2 : (if x / 9 / 3 = x / 9 % 3 then Rr (Cd d) 267 157 [some (vA 142), o1, some (vI m), o3, some (vI m'), o5, some (vI r), some (vI r'), some (vI B), some (vI a), some (vI cc), some (vI e), some (vI x), some (vI (x / 9)), some (vI (x % 9)), some (vI A), o16] [vI 0] (s, c) else (gF (s, c) 12 40 142).bind fun x1 => (gA (s, c) 0 x1 (x % 9)).bind fun x2 => Rr (Cd d) 267 157 [some (vA 142), o1, some (vI m), o3, some (vI m'), o5, some (vI r), some (vI r'), some (vI B), some (vI a), some (vI cc), some (vI e), some (vI x), some (vI (x / 9)), some (vI (x % 9)), some (vI A), o16] [vI x2] (s, c)) = Rr (Cd d) 267 157 [some (vA 142), o1, some (vI m), o3, some (vI m'), o5, some (vI r), some (vI r'), some (vI B), some (vI a), some (vI cc), some (vI e), some (vI x), some (vI (x / 9)), some (vI (x % 9)), some (vI A), o16] [vI C] (s, c) := by
      by_cases g : x / 9 / 3 = x / 9 % 3
      · rw [if_pos g, zC, if_pos g]
      · rw [if_neg g, zC, if_neg g, fC142 hs _ (by decide), bnd_s, MS_40 hm, aC158 hs _ (show 0 ≤ x % 9 by omega) (by omega), bnd_s, h8 _ (by omega) (by omega)]
    rw [step2, c267_157]
    have eu : unX w P Q X Y x = decide (A ≠ C) := by unfold unX; rw [← zA, ← zC]
    rw [← zA, ← zC]
    rw [eu] at bb ⊢
    by_cases g : A = C
    · rw [if_pos g, c267_165, decide_eq_false (fun z => z g), b2i_f, w32_id (z := a + 0) (by omega) (by omega), w32_id (z := x + 1) (by omega) (by omega)]
    · rw [if_neg g, c267_165, decide_eq_true g, b2i_t, w32_id (z := a + 1) (by omega) (by omega), w32_id (z := x + 1) (by omega) (by omega)]
theorem hT_u {k : Nat} (m i r x : Int) : hTV tx b k m i (-1) r x = hsU (tx (800 * k + 1)) (pnt (b 143 (20 + m).toNat) r (asX b m (tx (800 * k + 3)) i)) (pnt (b 143 (20 + m).toNat) r (asY b m (tx (800 * k + 3)) i)) x := sumU_cg _ _ (fun v _ _ => by unfold hCV; exact if_pos rfl)
theorem m267_92 (d : Nat) (hs : SpL s) {k : Nat} {m m' w : Int} (hP : MPV tx b k m) (hP' : MPV tx b k m') (hw : tx (800 * k + 1) = w) (h3 : tx (800 * k + 3) = 0) {r r' B cc : Int} (hB : b 143 (24 + m).toNat = B) (hB' : b 143 (24 + m').toNat = B) (hr : isA b m r = true) (hr' : isA b m' r' = true) (r0 : 0 ≤ r ∧ r < 2187) (r1 : 0 ≤ r' ∧ r' < 2187) (cc0 : 0 ≤ cc) (cc1 : cc < B) (o1 o3 o5 : Option AV) : ∀ (n : Nat) (e a : Int) (c : Nat → Nat → Int) (o12 o13 o14 o15 o16 : Option AV), 0 ≤ e → e + n = B → 0 ≤ a → a + 18 * n ≤ 100000 → Fm [157, 158] [] b c → ∃ c' p11 p12 p13 p14 p15 p16, Fm [157, 158] [] b c' ∧ Rr (Cd (d + 5)) 267 92 [some (vA 142), o1, some (vI m), o3, some (vI m'), o5, some (vI r), some (vI r'), some (vI B), some (vI a), some (vI cc), some (vI e), o12, o13, o14, o15, o16] [] (s, c) = Rr (Cd (d + 5)) 267 87 [some (vA 142), o1, some (vI m), o3, some (vI m'), o5, some (vI r), some (vI r'), some (vI B), some (vI (a + n * (2 * w * (6 - w)))), some (vI (cc + 1)), p11, p12, p13, p14, p15, p16] [] (s, c')
  | 0, e, a, c, o12, o13, o14, o15, o16, h0, h, a0, a1, hF => by
    have kb := hP.1.2.2.2.2.1.2.2.1
    refine ⟨c, some (vI e), o12, o13, o14, o15, o16, hF, ?_⟩
    rw [c267_92, if_neg (by omega), w32_id (by omega) (by omega)]
    rw [show a + ((0 : Nat) : Int) * (2 * w * (6 - w)) = a by rw [show ((0 : Nat) : Int) = 0 from rfl, Int.zero_mul, Int.add_zero]]
  | n + 1, e, a, c, o12, o13, o14, o15, o16, h0, h, a0, a1, hF => by
    obtain ⟨hP1, e3, -⟩ := hP.mv hF (by decide)
    obtain ⟨hP1', -, -⟩ := hP'.mv hF (by decide)
    have kb := hP.1.2.2.2.2.1.2.2.1
    have hww : w = 1 ∨ w = 2 ∨ w = 3 ∨ w = 6 := hw ▸ hP.2.2.2.1
    have aN : asN (tx (800 * k + 3)) (b 143 (20 + m).toNat) (b 143 (24 + m).toNat) = B := by rw [h3, ← hB]; exact if_pos rfl
    have aN' : asN (tx (800 * k + 3)) (b 143 (20 + m').toNat) (b 143 (24 + m').toNat) = B := by rw [h3, ← hB']; exact if_pos rfl
    have z : ∃ f, f = (cc - e + B) % B := ⟨_, rfl⟩
    obtain ⟨f, zf⟩ := z
    have f0 : 0 ≤ f := zf ▸ Int.emod_nonneg _ (by omega)
    have f1 : f < B := zf ▸ Int.emod_lt_of_pos _ (by omega)
    obtain ⟨c1, x1, x2, x3⟩ := m242V d hs (sC157 hs) (Or.inl rfl) hP1 (i := e) (j := -1) (r := r) h0 (by rw [e3, aN]; omega) (by decide) (by rw [e3, aN]; omega) r0.1 r0.2
    obtain ⟨hP2, E3, -⟩ := hP1'.fo x2 (Or.inl rfl)
    obtain ⟨c2, y1, y2, y3⟩ := m242V d hs (sC158 hs) (Or.inr rfl) hP2 (i := f) (j := -1) (r := r') f0 (by rw [E3, e3, aN']; omega) (by decide) (by rw [E3, e3, aN']; omega) r1.1 r1.2
    have hm2 := (hP2.fo y2 (Or.inr rfl)).1.1.1
    have F2 : Fm [157, 158] [] b c2 := hF.tr ((x2.fm (Or.inl rfl)).tr (y2.fm (Or.inr rfl)))
    have ne := of_decide_eq_true ((allU_iff _ _ _).mp hr e h0 (by omega))
    have ne' := of_decide_eq_true ((allU_iff _ _ _).mp hr' f f0 (by omega))
    have g7 : ∀ x : Int, 0 ≤ x → x < 81 → c2 157 x.toNat = hsU w (pnt (b 143 (20 + m).toNat) r (b 143 (30 + 30 * m + 2 * e).toNat)) (pnt (b 143 (20 + m).toNat) r (b 143 (30 + 30 * m + 2 * e + 1).toNat)) x := fun x z0 z1 => by
      rw [y2 157 _ (by decide), x3 x z0 z1, hT_u, hw, h3, asX_of e3, asY_of e3, e3]; rfl
    have g8 : ∀ x : Int, 0 ≤ x → x < 81 → c2 158 x.toNat = hsU w (pnt (b 143 (20 + m').toNat) r' (b 143 (30 + 30 * m' + 2 * f).toNat)) (pnt (b 143 (20 + m').toNat) r' (b 143 (30 + 30 * m' + 2 * f + 1).toNat)) x := fun x z0 z1 => by
      rw [y3 x z0 z1, hT_u, hw, h3, asX_of (E3.trans e3), asY_of (E3.trans e3), E3, e3]; rfl
    obtain ⟨p12, p13, p14, p15, p16, q⟩ := m267_119 (d + 5) hs hm2 g7 g8 (m := m) (m' := m') (r := r) (r' := r') (B := B) (cc := cc) h0 (show e < 15 by omega) o1 o3 o5 81 0 a o13 o14 o15 o16 (by omega) (by omega) a0 (by omega)
    rw [un_ok hww (pnt_b _ _ _) (pnt_b _ _ _) ne (pnt_b _ _ _) (pnt_b _ _ _) ne'] at q
    have ub : 0 ≤ 2 * w * (6 - w) ∧ 2 * w * (6 - w) ≤ 18 := by rcases hww with e | e | e | e <;> subst e <;> decide
    obtain ⟨c', t11, t12, t13, t14, t15, t16, u1, u2'⟩ := m267_92 d hs hP hP' hw h3 hB hB' hr hr' r0 r1 cc0 cc1 o1 o3 o5 n (e + 1) (a + 2 * w * (6 - w)) c2 p12 p13 p14 p15 p16 (by omega) (by omega) (by omega) (by omega) F2
    refine ⟨c', t11, t12, t13, t14, t15, t16, u1, ?_⟩
    have ea : a + ((n + 1 : Nat) : Int) * (2 * w * (6 - w)) = a + 2 * w * (6 - w) + (n : Int) * (2 * w * (6 - w)) := by
      rw [show ((n + 1 : Nat) : Int) = (n : Int) + 1 by omega, Int.add_mul, Int.one_mul]; omega
    have hm1 := hP1.1.1
    have hmb := hP2.1.1
    have x1' : Cd (d + 5) 242 [vA 142, vI m, vI e, vI (-1), vI r, vA 157] (s, c) = some ([], (s, c1)) := x1
    have y1' : Cd (d + 5) 242 [vA 142, vI m', vI f, vI (-1), vI r', vA 158] (s, c1) = some ([], (s, c2)) := y1
    rw [ea, ← u2', ← q, c267_92, if_pos (by omega)]
    repeat (first | rw [bnd_s] | rw [tI_m] | rw [tL_m] | rw [tA_m] | rw [tV_m] | rw [fC142 hs _ (by decide)] | rw [pC142 hs _ _ (by decide)] | rw [MS_39 hm1] | rw [x1'] | rw [if_neg (show ¬ B = 0 by omega)] | rw [w32_id (z := cc - e) (by omega) (by omega)] | rw [w32_id (z := cc - e + B) (by omega) (by omega)] | rw [irem_n (show 0 ≤ cc - e + B by omega) (by omega) (show 0 < B by omega) (by omega)] | rw [← zf] | rw [MS_40 hmb] | rw [y1'])
theorem m267_87 (d : Nat) (hs : SpL s) {k : Nat} {m m' w : Int} (hP : MPV tx b k m) (hP' : MPV tx b k m') (hw : tx (800 * k + 1) = w) (h3 : tx (800 * k + 3) = 0) {r r' B : Int} (hB : b 143 (24 + m).toNat = B) (hB' : b 143 (24 + m').toNat = B) (hr : isA b m r = true) (hr' : isA b m' r' = true) (r0 : 0 ≤ r ∧ r < 2187) (r1 : 0 ≤ r' ∧ r' < 2187) (o1 o3 o5 : Option AV) : ∀ (n : Nat) (cc a : Int) (c : Nat → Nat → Int) (o11 o12 o13 o14 o15 o16 : Option AV), 0 ≤ cc → cc + n = B → 0 ≤ a → a + 270 * n ≤ 90000 → Fm [157, 158] [] b c → ∃ c', Fm [157, 158] [] b c' ∧ Rr (Cd (d + 5)) 267 87 [some (vA 142), o1, some (vI m), o3, some (vI m'), o5, some (vI r), some (vI r'), some (vI B), some (vI a), some (vI cc), o11, o12, o13, o14, o15, o16] [] (s, c) = some ([vI (a + n * (B * (2 * w * (6 - w))))], (s, c'))
  | 0, cc, a, c, o11, o12, o13, o14, o15, o16, h0, h, a0, a1, hF => by
    refine ⟨c, hF, ?_⟩
    rw [c267_87, if_neg (by omega)]
    rw [show a + ((0 : Nat) : Int) * (B * (2 * w * (6 - w))) = a by rw [show ((0 : Nat) : Int) = 0 from rfl, Int.zero_mul, Int.add_zero]]
  | n + 1, cc, a, c, o11, o12, o13, o14, o15, o16, h0, h, a0, a1, hF => by
    have kb := hP.1.2.2.2.2.1.2.2.1
    rw [hB] at kb
    have hww : w = 1 ∨ w = 2 ∨ w = 3 ∨ w = 6 := hw ▸ hP.2.2.2.1
    have ub : 0 ≤ 2 * w * (6 - w) ∧ 2 * w * (6 - w) ≤ 18 := by rcases hww with e | e | e | e <;> subst e <;> decide
    have mb := mulB (a := B) (b := 2 * w * (6 - w)) (x := 15) (y := 18) kb.1 ub.1 kb.2 ub.2
    obtain ⟨c1, p11, p12, p13, p14, p15, p16, F1, q⟩ := m267_92 d hs hP hP' hw h3 hB hB' hr hr' r0 r1 h0 (show cc < B by omega) o1 o3 o5 B.toNat 0 a c o12 o13 o14 o15 o16 (by omega) (by omega) a0 (by omega) hF
    rw [Int.toNat_of_nonneg kb.1] at q
    obtain ⟨c', F2, q2⟩ := m267_87 d hs hP hP' hw h3 hB hB' hr hr' r0 r1 o1 o3 o5 n (cc + 1) (a + B * (2 * w * (6 - w))) c1 p11 p12 p13 p14 p15 p16 (by omega) (by omega) (by omega) (by omega) F1
    refine ⟨c', F2, ?_⟩
    have ea : a + ((n + 1 : Nat) : Int) * (B * (2 * w * (6 - w))) = a + B * (2 * w * (6 - w)) + (n : Int) * (B * (2 * w * (6 - w))) := by
      rw [show ((n + 1 : Nat) : Int) = (n : Int) + 1 by omega, Int.add_mul, Int.one_mul]; omega
    rw [ea, ← q2, ← q, c267_87, if_pos (by omega)]
end
