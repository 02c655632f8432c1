/-! texts that the class holds; the class's words -/
theorem x_str : ∀ a, a < 12 → xR[3 + 2 * a]? = some (50, 2) ∧ xR[4 + 2 * a]? = some (112, (byts (stS a)).length) := by decide +kernel
def Str (s : List (Nat × Nat)) (c : Nat → Nat → Int) (o : Nat) (bs : List Int) : Prop := s[o]? = some (50, 2) ∧ s[o + 1]? = some (112, bs.length) ∧ c o 0 = ((o + 1 : Nat) : Int) ∧ c o 1 = 0 ∧ (∀ k, c (o + 1) k = bs.getD k 0) ∧ (bs.all fun b => decide (0 ≤ b) && decide (b < 128)) = true ∧ bs.length ≤ 10
theorem st_all : ∀ a, a < 12 → ((byts (stS a)).all fun b => decide (0 ≤ b) && decide (b < 128)) = true ∧ (byts (stS a)).length ≤ 10 := by decide +kernel
theorem str_a {s : List (Nat × Nat)} {c : Nat → Nat → Int} (hs : SpL s) (hx : Xt c) {a : Nat} (ha : a < 12) : Str s c (5 + 2 * a) (byts (stS a)) := by
  have h1 := sp_x hs (k := 3 + 2 * a) (by omega) (x_str a ha).1
  have h2 := sp_x hs (k := 4 + 2 * a) (by omega) (x_str a ha).2
  obtain ⟨xs, hx⟩ := hx
  rw [show 2 + (3 + 2 * a) = 5 + 2 * a by omega] at h1
  rw [show 2 + (4 + 2 * a) = 5 + 2 * a + 1 by omega] at h2
  refine ⟨h1, h2, ?_, ?_, fun k => ?_, (st_all a ha).1, (st_all a ha).2⟩
  · rw [hx _ _ (by omega), xCt_S0]; omega
  · rw [hx _ _ (by omega), xCt_S1]
  · rw [hx _ _ (by omega), show 5 + 2 * a + 1 = 6 + 2 * a by omega, xCt_V]
theorem bs_b {bs : List Int} (h : (bs.all fun b => decide (0 ≤ b) && decide (b < 128)) = true) (k : Nat) : 0 ≤ bs.getD k 0 ∧ bs.getD k 0 < 128 := by
  rw [List.getD_eq_getElem?_getD]
  cases hk : bs[k]? with
  | none => exact ⟨Int.le_refl _, by decide⟩
  | some z =>
    have := List.all_eq_true.mp h z (List.mem_of_getElem? hk)
    simp only [Bool.and_eq_true, decide_eq_true_eq] at this
    exact this
theorem i2c_l : ∀ n, n < 256 → i2c (n : Nat) = (n : Nat) := by decide +kernel
theorem i2c_i {x : Int} (h : 0 ≤ x) (h1 : x ≤ 255) : i2c x = x := by
  have := i2c_l x.toNat (by omega)
  rw [Int.toNat_of_nonneg h] at this; exact this
theorem i2b_l : ∀ n, n < 256 → i2b (n : Nat) = if n < 128 then (n : Int) else (n : Int) - 256 := by decide +kernel
theorem i2b_i {x : Int} (h : 0 ≤ x) (h1 : x ≤ 255) : i2b x = if x < 128 then x else x - 256 := by
  have := i2b_l x.toNat (by omega)
  rw [Int.toNat_of_nonneg h] at this
  rw [this]
  by_cases g : x < 128
  · rw [if_pos g, if_pos (by omega)]
  · rw [if_neg g, if_neg (by omega)]
theorem ia_l : ∀ n, n < 128 → iand (n : Nat) 255 = (n : Nat) := by decide +kernel
theorem ia_i {x : Int} (h : 0 ≤ x) (h1 : x < 128) : iand x 255 = x := by
  have := ia_l x.toNat (by omega)
  rw [Int.toNat_of_nonneg h] at this; exact this
section
variable {s : List (Nat × Nat)} {c : Nat → Nat → Int} {o : Nat} {bs : List Int}
theorem j294 (d : Nat) (h : Str s c o bs) : Cd (d + 1) 294 [vA (o : Int)] (s, c) = some ([vI 0], (s, c)) := by
  rw [c294 (hg := (gS_p s c o).trans h.1), if_neg (by decide), gF_g h.1 c (by decide), bnd_s, h.2.2.2.1, c294_6, if_pos (by decide)]
theorem j295 (d : Nat) (h : Str s c o bs) : Cd (d + 1) 295 [vA (o : Int)] (s, c) = some ([vI 1], (s, c)) := by
  rw [c295 (hg := (gS_p s c o).trans h.1), if_neg (by decide), gF_g h.1 c (by decide), bnd_s, h.2.2.2.1, if_pos rfl, c295_8, if_pos (by decide)]
theorem j290 (d : Nat) (h : Str s c o bs) : Cd (d + 2) 290 [vA (o : Int)] (s, c) = some ([vI (bs.length : Int)], (s, c)) := by
  have hl := h.2.2.2.2.2.2
  rw [c290 (hg := (gS_p s c o).trans h.1), gF_g h.1 c (by decide), bnd_s, h.2.2.1, gL_g h.2.1 (by decide) c, bnd_s, j294 d h, bnd_s, tI_m, bnd_s]
  rw [ishr_n (by omega) (by omega) (by omega) (by omega)]
  simp
theorem j297 (d : Nat) (h : Str s c o bs) {i : Int} (h0 : 0 ≤ i) (h1 : i < (bs.length : Int)) : Cd (d + 3) 297 [vA ((o + 1 : Nat) : Int), vI i] (s, c) = some ([vI (bs.getD i.toNat 0)], (s, c)) := by
  have hb := bs_b h.2.2.2.2.2.1 i.toNat
  have hi : i2c (iand (bs.getD i.toNat 0) 255) = bs.getD i.toNat 0 := by rw [ia_i hb.1 hb.2, i2c_i hb.1 (by omega)]
  rw [c297, gL_g h.2.1 (by decide) c, bnd_s, c296, c301, if_neg (by omega), if_pos h1, bnd_s, tI_m, bnd_s, bnd_s, tV_m, bnd_s, gA_x (a := 2) h.2.1 c h0 h1, bnd_s, h.2.2.2.2.1, hi, if_pos (by omega)]
theorem j291 (d : Nat) (h : Str s c o bs) {i : Int} (h0 : 0 ≤ i) (h1 : i < (bs.length : Int)) : Cd (d + 4) 291 [vA (o : Int), vI i] (s, c) = some ([vI (bs.getD i.toNat 0)], (s, c)) := by
  have hb := bs_b h.2.2.2.2.2.1 i.toNat
  rw [c291 (hg := (gS_p s c o).trans h.1), j295 _ h, bnd_s, tI_m, bnd_s, if_neg (show ¬ (1 : Int) = 0 by decide), gF_g h.1 c (by decide), bnd_s, h.2.2.1, j297 d h h0 h1, bnd_s, tI_m, bnd_s, if_pos (by omega)]
theorem j300_5 (d : Nat) (h : Str s c o bs) (o1 o2 : Option AV) (x : Int) : ∀ (r l : List Int), bs = l ++ r → ∃ v : Int, Rr (Cd d) 300 5 [some (vA ((o + 1 : Nat) : Int)), o1, o2, some (vI (bs.length : Int)), some (vI x), some (vI (l.length : Int))] [] (s, c) = some ([vI v], (s, c)) ∧ (v < 0 ↔ x ∉ r)
  | [], l, e => by
    have hlen : bs.length = l.length := by rw [e]; simp
    refine ⟨-1, ?_, by simp⟩
    rw [c300_5, if_neg (by omega)]
  | b :: r, l, e => by
    have hl := h.2.2.2.2.2.2
    have hlen : bs.length = l.length + (r.length + 1) := by rw [e]; simp
    have hg : bs.getD l.length 0 = b := by rw [e]; simp
    by_cases g : b = x
    · refine ⟨(l.length : Int), ?_, by rw [g]; simp⟩
      rw [c300_5, if_pos (by omega), gA_x (a := 2) h.2.1 c (by omega) (by omega), bnd_s, h.2.2.2.2.1, Int.toNat_natCast, hg, if_pos g]
    · obtain ⟨v, h1, h2⟩ := j300_5 d h o1 o2 x r (l ++ [b]) (by rw [e]; simp)
      refine ⟨v, ?_, by rw [h2]; simp [show ¬ x = b from fun w => g w.symm]⟩
      rw [c300_5, if_pos (by omega), gA_x (a := 2) h.2.1 c (by omega) (by omega), bnd_s, h.2.2.2.2.1, Int.toNat_natCast, hg, if_neg g, w32_id (by omega) (by omega)]
      rw [List.length_append] at h1
      exact h1
theorem j292 (d : Nat) (h : Str s c o bs) {x : Int} (h0 : 0 ≤ x) (h1 : x ≤ 255) : ∃ v : Int, Cd (d + 4) 292 [vA (o : Int), vI x] (s, c) = some ([vI v], (s, c)) ∧ (v < 0 ↔ x ∉ bs) := by
  have hl := h.2.2.2.2.2.2
  have key : ∃ v : Int, Cd (d + 2) 299 [vA ((o + 1 : Nat) : Int), vI x, vI 0, vI (bs.length : Int)] (s, c) = some ([vI v], (s, c)) ∧ (v < 0 ↔ x ∉ bs) := by
    have a2 : Cd (d + 1) 286 [vI 0, vI 0] (s, c) = some ([vI 0], (s, c)) := by rw [j286]; rfl
    have a3 : Cd (d + 1) 288 [vI (bs.length : Int), vI (bs.length : Int)] (s, c) = some ([vI (bs.length : Int)], (s, c)) := by rw [j288, if_neg (by omega)]
    have a1 : Cd (d + 1) 298 [vI x] (s, c) = some ([vI 1], (s, c)) := by rw [c298, if_neg (by omega), if_neg (by omega), c298_8, if_pos (by decide)]
    by_cases g : 0 < (bs.length : Int)
    · obtain ⟨v, e1, e2⟩ := j300_5 d h (some (vI x)) (some (vI 0)) (i2b x) bs [] rfl
      refine ⟨v, ?_, ?_⟩
      · rw [c299, a1, bnd_s, tI_m, bnd_s, if_neg (show ¬ (1 : Int) = 0 by decide), a2, bnd_s, tI_m, bnd_s, gL_g h.2.1 (by decide) c, bnd_s, a3, bnd_s, tI_m, bnd_s, if_pos g, c300]
        have e1' : Rr (Cd d) 300 5 [some (vA ((o + 1 : Nat) : Int)), some (vI x), some (vI 0), some (vI (bs.length : Int)), some (vI (i2b x)), some (vI 0)] [] (s, c) = some ([vI v], (s, c)) := e1
        rw [e1', bnd_s, tI_m, bnd_s]
      · rw [e2, i2b_i h0 h1]
        by_cases w : x < 128
        · rw [if_pos w]
        · rw [if_neg w]
          have hm : ∀ b ∈ bs, 0 ≤ b ∧ b < 128 := fun b hb => by
            have := List.all_eq_true.mp h.2.2.2.2.2.1 b hb
            simpa using this
          constructor
          · intro _ q; have := hm x q; omega
          · intro _ q; have := hm _ q; omega
    · refine ⟨-1, ?_, ?_⟩
      · rw [c299, a1, bnd_s, tI_m, bnd_s, if_neg (show ¬ (1 : Int) = 0 by decide), a2, bnd_s, tI_m, bnd_s, gL_g h.2.1 (by decide) c, bnd_s, a3, bnd_s, tI_m, bnd_s, if_neg g]
      · have : bs = [] := List.length_eq_zero_iff.mp (by omega)
        rw [this]; simp
  obtain ⟨v, e1, e2⟩ := key
  refine ⟨v, ?_, e2⟩
  rw [c292 (hg := (gS_p s c o).trans h.1), c293 (hg := (gS_p s c o).trans h.1), j295 _ h, bnd_s, tI_m, bnd_s, if_neg (show ¬ (1 : Int) = 0 by decide), gF_g h.1 c (by decide), bnd_s, h.2.2.1, j290 _ h, bnd_s, tI_m, bnd_s, e1]
  repeat (first | rw [bnd_s] | rw [tI_m])
end
def eqB (T : Int → Int) : List Int → Int → Bool
  | [], _ => true
  | b :: r, p => decide (T p = b) && eqB T r (p + 1)
/-- the class's tape -/
def TpC (T : Int → Int) (n : Int) (c : Nat → Nat → Int) : Prop := (c 122 0 = 123 ∧ c 122 5 = n ∧ 0 ≤ n ∧ n ≤ 300) ∧ ∀ i, 0 ≤ i → i < n → c 123 i.toNat = T i ∧ 0 ≤ T i ∧ T i ≤ 255
theorem k87_l (d : Nat) {s : List (Nat × Nat)} {c : Nat → Nat → Int} {o : Nat} {bs : List Int} {T : Int → Int} {n p : Int} (hs : SpL s) (h : Str s c o bs) (hT : TpC T n c) (h0 : 0 ≤ p) (h1 : p + (bs.length : Int) ≤ n) (o2 : Option AV) : ∀ (r l : List Int), bs = l ++ r → Rr (Cd (d + 4)) 87 10 [some (vA 122), some (vI p), o2, some (vA (o : Int)), some (vI (l.length : Int))] [] (s, c) = some ([vI (b2i (eqB T r (p + (l.length : Int))))], (s, c))
  | [], l, e => by
    have hlen : bs.length = l.length := by rw [e]; simp
    rw [c87_10, j290 _ h, bnd_s, tI_m, bnd_s, if_neg (show ¬ (l.length : Int) < (bs.length : Int) by omega)]
    rfl
  | b :: r, l, e => by
    have hn := hT.1
    have hl := h.2.2.2.2.2.2
    have hlen : bs.length = l.length + (r.length + 1) := by rw [e]; simp
    have hg : bs.getD l.length 0 = b := by rw [e]; simp
    have ih := k87_l d hs h hT h0 h1 o2 r (l ++ [b]) (by rw [e]; simp)
    have ht := (hT.2 (p + (l.length : Int)) (by omega) (by omega)).1
    rw [c87_10, j290 _ h, bnd_s, tI_m, bnd_s, if_pos (by omega), fC122 hs _ (by decide), bnd_s, hn.1, w32_id (by omega) (by omega), aC123 hs _ (by omega) (by omega), bnd_s, j291 d h (by omega) (by omega), bnd_s, tI_m, bnd_s, Int.toNat_natCast, hg, ht]
    by_cases g : T (p + (l.length : Int)) = b
    · rw [if_pos g, w32_id (by omega) (by omega)]
      rw [List.length_append] at ih
      have e2 : eqB T (b :: r) (p + (l.length : Int)) = eqB T r (p + ((l.length + [b].length : Nat) : Int)) := by
        rw [eqB, decide_eq_true g, Bool.true_and]
        congr 1
        simp only [List.length_cons, List.length_nil]; omega
      rw [e2]; exact ih
    · rw [if_neg g, eqB, decide_eq_false g, Bool.false_and]; rfl
theorem k87 (d : Nat) {s : List (Nat × Nat)} {c : Nat → Nat → Int} {o : Nat} {bs : List Int} {T : Int → Int} {n p e : Int} (hs : SpL s) (h : Str s c o bs) (hT : TpC T n c) (h0 : 0 ≤ p) (h1 : p ≤ e) (h2 : e ≤ n) : Cd (d + 5) 87 [vA 122, vI p, vI e, vA (o : Int)] (s, c) = some ([vI (b2i (decide (e - p = (bs.length : Int)) && eqB T bs p))], (s, c)) := by
  have hn := hT.1
  rw [c87 (hg := gC122 hs c), j290 _ h, bnd_s, tI_m, bnd_s, w32_id (by omega) (by omega)]
  by_cases g : e - p = (bs.length : Int)
  · rw [if_pos g, decide_eq_true g, Bool.true_and]
    have := k87_l d hs h hT h0 (by omega) (some (vI e)) bs [] rfl
    rw [show p + (([] : List Int).length : Int) = p by simp] at this
    exact this
  · rw [if_neg g, decide_eq_false g, Bool.false_and]; rfl
theorem cl88 (d : Nat) (x : Int) (hp : HP) : Cd (d + 1) 88 [vI x] hp = some ([vI (b2i (isLt x))], hp) := by
  have a1 : ∀ o0, Rr (Cd d) 88 12 [o0] [] hp = some ([vI 1], hp) := fun o0 => by rw [c88_12, c88_15, if_pos (by decide)]
  have a0 : ∀ o0, Rr (Cd d) 88 14 [o0] [] hp = some ([vI 0], hp) := fun o0 => by rw [c88_14, c88_15, if_pos (by decide)]
  have a6 : Rr (Cd d) 88 6 [some (vI x)] [] hp = some ([vI (b2i (decide (65 ≤ x ∧ x ≤ 90)))], hp) := by
    rw [c88_6, a1, a0]
    by_cases g : x < 65
    · rw [if_pos g, decide_eq_false (by omega)]; rfl
    · rw [if_neg g]
      by_cases g2 : 90 < x
      · rw [if_pos g2, decide_eq_false (by omega)]; rfl
      · rw [if_neg g2, decide_eq_true (by omega)]; rfl
  rw [c88, a6, a1]
  have e : isLt x = decide ((97 ≤ x ∧ x ≤ 122) ∨ (65 ≤ x ∧ x ≤ 90)) := rfl
  by_cases g : x < 97
  · rw [if_pos g, e]
    congr 5
    exact decide_eq_decide.mpr (by omega)
  · rw [if_neg g]
    by_cases g2 : 122 < x
    · rw [if_pos g2, e]
      congr 5
      exact decide_eq_decide.mpr (by omega)
    · rw [if_neg g2, e, decide_eq_true (by omega)]; rfl
theorem cl89 (d : Nat) (x : Int) (hp : HP) : Cd (d + 1) 89 [vI x] hp = some ([vI (b2i (isD x))], hp) := by
  have e : isD x = decide (48 ≤ x ∧ x ≤ 57) := rfl
  rw [c89]
  by_cases g : x < 48
  · rw [if_pos g, c89_8, c89_9, if_pos (by decide), e, decide_eq_false (by omega)]; rfl
  · rw [if_neg g]
    by_cases g2 : 57 < x
    · rw [if_pos g2, c89_8, c89_9, if_pos (by decide), e, decide_eq_false (by omega)]; rfl
    · rw [if_neg g2, c89_9, if_pos (by decide), e, decide_eq_true (by omega)]; rfl
theorem pk_1 (T : Int → Int) (p : Int) : pk T p 1 = T p := by
  show 0 * 256 + T (p + 0) = T p
  rw [Int.add_zero]; omega
theorem pk_n (T : Int → Int) (p : Int) (l : Nat) : pk T p (l + 1) = pk T p l * 256 + T (p + (l : Int)) := rfl
theorem eqB_c (T : Int → Int) (b : Int) (r : List Int) (p : Int) : eqB T (b :: r) p = true ↔ T p = b ∧ eqB T r (p + 1) = true := by
  rw [eqB, Bool.and_eq_true, decide_eq_true_iff]
theorem eqB_0 (T : Int → Int) (p : Int) : eqB T [] p = true ↔ True := by rw [eqB]; simp
/-- seven letters -/
theorem pk_e (T : Int → Int) (p : Int) : ∃ b0 b1 b2 b3 b4 b5 b6 : Int, (T p = b0 ∧ T (p + 1) = b1 ∧ T (p + 1 + 1) = b2 ∧ T (p + 1 + 1 + 1) = b3 ∧ T (p + 1 + 1 + 1 + 1) = b4 ∧ T (p + 1 + 1 + 1 + 1 + 1) = b5 ∧ T (p + 1 + 1 + 1 + 1 + 1 + 1) = b6) ∧ pk T p 1 = b0 ∧ pk T p 2 = b0 * 256 + b1 ∧ pk T p 3 = b0 * 65536 + b1 * 256 + b2 ∧ pk T p 4 = b0 * 16777216 + b1 * 65536 + b2 * 256 + b3 ∧ pk T p 5 = b0 * 4294967296 + b1 * 16777216 + b2 * 65536 + b3 * 256 + b4 ∧ pk T p 6 = b0 * 1099511627776 + b1 * 4294967296 + b2 * 16777216 + b3 * 65536 + b4 * 256 + b5 ∧ pk T p 7 = b0 * 281474976710656 + b1 * 1099511627776 + b2 * 4294967296 + b3 * 16777216 + b4 * 65536 + b5 * 256 + b6 := by
  have q1 := pk_1 T p
  have q2 : pk T p 2 = pk T p 1 * 256 + T (p + ((1 : Nat) : Int)) := pk_n T p 1
  have q3 : pk T p 3 = pk T p 2 * 256 + T (p + ((2 : Nat) : Int)) := pk_n T p 2
  have q4 : pk T p 4 = pk T p 3 * 256 + T (p + ((3 : Nat) : Int)) := pk_n T p 3
  have q5 : pk T p 5 = pk T p 4 * 256 + T (p + ((4 : Nat) : Int)) := pk_n T p 4
  have q6 : pk T p 6 = pk T p 5 * 256 + T (p + ((5 : Nat) : Int)) := pk_n T p 5
  have q7 : pk T p 7 = pk T p 6 * 256 + T (p + ((6 : Nat) : Int)) := pk_n T p 6
  rw [show p + ((1 : Nat) : Int) = p + 1 by omega] at q2
  rw [show p + ((2 : Nat) : Int) = p + 1 + 1 by omega] at q3
  rw [show p + ((3 : Nat) : Int) = p + 1 + 1 + 1 by omega] at q4
  rw [show p + ((4 : Nat) : Int) = p + 1 + 1 + 1 + 1 by omega] at q5
  rw [show p + ((5 : Nat) : Int) = p + 1 + 1 + 1 + 1 + 1 by omega] at q6
  rw [show p + ((6 : Nat) : Int) = p + 1 + 1 + 1 + 1 + 1 + 1 by omega] at q7
  refine ⟨_, _, _, _, _, _, _, ⟨rfl, rfl, rfl, rfl, rfl, rfl, rfl⟩, q1, ?_, ?_, ?_, ?_, ?_, ?_⟩ <;> omega
/-- letters of a word -/
def Lt (T : Int → Int) (p e : Int) : Prop := ∀ q, p ≤ q → q < e → 65 ≤ T q ∧ T q ≤ 122
theorem sp_9 {T : Int → Int} {n p : Int} (h0 : p + 1 ≤ fe isLt T n p) (hl : Lt T p (fe isLt T n p)) : (decide (fe isLt T n p - p = 2) && eqB T [111, 114] p) = true ↔ wd T n p = 28530 := by
  obtain ⟨b0, b1, b2, b3, b4, b5, b6, ⟨a0, a1, a2, a3, a4, a5, a6⟩, q1, q2, q3, q4, q5, q6, q7⟩ := pk_e T p
  have l0 := hl p (by omega) (by omega)
  have l1 := hl (p + 1) (by omega)
  have l2 := hl (p + 1 + 1) (by omega)
  have l3 := hl (p + 1 + 1 + 1) (by omega)
  have l4 := hl (p + 1 + 1 + 1 + 1) (by omega)
  have l5 := hl (p + 1 + 1 + 1 + 1 + 1) (by omega)
  have l6 := hl (p + 1 + 1 + 1 + 1 + 1 + 1) (by omega)
  rw [a0] at l0
  rw [a1] at l1
  rw [a2] at l2
  rw [a3] at l3
  rw [a4] at l4
  rw [a5] at l5
  rw [a6] at l6
  rw [Bool.and_eq_true, decide_eq_true_iff]
  repeat rw [eqB_c]
  rw [eqB_0]
  simp only [and_true]
  rw [a0, a1]
  unfold wd
  generalize hL : fe isLt T n p - p = L
  by_cases h8 : 7 < L
  · rw [if_pos h8]; clear l1 l2 l3 l4 l5 l6; omega
  · rw [if_neg h8]
    have : L = 1 ∨ L = 2 ∨ L = 3 ∨ L = 4 ∨ L = 5 ∨ L = 6 ∨ L = 7 := by clear l1 l2 l3 l4 l5 l6; omega
    rcases this with e | this
    · rw [e, show (1 : Int).toNat = 1 from rfl, q1]; clear l1 l2 l3 l4 l5 l6; omega
    rcases this with e | this
    · rw [e, show (2 : Int).toNat = 2 from rfl, q2]; have m1 := l1 (by clear l1 l2 l3 l4 l5 l6; omega); clear l1 l2 l3 l4 l5 l6; omega
    rcases this with e | this
    · rw [e, show (3 : Int).toNat = 3 from rfl, q3]; have m1 := l1 (by clear l1 l2 l3 l4 l5 l6; omega); have m2 := l2 (by clear l1 l2 l3 l4 l5 l6; omega); clear l1 l2 l3 l4 l5 l6; omega
    rcases this with e | this
    · rw [e, show (4 : Int).toNat = 4 from rfl, q4]; have m1 := l1 (by clear l1 l2 l3 l4 l5 l6; omega); have m2 := l2 (by clear l1 l2 l3 l4 l5 l6; omega); have m3 := l3 (by clear l1 l2 l3 l4 l5 l6; omega); clear l1 l2 l3 l4 l5 l6; omega
    rcases this with e | this
    · rw [e, show (5 : Int).toNat = 5 from rfl, q5]; have m1 := l1 (by clear l1 l2 l3 l4 l5 l6; omega); have m2 := l2 (by clear l1 l2 l3 l4 l5 l6; omega); have m3 := l3 (by clear l1 l2 l3 l4 l5 l6; omega); have m4 := l4 (by clear l1 l2 l3 l4 l5 l6; omega); clear l1 l2 l3 l4 l5 l6; omega
    rcases this with e | this
    · rw [e, show (6 : Int).toNat = 6 from rfl, q6]; have m1 := l1 (by clear l1 l2 l3 l4 l5 l6; omega); have m2 := l2 (by clear l1 l2 l3 l4 l5 l6; omega); have m3 := l3 (by clear l1 l2 l3 l4 l5 l6; omega); have m4 := l4 (by clear l1 l2 l3 l4 l5 l6; omega); have m5 := l5 (by clear l1 l2 l3 l4 l5 l6; omega); clear l1 l2 l3 l4 l5 l6; omega
    rw [this, show (7 : Int).toNat = 7 from rfl, q7]; have m1 := l1 (by clear l1 l2 l3 l4 l5 l6; omega); have m2 := l2 (by clear l1 l2 l3 l4 l5 l6; omega); have m3 := l3 (by clear l1 l2 l3 l4 l5 l6; omega); have m4 := l4 (by clear l1 l2 l3 l4 l5 l6; omega); have m5 := l5 (by clear l1 l2 l3 l4 l5 l6; omega); have m6 := l6 (by clear l1 l2 l3 l4 l5 l6; omega); clear l1 l2 l3 l4 l5 l6; omega
theorem sp_8 {T : Int → Int} {n p : Int} (h0 : p + 1 ≤ fe isLt T n p) (hl : Lt T p (fe isLt T n p)) : (decide (fe isLt T n p - p = 3) && eqB T [97, 110, 100] p) = true ↔ wd T n p = 6385252 := by
  obtain ⟨b0, b1, b2, b3, b4, b5, b6, ⟨a0, a1, a2, a3, a4, a5, a6⟩, q1, q2, q3, q4, q5, q6, q7⟩ := pk_e T p
  have l0 := hl p (by omega) (by omega)
  have l1 := hl (p + 1) (by omega)
  have l2 := hl (p + 1 + 1) (by omega)
  have l3 := hl (p + 1 + 1 + 1) (by omega)
  have l4 := hl (p + 1 + 1 + 1 + 1) (by omega)
  have l5 := hl (p + 1 + 1 + 1 + 1 + 1) (by omega)
  have l6 := hl (p + 1 + 1 + 1 + 1 + 1 + 1) (by omega)
  rw [a0] at l0
  rw [a1] at l1
  rw [a2] at l2
  rw [a3] at l3
  rw [a4] at l4
  rw [a5] at l5
  rw [a6] at l6
  rw [Bool.and_eq_true, decide_eq_true_iff]
  repeat rw [eqB_c]
  rw [eqB_0]
  simp only [and_true]
  rw [a0, a1, a2]
  unfold wd
  generalize hL : fe isLt T n p - p = L
  by_cases h8 : 7 < L
  · rw [if_pos h8]; clear l1 l2 l3 l4 l5 l6; omega
  · rw [if_neg h8]
    have : L = 1 ∨ L = 2 ∨ L = 3 ∨ L = 4 ∨ L = 5 ∨ L = 6 ∨ L = 7 := by clear l1 l2 l3 l4 l5 l6; omega
    rcases this with e | this
    · rw [e, show (1 : Int).toNat = 1 from rfl, q1]; clear l1 l2 l3 l4 l5 l6; omega
    rcases this with e | this
    · rw [e, show (2 : Int).toNat = 2 from rfl, q2]; have m1 := l1 (by clear l1 l2 l3 l4 l5 l6; omega); clear l1 l2 l3 l4 l5 l6; omega
    rcases this with e | this
    · rw [e, show (3 : Int).toNat = 3 from rfl, q3]; have m1 := l1 (by clear l1 l2 l3 l4 l5 l6; omega); have m2 := l2 (by clear l1 l2 l3 l4 l5 l6; omega); clear l1 l2 l3 l4 l5 l6; omega
    rcases this with e | this
    · rw [e, show (4 : Int).toNat = 4 from rfl, q4]; have m1 := l1 (by clear l1 l2 l3 l4 l5 l6; omega); have m2 := l2 (by clear l1 l2 l3 l4 l5 l6; omega); have m3 := l3 (by clear l1 l2 l3 l4 l5 l6; omega); clear l1 l2 l3 l4 l5 l6; omega
    rcases this with e | this
    · rw [e, show (5 : Int).toNat = 5 from rfl, q5]; have m1 := l1 (by clear l1 l2 l3 l4 l5 l6; omega); have m2 := l2 (by clear l1 l2 l3 l4 l5 l6; omega); have m3 := l3 (by clear l1 l2 l3 l4 l5 l6; omega); have m4 := l4 (by clear l1 l2 l3 l4 l5 l6; omega); clear l1 l2 l3 l4 l5 l6; omega
    rcases this with e | this
    · rw [e, show (6 : Int).toNat = 6 from rfl, q6]; have m1 := l1 (by clear l1 l2 l3 l4 l5 l6; omega); have m2 := l2 (by clear l1 l2 l3 l4 l5 l6; omega); have m3 := l3 (by clear l1 l2 l3 l4 l5 l6; omega); have m4 := l4 (by clear l1 l2 l3 l4 l5 l6; omega); have m5 := l5 (by clear l1 l2 l3 l4 l5 l6; omega); clear l1 l2 l3 l4 l5 l6; omega
    rw [this, show (7 : Int).toNat = 7 from rfl, q7]; have m1 := l1 (by clear l1 l2 l3 l4 l5 l6; omega); have m2 := l2 (by clear l1 l2 l3 l4 l5 l6; omega); have m3 := l3 (by clear l1 l2 l3 l4 l5 l6; omega); have m4 := l4 (by clear l1 l2 l3 l4 l5 l6; omega); have m5 := l5 (by clear l1 l2 l3 l4 l5 l6; omega); have m6 := l6 (by clear l1 l2 l3 l4 l5 l6; omega); clear l1 l2 l3 l4 l5 l6; omega
theorem sp_7 {T : Int → Int} {n p : Int} (h0 : p + 1 ≤ fe isLt T n p) (hl : Lt T p (fe isLt T n p)) : (decide (fe isLt T n p - p = 3) && eqB T [110, 111, 116] p) = true ↔ wd T n p = 7237492 := by
  obtain ⟨b0, b1, b2, b3, b4, b5, b6, ⟨a0, a1, a2, a3, a4, a5, a6⟩, q1, q2, q3, q4, q5, q6, q7⟩ := pk_e T p
  have l0 := hl p (by omega) (by omega)
  have l1 := hl (p + 1) (by omega)
  have l2 := hl (p + 1 + 1) (by omega)
  have l3 := hl (p + 1 + 1 + 1) (by omega)
  have l4 := hl (p + 1 + 1 + 1 + 1) (by omega)
  have l5 := hl (p + 1 + 1 + 1 + 1 + 1) (by omega)
  have l6 := hl (p + 1 + 1 + 1 + 1 + 1 + 1) (by omega)
  rw [a0] at l0
  rw [a1] at l1
  rw [a2] at l2
  rw [a3] at l3
  rw [a4] at l4
  rw [a5] at l5
  rw [a6] at l6
  rw [Bool.and_eq_true, decide_eq_true_iff]
  repeat rw [eqB_c]
  rw [eqB_0]
  simp only [and_true]
  rw [a0, a1, a2]
  unfold wd
  generalize hL : fe isLt T n p - p = L
  by_cases h8 : 7 < L
  · rw [if_pos h8]; clear l1 l2 l3 l4 l5 l6; omega
  · rw [if_neg h8]
    have : L = 1 ∨ L = 2 ∨ L = 3 ∨ L = 4 ∨ L = 5 ∨ L = 6 ∨ L = 7 := by clear l1 l2 l3 l4 l5 l6; omega
    rcases this with e | this
    · rw [e, show (1 : Int).toNat = 1 from rfl, q1]; clear l1 l2 l3 l4 l5 l6; omega
    rcases this with e | this
    · rw [e, show (2 : Int).toNat = 2 from rfl, q2]; have m1 := l1 (by clear l1 l2 l3 l4 l5 l6; omega); clear l1 l2 l3 l4 l5 l6; omega
    rcases this with e | this
    · rw [e, show (3 : Int).toNat = 3 from rfl, q3]; have m1 := l1 (by clear l1 l2 l3 l4 l5 l6; omega); have m2 := l2 (by clear l1 l2 l3 l4 l5 l6; omega); clear l1 l2 l3 l4 l5 l6; omega
    rcases this with e | this
    · rw [e, show (4 : Int).toNat = 4 from rfl, q4]; have m1 := l1 (by clear l1 l2 l3 l4 l5 l6; omega); have m2 := l2 (by clear l1 l2 l3 l4 l5 l6; omega); have m3 := l3 (by clear l1 l2 l3 l4 l5 l6; omega); clear l1 l2 l3 l4 l5 l6; omega
    rcases this with e | this
    · rw [e, show (5 : Int).toNat = 5 from rfl, q5]; have m1 := l1 (by clear l1 l2 l3 l4 l5 l6; omega); have m2 := l2 (by clear l1 l2 l3 l4 l5 l6; omega); have m3 := l3 (by clear l1 l2 l3 l4 l5 l6; omega); have m4 := l4 (by clear l1 l2 l3 l4 l5 l6; omega); clear l1 l2 l3 l4 l5 l6; omega
    rcases this with e | this
    · rw [e, show (6 : Int).toNat = 6 from rfl, q6]; have m1 := l1 (by clear l1 l2 l3 l4 l5 l6; omega); have m2 := l2 (by clear l1 l2 l3 l4 l5 l6; omega); have m3 := l3 (by clear l1 l2 l3 l4 l5 l6; omega); have m4 := l4 (by clear l1 l2 l3 l4 l5 l6; omega); have m5 := l5 (by clear l1 l2 l3 l4 l5 l6; omega); clear l1 l2 l3 l4 l5 l6; omega
    rw [this, show (7 : Int).toNat = 7 from rfl, q7]; have m1 := l1 (by clear l1 l2 l3 l4 l5 l6; omega); have m2 := l2 (by clear l1 l2 l3 l4 l5 l6; omega); have m3 := l3 (by clear l1 l2 l3 l4 l5 l6; omega); have m4 := l4 (by clear l1 l2 l3 l4 l5 l6; omega); have m5 := l5 (by clear l1 l2 l3 l4 l5 l6; omega); have m6 := l6 (by clear l1 l2 l3 l4 l5 l6; omega); clear l1 l2 l3 l4 l5 l6; omega
theorem sp_10 {T : Int → Int} {n p : Int} (h0 : p + 1 ≤ fe isLt T n p) (hl : Lt T p (fe isLt T n p)) : (decide (fe isLt T n p - p = 4) && eqB T [115, 119, 97, 112] p) = true ↔ wd T n p = 1937203568 := by
  obtain ⟨b0, b1, b2, b3, b4, b5, b6, ⟨a0, a1, a2, a3, a4, a5, a6⟩, q1, q2, q3, q4, q5, q6, q7⟩ := pk_e T p
  have l0 := hl p (by omega) (by omega)
  have l1 := hl (p + 1) (by omega)
  have l2 := hl (p + 1 + 1) (by omega)
  have l3 := hl (p + 1 + 1 + 1) (by omega)
  have l4 := hl (p + 1 + 1 + 1 + 1) (by omega)
  have l5 := hl (p + 1 + 1 + 1 + 1 + 1) (by omega)
  have l6 := hl (p + 1 + 1 + 1 + 1 + 1 + 1) (by omega)
  rw [a0] at l0
  rw [a1] at l1
  rw [a2] at l2
  rw [a3] at l3
  rw [a4] at l4
  rw [a5] at l5
  rw [a6] at l6
  rw [Bool.and_eq_true, decide_eq_true_iff]
  repeat rw [eqB_c]
  rw [eqB_0]
  simp only [and_true]
  rw [a0, a1, a2, a3]
  unfold wd
  generalize hL : fe isLt T n p - p = L
  by_cases h8 : 7 < L
  · rw [if_pos h8]; clear l1 l2 l3 l4 l5 l6; omega
  · rw [if_neg h8]
    have : L = 1 ∨ L = 2 ∨ L = 3 ∨ L = 4 ∨ L = 5 ∨ L = 6 ∨ L = 7 := by clear l1 l2 l3 l4 l5 l6; omega
    rcases this with e | this
    · rw [e, show (1 : Int).toNat = 1 from rfl, q1]; clear l1 l2 l3 l4 l5 l6; omega
    rcases this with e | this
    · rw [e, show (2 : Int).toNat = 2 from rfl, q2]; have m1 := l1 (by clear l1 l2 l3 l4 l5 l6; omega); clear l1 l2 l3 l4 l5 l6; omega
    rcases this with e | this
    · rw [e, show (3 : Int).toNat = 3 from rfl, q3]; have m1 := l1 (by clear l1 l2 l3 l4 l5 l6; omega); have m2 := l2 (by clear l1 l2 l3 l4 l5 l6; omega); clear l1 l2 l3 l4 l5 l6; omega
    rcases this with e | this
    · rw [e, show (4 : Int).toNat = 4 from rfl, q4]; have m1 := l1 (by clear l1 l2 l3 l4 l5 l6; omega); have m2 := l2 (by clear l1 l2 l3 l4 l5 l6; omega); have m3 := l3 (by clear l1 l2 l3 l4 l5 l6; omega); clear l1 l2 l3 l4 l5 l6; omega
    rcases this with e | this
    · rw [e, show (5 : Int).toNat = 5 from rfl, q5]; have m1 := l1 (by clear l1 l2 l3 l4 l5 l6; omega); have m2 := l2 (by clear l1 l2 l3 l4 l5 l6; omega); have m3 := l3 (by clear l1 l2 l3 l4 l5 l6; omega); have m4 := l4 (by clear l1 l2 l3 l4 l5 l6; omega); clear l1 l2 l3 l4 l5 l6; omega
    rcases this with e | this
    · rw [e, show (6 : Int).toNat = 6 from rfl, q6]; have m1 := l1 (by clear l1 l2 l3 l4 l5 l6; omega); have m2 := l2 (by clear l1 l2 l3 l4 l5 l6; omega); have m3 := l3 (by clear l1 l2 l3 l4 l5 l6; omega); have m4 := l4 (by clear l1 l2 l3 l4 l5 l6; omega); have m5 := l5 (by clear l1 l2 l3 l4 l5 l6; omega); clear l1 l2 l3 l4 l5 l6; omega
    rw [this, show (7 : Int).toNat = 7 from rfl, q7]; have m1 := l1 (by clear l1 l2 l3 l4 l5 l6; omega); have m2 := l2 (by clear l1 l2 l3 l4 l5 l6; omega); have m3 := l3 (by clear l1 l2 l3 l4 l5 l6; omega); have m4 := l4 (by clear l1 l2 l3 l4 l5 l6; omega); have m5 := l5 (by clear l1 l2 l3 l4 l5 l6; omega); have m6 := l6 (by clear l1 l2 l3 l4 l5 l6; omega); clear l1 l2 l3 l4 l5 l6; omega
theorem sp_11 {T : Int → Int} {n p : Int} (h0 : p + 1 ≤ fe isLt T n p) (hl : Lt T p (fe isLt T n p)) : (decide (fe isLt T n p - p = 4) && eqB T [111, 110, 99, 101] p) = true ↔ wd T n p = 1869505381 := by
  obtain ⟨b0, b1, b2, b3, b4, b5, b6, ⟨a0, a1, a2, a3, a4, a5, a6⟩, q1, q2, q3, q4, q5, q6, q7⟩ := pk_e T p
  have l0 := hl p (by omega) (by omega)
  have l1 := hl (p + 1) (by omega)
  have l2 := hl (p + 1 + 1) (by omega)
  have l3 := hl (p + 1 + 1 + 1) (by omega)
  have l4 := hl (p + 1 + 1 + 1 + 1) (by omega)
  have l5 := hl (p + 1 + 1 + 1 + 1 + 1) (by omega)
  have l6 := hl (p + 1 + 1 + 1 + 1 + 1 + 1) (by omega)
  rw [a0] at l0
  rw [a1] at l1
  rw [a2] at l2
  rw [a3] at l3
  rw [a4] at l4
  rw [a5] at l5
  rw [a6] at l6
  rw [Bool.and_eq_true, decide_eq_true_iff]
  repeat rw [eqB_c]
  rw [eqB_0]
  simp only [and_true]
  rw [a0, a1, a2, a3]
  unfold wd
  generalize hL : fe isLt T n p - p = L
  by_cases h8 : 7 < L
  · rw [if_pos h8]; clear l1 l2 l3 l4 l5 l6; omega
  · rw [if_neg h8]
    have : L = 1 ∨ L = 2 ∨ L = 3 ∨ L = 4 ∨ L = 5 ∨ L = 6 ∨ L = 7 := by clear l1 l2 l3 l4 l5 l6; omega
    rcases this with e | this
    · rw [e, show (1 : Int).toNat = 1 from rfl, q1]; clear l1 l2 l3 l4 l5 l6; omega
    rcases this with e | this
    · rw [e, show (2 : Int).toNat = 2 from rfl, q2]; have m1 := l1 (by clear l1 l2 l3 l4 l5 l6; omega); clear l1 l2 l3 l4 l5 l6; omega
    rcases this with e | this
    · rw [e, show (3 : Int).toNat = 3 from rfl, q3]; have m1 := l1 (by clear l1 l2 l3 l4 l5 l6; omega); have m2 := l2 (by clear l1 l2 l3 l4 l5 l6; omega); clear l1 l2 l3 l4 l5 l6; omega
    rcases this with e | this
    · rw [e, show (4 : Int).toNat = 4 from rfl, q4]; have m1 := l1 (by clear l1 l2 l3 l4 l5 l6; omega); have m2 := l2 (by clear l1 l2 l3 l4 l5 l6; omega); have m3 := l3 (by clear l1 l2 l3 l4 l5 l6; omega); clear l1 l2 l3 l4 l5 l6; omega
    rcases this with e | this
    · rw [e, show (5 : Int).toNat = 5 from rfl, q5]; have m1 := l1 (by clear l1 l2 l3 l4 l5 l6; omega); have m2 := l2 (by clear l1 l2 l3 l4 l5 l6; omega); have m3 := l3 (by clear l1 l2 l3 l4 l5 l6; omega); have m4 := l4 (by clear l1 l2 l3 l4 l5 l6; omega); clear l1 l2 l3 l4 l5 l6; omega
    rcases this with e | this
    · rw [e, show (6 : Int).toNat = 6 from rfl, q6]; have m1 := l1 (by clear l1 l2 l3 l4 l5 l6; omega); have m2 := l2 (by clear l1 l2 l3 l4 l5 l6; omega); have m3 := l3 (by clear l1 l2 l3 l4 l5 l6; omega); have m4 := l4 (by clear l1 l2 l3 l4 l5 l6; omega); have m5 := l5 (by clear l1 l2 l3 l4 l5 l6; omega); clear l1 l2 l3 l4 l5 l6; omega
    rw [this, show (7 : Int).toNat = 7 from rfl, q7]; have m1 := l1 (by clear l1 l2 l3 l4 l5 l6; omega); have m2 := l2 (by clear l1 l2 l3 l4 l5 l6; omega); have m3 := l3 (by clear l1 l2 l3 l4 l5 l6; omega); have m4 := l4 (by clear l1 l2 l3 l4 l5 l6; omega); have m5 := l5 (by clear l1 l2 l3 l4 l5 l6; omega); have m6 := l6 (by clear l1 l2 l3 l4 l5 l6; omega); clear l1 l2 l3 l4 l5 l6; omega
theorem sp_12 {T : Int → Int} {n p : Int} (h0 : p + 1 ≤ fe isLt T n p) (hl : Lt T p (fe isLt T n p)) : (decide (fe isLt T n p - p = 3) && eqB T [97, 115, 107] p) = true ↔ wd T n p = 6386539 := by
  obtain ⟨b0, b1, b2, b3, b4, b5, b6, ⟨a0, a1, a2, a3, a4, a5, a6⟩, q1, q2, q3, q4, q5, q6, q7⟩ := pk_e T p
  have l0 := hl p (by omega) (by omega)
  have l1 := hl (p + 1) (by omega)
  have l2 := hl (p + 1 + 1) (by omega)
  have l3 := hl (p + 1 + 1 + 1) (by omega)
  have l4 := hl (p + 1 + 1 + 1 + 1) (by omega)
  have l5 := hl (p + 1 + 1 + 1 + 1 + 1) (by omega)
  have l6 := hl (p + 1 + 1 + 1 + 1 + 1 + 1) (by omega)
  rw [a0] at l0
  rw [a1] at l1
  rw [a2] at l2
  rw [a3] at l3
  rw [a4] at l4
  rw [a5] at l5
  rw [a6] at l6
  rw [Bool.and_eq_true, decide_eq_true_iff]
  repeat rw [eqB_c]
  rw [eqB_0]
  simp only [and_true]
  rw [a0, a1, a2]
  unfold wd
  generalize hL : fe isLt T n p - p = L
  by_cases h8 : 7 < L
  · rw [if_pos h8]; clear l1 l2 l3 l4 l5 l6; omega
  · rw [if_neg h8]
    have : L = 1 ∨ L = 2 ∨ L = 3 ∨ L = 4 ∨ L = 5 ∨ L = 6 ∨ L = 7 := by clear l1 l2 l3 l4 l5 l6; omega
    rcases this with e | this
    · rw [e, show (1 : Int).toNat = 1 from rfl, q1]; clear l1 l2 l3 l4 l5 l6; omega
    rcases this with e | this
    · rw [e, show (2 : Int).toNat = 2 from rfl, q2]; have m1 := l1 (by clear l1 l2 l3 l4 l5 l6; omega); clear l1 l2 l3 l4 l5 l6; omega
    rcases this with e | this
    · rw [e, show (3 : Int).toNat = 3 from rfl, q3]; have m1 := l1 (by clear l1 l2 l3 l4 l5 l6; omega); have m2 := l2 (by clear l1 l2 l3 l4 l5 l6; omega); clear l1 l2 l3 l4 l5 l6; omega
    rcases this with e | this
    · rw [e, show (4 : Int).toNat = 4 from rfl, q4]; have m1 := l1 (by clear l1 l2 l3 l4 l5 l6; omega); have m2 := l2 (by clear l1 l2 l3 l4 l5 l6; omega); have m3 := l3 (by clear l1 l2 l3 l4 l5 l6; omega); clear l1 l2 l3 l4 l5 l6; omega
    rcases this with e | this
    · rw [e, show (5 : Int).toNat = 5 from rfl, q5]; have m1 := l1 (by clear l1 l2 l3 l4 l5 l6; omega); have m2 := l2 (by clear l1 l2 l3 l4 l5 l6; omega); have m3 := l3 (by clear l1 l2 l3 l4 l5 l6; omega); have m4 := l4 (by clear l1 l2 l3 l4 l5 l6; omega); clear l1 l2 l3 l4 l5 l6; omega
    rcases this with e | this
    · rw [e, show (6 : Int).toNat = 6 from rfl, q6]; have m1 := l1 (by clear l1 l2 l3 l4 l5 l6; omega); have m2 := l2 (by clear l1 l2 l3 l4 l5 l6; omega); have m3 := l3 (by clear l1 l2 l3 l4 l5 l6; omega); have m4 := l4 (by clear l1 l2 l3 l4 l5 l6; omega); have m5 := l5 (by clear l1 l2 l3 l4 l5 l6; omega); clear l1 l2 l3 l4 l5 l6; omega
    rw [this, show (7 : Int).toNat = 7 from rfl, q7]; have m1 := l1 (by clear l1 l2 l3 l4 l5 l6; omega); have m2 := l2 (by clear l1 l2 l3 l4 l5 l6; omega); have m3 := l3 (by clear l1 l2 l3 l4 l5 l6; omega); have m4 := l4 (by clear l1 l2 l3 l4 l5 l6; omega); have m5 := l5 (by clear l1 l2 l3 l4 l5 l6; omega); have m6 := l6 (by clear l1 l2 l3 l4 l5 l6; omega); clear l1 l2 l3 l4 l5 l6; omega
theorem sp_13 {T : Int → Int} {n p : Int} (h0 : p + 1 ≤ fe isLt T n p) (hl : Lt T p (fe isLt T n p)) : (decide (fe isLt T n p - p = 5) && eqB T [106, 117, 100, 103, 101] p) = true ↔ wd T n p = 457236047717 := by
  obtain ⟨b0, b1, b2, b3, b4, b5, b6, ⟨a0, a1, a2, a3, a4, a5, a6⟩, q1, q2, q3, q4, q5, q6, q7⟩ := pk_e T p
  have l0 := hl p (by omega) (by omega)
  have l1 := hl (p + 1) (by omega)
  have l2 := hl (p + 1 + 1) (by omega)
  have l3 := hl (p + 1 + 1 + 1) (by omega)
  have l4 := hl (p + 1 + 1 + 1 + 1) (by omega)
  have l5 := hl (p + 1 + 1 + 1 + 1 + 1) (by omega)
  have l6 := hl (p + 1 + 1 + 1 + 1 + 1 + 1) (by omega)
  rw [a0] at l0
  rw [a1] at l1
  rw [a2] at l2
  rw [a3] at l3
  rw [a4] at l4
  rw [a5] at l5
  rw [a6] at l6
  rw [Bool.and_eq_true, decide_eq_true_iff]
  repeat rw [eqB_c]
  rw [eqB_0]
  simp only [and_true]
  rw [a0, a1, a2, a3, a4]
  unfold wd
  generalize hL : fe isLt T n p - p = L
  by_cases h8 : 7 < L
  · rw [if_pos h8]; clear l1 l2 l3 l4 l5 l6; omega
  · rw [if_neg h8]
    have : L = 1 ∨ L = 2 ∨ L = 3 ∨ L = 4 ∨ L = 5 ∨ L = 6 ∨ L = 7 := by clear l1 l2 l3 l4 l5 l6; omega
    rcases this with e | this
    · rw [e, show (1 : Int).toNat = 1 from rfl, q1]; clear l1 l2 l3 l4 l5 l6; omega
    rcases this with e | this
    · rw [e, show (2 : Int).toNat = 2 from rfl, q2]; have m1 := l1 (by clear l1 l2 l3 l4 l5 l6; omega); clear l1 l2 l3 l4 l5 l6; omega
    rcases this with e | this
    · rw [e, show (3 : Int).toNat = 3 from rfl, q3]; have m1 := l1 (by clear l1 l2 l3 l4 l5 l6; omega); have m2 := l2 (by clear l1 l2 l3 l4 l5 l6; omega); clear l1 l2 l3 l4 l5 l6; omega
    rcases this with e | this
    · rw [e, show (4 : Int).toNat = 4 from rfl, q4]; have m1 := l1 (by clear l1 l2 l3 l4 l5 l6; omega); have m2 := l2 (by clear l1 l2 l3 l4 l5 l6; omega); have m3 := l3 (by clear l1 l2 l3 l4 l5 l6; omega); clear l1 l2 l3 l4 l5 l6; omega
    rcases this with e | this
    · rw [e, show (5 : Int).toNat = 5 from rfl, q5]; have m1 := l1 (by clear l1 l2 l3 l4 l5 l6; omega); have m2 := l2 (by clear l1 l2 l3 l4 l5 l6; omega); have m3 := l3 (by clear l1 l2 l3 l4 l5 l6; omega); have m4 := l4 (by clear l1 l2 l3 l4 l5 l6; omega); clear l1 l2 l3 l4 l5 l6; omega
    rcases this with e | this
    · rw [e, show (6 : Int).toNat = 6 from rfl, q6]; have m1 := l1 (by clear l1 l2 l3 l4 l5 l6; omega); have m2 := l2 (by clear l1 l2 l3 l4 l5 l6; omega); have m3 := l3 (by clear l1 l2 l3 l4 l5 l6; omega); have m4 := l4 (by clear l1 l2 l3 l4 l5 l6; omega); have m5 := l5 (by clear l1 l2 l3 l4 l5 l6; omega); clear l1 l2 l3 l4 l5 l6; omega
    rw [this, show (7 : Int).toNat = 7 from rfl, q7]; have m1 := l1 (by clear l1 l2 l3 l4 l5 l6; omega); have m2 := l2 (by clear l1 l2 l3 l4 l5 l6; omega); have m3 := l3 (by clear l1 l2 l3 l4 l5 l6; omega); have m4 := l4 (by clear l1 l2 l3 l4 l5 l6; omega); have m5 := l5 (by clear l1 l2 l3 l4 l5 l6; omega); have m6 := l6 (by clear l1 l2 l3 l4 l5 l6; omega); clear l1 l2 l3 l4 l5 l6; omega
theorem sp_14 {T : Int → Int} {n p : Int} (h0 : p + 1 ≤ fe isLt T n p) (hl : Lt T p (fe isLt T n p)) : (decide (fe isLt T n p - p = 7) && eqB T [98, 111, 114, 100, 101, 114, 115] p) = true ↔ wd T n p = 27707084818969203 := by
  obtain ⟨b0, b1, b2, b3, b4, b5, b6, ⟨a0, a1, a2, a3, a4, a5, a6⟩, q1, q2, q3, q4, q5, q6, q7⟩ := pk_e T p
  have l0 := hl p (by omega) (by omega)
  have l1 := hl (p + 1) (by omega)
  have l2 := hl (p + 1 + 1) (by omega)
  have l3 := hl (p + 1 + 1 + 1) (by omega)
  have l4 := hl (p + 1 + 1 + 1 + 1) (by omega)
  have l5 := hl (p + 1 + 1 + 1 + 1 + 1) (by omega)
  have l6 := hl (p + 1 + 1 + 1 + 1 + 1 + 1) (by omega)
  rw [a0] at l0
  rw [a1] at l1
  rw [a2] at l2
  rw [a3] at l3
  rw [a4] at l4
  rw [a5] at l5
  rw [a6] at l6
  rw [Bool.and_eq_true, decide_eq_true_iff]
  repeat rw [eqB_c]
  rw [eqB_0]
  simp only [and_true]
  rw [a0, a1, a2, a3, a4, a5, a6]
  unfold wd
  generalize hL : fe isLt T n p - p = L
  by_cases h8 : 7 < L
  · rw [if_pos h8]; clear l1 l2 l3 l4 l5 l6; omega
  · rw [if_neg h8]
    have : L = 1 ∨ L = 2 ∨ L = 3 ∨ L = 4 ∨ L = 5 ∨ L = 6 ∨ L = 7 := by clear l1 l2 l3 l4 l5 l6; omega
    rcases this with e | this
    · rw [e, show (1 : Int).toNat = 1 from rfl, q1]; clear l1 l2 l3 l4 l5 l6; omega
    rcases this with e | this
    · rw [e, show (2 : Int).toNat = 2 from rfl, q2]; have m1 := l1 (by clear l1 l2 l3 l4 l5 l6; omega); clear l1 l2 l3 l4 l5 l6; omega
    rcases this with e | this
    · rw [e, show (3 : Int).toNat = 3 from rfl, q3]; have m1 := l1 (by clear l1 l2 l3 l4 l5 l6; omega); have m2 := l2 (by clear l1 l2 l3 l4 l5 l6; omega); clear l1 l2 l3 l4 l5 l6; omega
    rcases this with e | this
    · rw [e, show (4 : Int).toNat = 4 from rfl, q4]; have m1 := l1 (by clear l1 l2 l3 l4 l5 l6; omega); have m2 := l2 (by clear l1 l2 l3 l4 l5 l6; omega); have m3 := l3 (by clear l1 l2 l3 l4 l5 l6; omega); clear l1 l2 l3 l4 l5 l6; omega
    rcases this with e | this
    · rw [e, show (5 : Int).toNat = 5 from rfl, q5]; have m1 := l1 (by clear l1 l2 l3 l4 l5 l6; omega); have m2 := l2 (by clear l1 l2 l3 l4 l5 l6; omega); have m3 := l3 (by clear l1 l2 l3 l4 l5 l6; omega); have m4 := l4 (by clear l1 l2 l3 l4 l5 l6; omega); clear l1 l2 l3 l4 l5 l6; omega
    rcases this with e | this
    · rw [e, show (6 : Int).toNat = 6 from rfl, q6]; have m1 := l1 (by clear l1 l2 l3 l4 l5 l6; omega); have m2 := l2 (by clear l1 l2 l3 l4 l5 l6; omega); have m3 := l3 (by clear l1 l2 l3 l4 l5 l6; omega); have m4 := l4 (by clear l1 l2 l3 l4 l5 l6; omega); have m5 := l5 (by clear l1 l2 l3 l4 l5 l6; omega); clear l1 l2 l3 l4 l5 l6; omega
    rw [this, show (7 : Int).toNat = 7 from rfl, q7]; have m1 := l1 (by clear l1 l2 l3 l4 l5 l6; omega); have m2 := l2 (by clear l1 l2 l3 l4 l5 l6; omega); have m3 := l3 (by clear l1 l2 l3 l4 l5 l6; omega); have m4 := l4 (by clear l1 l2 l3 l4 l5 l6; omega); have m5 := l5 (by clear l1 l2 l3 l4 l5 l6; omega); have m6 := l6 (by clear l1 l2 l3 l4 l5 l6; omega); clear l1 l2 l3 l4 l5 l6; omega
theorem sp_15 {T : Int → Int} {n p : Int} (h0 : p + 1 ≤ fe isLt T n p) (hl : Lt T p (fe isLt T n p)) : (decide (fe isLt T n p - p = 5) && eqB T [112, 97, 105, 114, 115] p) = true ↔ wd T n p = 482670637683 := by
  obtain ⟨b0, b1, b2, b3, b4, b5, b6, ⟨a0, a1, a2, a3, a4, a5, a6⟩, q1, q2, q3, q4, q5, q6, q7⟩ := pk_e T p
  have l0 := hl p (by omega) (by omega)
  have l1 := hl (p + 1) (by omega)
  have l2 := hl (p + 1 + 1) (by omega)
  have l3 := hl (p + 1 + 1 + 1) (by omega)
  have l4 := hl (p + 1 + 1 + 1 + 1) (by omega)
  have l5 := hl (p + 1 + 1 + 1 + 1 + 1) (by omega)
  have l6 := hl (p + 1 + 1 + 1 + 1 + 1 + 1) (by omega)
  rw [a0] at l0
  rw [a1] at l1
  rw [a2] at l2
  rw [a3] at l3
  rw [a4] at l4
  rw [a5] at l5
  rw [a6] at l6
  rw [Bool.and_eq_true, decide_eq_true_iff]
  repeat rw [eqB_c]
  rw [eqB_0]
  simp only [and_true]
  rw [a0, a1, a2, a3, a4]
  unfold wd
  generalize hL : fe isLt T n p - p = L
  by_cases h8 : 7 < L
  · rw [if_pos h8]; clear l1 l2 l3 l4 l5 l6; omega
  · rw [if_neg h8]
    have : L = 1 ∨ L = 2 ∨ L = 3 ∨ L = 4 ∨ L = 5 ∨ L = 6 ∨ L = 7 := by clear l1 l2 l3 l4 l5 l6; omega
    rcases this with e | this
    · rw [e, show (1 : Int).toNat = 1 from rfl, q1]; clear l1 l2 l3 l4 l5 l6; omega
    rcases this with e | this
    · rw [e, show (2 : Int).toNat = 2 from rfl, q2]; have m1 := l1 (by clear l1 l2 l3 l4 l5 l6; omega); clear l1 l2 l3 l4 l5 l6; omega
    rcases this with e | this
    · rw [e, show (3 : Int).toNat = 3 from rfl, q3]; have m1 := l1 (by clear l1 l2 l3 l4 l5 l6; omega); have m2 := l2 (by clear l1 l2 l3 l4 l5 l6; omega); clear l1 l2 l3 l4 l5 l6; omega
    rcases this with e | this
    · rw [e, show (4 : Int).toNat = 4 from rfl, q4]; have m1 := l1 (by clear l1 l2 l3 l4 l5 l6; omega); have m2 := l2 (by clear l1 l2 l3 l4 l5 l6; omega); have m3 := l3 (by clear l1 l2 l3 l4 l5 l6; omega); clear l1 l2 l3 l4 l5 l6; omega
    rcases this with e | this
    · rw [e, show (5 : Int).toNat = 5 from rfl, q5]; have m1 := l1 (by clear l1 l2 l3 l4 l5 l6; omega); have m2 := l2 (by clear l1 l2 l3 l4 l5 l6; omega); have m3 := l3 (by clear l1 l2 l3 l4 l5 l6; omega); have m4 := l4 (by clear l1 l2 l3 l4 l5 l6; omega); clear l1 l2 l3 l4 l5 l6; omega
    rcases this with e | this
    · rw [e, show (6 : Int).toNat = 6 from rfl, q6]; have m1 := l1 (by clear l1 l2 l3 l4 l5 l6; omega); have m2 := l2 (by clear l1 l2 l3 l4 l5 l6; omega); have m3 := l3 (by clear l1 l2 l3 l4 l5 l6; omega); have m4 := l4 (by clear l1 l2 l3 l4 l5 l6; omega); have m5 := l5 (by clear l1 l2 l3 l4 l5 l6; omega); clear l1 l2 l3 l4 l5 l6; omega
    rw [this, show (7 : Int).toNat = 7 from rfl, q7]; have m1 := l1 (by clear l1 l2 l3 l4 l5 l6; omega); have m2 := l2 (by clear l1 l2 l3 l4 l5 l6; omega); have m3 := l3 (by clear l1 l2 l3 l4 l5 l6; omega); have m4 := l4 (by clear l1 l2 l3 l4 l5 l6; omega); have m5 := l5 (by clear l1 l2 l3 l4 l5 l6; omega); have m6 := l6 (by clear l1 l2 l3 l4 l5 l6; omega); clear l1 l2 l3 l4 l5 l6; omega
theorem sp_16 {T : Int → Int} {n p : Int} (h0 : p + 1 ≤ fe isLt T n p) (hl : Lt T p (fe isLt T n p)) : (decide (fe isLt T n p - p = 5) && eqB T [108, 97, 110, 100, 115] p) = true ↔ wd T n p = 465491092595 := by
  obtain ⟨b0, b1, b2, b3, b4, b5, b6, ⟨a0, a1, a2, a3, a4, a5, a6⟩, q1, q2, q3, q4, q5, q6, q7⟩ := pk_e T p
  have l0 := hl p (by omega) (by omega)
  have l1 := hl (p + 1) (by omega)
  have l2 := hl (p + 1 + 1) (by omega)
  have l3 := hl (p + 1 + 1 + 1) (by omega)
  have l4 := hl (p + 1 + 1 + 1 + 1) (by omega)
  have l5 := hl (p + 1 + 1 + 1 + 1 + 1) (by omega)
  have l6 := hl (p + 1 + 1 + 1 + 1 + 1 + 1) (by omega)
  rw [a0] at l0
  rw [a1] at l1
  rw [a2] at l2
  rw [a3] at l3
  rw [a4] at l4
  rw [a5] at l5
  rw [a6] at l6
  rw [Bool.and_eq_true, decide_eq_true_iff]
  repeat rw [eqB_c]
  rw [eqB_0]
  simp only [and_true]
  rw [a0, a1, a2, a3, a4]
  unfold wd
  generalize hL : fe isLt T n p - p = L
  by_cases h8 : 7 < L
  · rw [if_pos h8]; clear l1 l2 l3 l4 l5 l6; omega
  · rw [if_neg h8]
    have : L = 1 ∨ L = 2 ∨ L = 3 ∨ L = 4 ∨ L = 5 ∨ L = 6 ∨ L = 7 := by clear l1 l2 l3 l4 l5 l6; omega
    rcases this with e | this
    · rw [e, show (1 : Int).toNat = 1 from rfl, q1]; clear l1 l2 l3 l4 l5 l6; omega
    rcases this with e | this
    · rw [e, show (2 : Int).toNat = 2 from rfl, q2]; have m1 := l1 (by clear l1 l2 l3 l4 l5 l6; omega); clear l1 l2 l3 l4 l5 l6; omega
    rcases this with e | this
    · rw [e, show (3 : Int).toNat = 3 from rfl, q3]; have m1 := l1 (by clear l1 l2 l3 l4 l5 l6; omega); have m2 := l2 (by clear l1 l2 l3 l4 l5 l6; omega); clear l1 l2 l3 l4 l5 l6; omega
    rcases this with e | this
    · rw [e, show (4 : Int).toNat = 4 from rfl, q4]; have m1 := l1 (by clear l1 l2 l3 l4 l5 l6; omega); have m2 := l2 (by clear l1 l2 l3 l4 l5 l6; omega); have m3 := l3 (by clear l1 l2 l3 l4 l5 l6; omega); clear l1 l2 l3 l4 l5 l6; omega
    rcases this with e | this
    · rw [e, show (5 : Int).toNat = 5 from rfl, q5]; have m1 := l1 (by clear l1 l2 l3 l4 l5 l6; omega); have m2 := l2 (by clear l1 l2 l3 l4 l5 l6; omega); have m3 := l3 (by clear l1 l2 l3 l4 l5 l6; omega); have m4 := l4 (by clear l1 l2 l3 l4 l5 l6; omega); clear l1 l2 l3 l4 l5 l6; omega
    rcases this with e | this
    · rw [e, show (6 : Int).toNat = 6 from rfl, q6]; have m1 := l1 (by clear l1 l2 l3 l4 l5 l6; omega); have m2 := l2 (by clear l1 l2 l3 l4 l5 l6; omega); have m3 := l3 (by clear l1 l2 l3 l4 l5 l6; omega); have m4 := l4 (by clear l1 l2 l3 l4 l5 l6; omega); have m5 := l5 (by clear l1 l2 l3 l4 l5 l6; omega); clear l1 l2 l3 l4 l5 l6; omega
    rw [this, show (7 : Int).toNat = 7 from rfl, q7]; have m1 := l1 (by clear l1 l2 l3 l4 l5 l6; omega); have m2 := l2 (by clear l1 l2 l3 l4 l5 l6; omega); have m3 := l3 (by clear l1 l2 l3 l4 l5 l6; omega); have m4 := l4 (by clear l1 l2 l3 l4 l5 l6; omega); have m5 := l5 (by clear l1 l2 l3 l4 l5 l6; omega); have m6 := l6 (by clear l1 l2 l3 l4 l5 l6; omega); clear l1 l2 l3 l4 l5 l6; omega
