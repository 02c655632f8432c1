/-! what a real state is that the machine of numbers stands for -/
abbrev KX : Nat := 29
abbrev PB : Type := Nat × (Nat → Nat) × Value × va_G × (Nat → ClassId)
def ad (P : PB) (i : Nat) : Nat := if i < KX then P.2.1 i else P.1 + (i - KX)
def cvA (P : PB) (z : Int) : Value := if z < 0 then .null else if z = 0 then P.2.2.1 else .ref (ad P z.toNat)
def cv (P : PB) (v : AV) : Value := match v with | .inl z => .int (Int32.ofInt z) | .inr (.inl z) => .long (Int64.ofInt z) | .inr (.inr z) => cvA P z
def inI (z : Int) : Prop := -2147483648 ≤ z ∧ z < 2147483648
def inL (z : Int) : Prop := -9223372036854775808 ≤ z ∧ z < 9223372036854775808
def wfv (v : AV) : Prop := match v with | .inl z => inI z | .inr (.inl z) => inL z | .inr (.inr _) => True
theorem i_w (z : Int) : Int32.ofInt (w32 z) = Int32.ofInt z := Int32.ofInt_toInt _
theorem l_w (z : Int) : Int64.ofInt (w64 z) = Int64.ofInt z := Int64.ofInt_toInt _
theorem inI_t (x : Int32) : inI x.toInt := ⟨Int32.le_toInt x, Int32.toInt_lt x⟩
theorem inL_t (x : Int64) : inL x.toInt := ⟨Int64.le_toInt x, Int64.toInt_lt x⟩
theorem t_i {z : Int} (h : inI z) : (Int32.ofInt z).toInt = z := Int32.toInt_ofInt_of_le h.1 h.2
theorem t_l {z : Int} (h : inL z) : (Int64.ofInt z).toInt = z := Int64.toInt_ofInt_of_le h.1 h.2
theorem w32_id {z : Int} (h1 : -2147483648 ≤ z) (h2 : z < 2147483648) : w32 z = z := t_i ⟨h1, h2⟩
theorem i_lt {x y : Int} (hx : inI x) (hy : inI y) : Int32.ofInt x < Int32.ofInt y ↔ x < y := by rw [Int32.lt_iff_toInt_lt, t_i hx, t_i hy]
theorem i_le {x y : Int} (hx : inI x) (hy : inI y) : Int32.ofInt x ≤ Int32.ofInt y ↔ x ≤ y := by rw [Int32.le_iff_toInt_le, t_i hx, t_i hy]
theorem i_eq {x y : Int} (hx : inI x) (hy : inI y) : Int32.ofInt x = Int32.ofInt y ↔ x = y := by rw [← Int32.toInt_inj, t_i hx, t_i hy]
theorem l_lt {x y : Int} (hx : inL x) (hy : inL y) : Int64.ofInt x < Int64.ofInt y ↔ x < y := by rw [Int64.lt_iff_toInt_lt, t_l hx, t_l hy]
theorem l_eq {x y : Int} (hx : inL x) (hy : inL y) : Int64.ofInt x = Int64.ofInt y ↔ x = y := by rw [← Int64.toInt_inj, t_l hx, t_l hy]
theorem inI_0 : inI 0 := ⟨by decide, by decide⟩
theorem inL_0 : inL 0 := ⟨by decide, by decide⟩
theorem inL_of {z : Int} (h : inI z) : inL z := ⟨by have := h.1; omega, by have := h.2; omega⟩
theorem i_0 : Int32.ofInt 0 = 0 := rfl
theorem i_nat {z : Int} (h : inI z) (h0 : 0 ≤ z) : (Int32.ofInt z).toNatClampNeg = z.toNat := by
  show (Int32.ofInt z).toInt.toNat = _; rw [t_i h]
theorem vp_i {z : Int} {n : Nat} (h : inI z) (h0 : 0 ≤ z) (hn : z < n) : vp_in (Int32.ofInt z) n := by
  rintro (q | q)
  · have := (i_lt h inI_0).mp q; omega
  · rw [i_nat h h0] at q; omega
theorem i_ofNat (n : Nat) : Int32.ofNat n = Int32.ofInt (n : Int) := rfl
theorem l_i2l {x : Int} (h : inI x) : (Int32.ofInt x).toInt64 = Int64.ofInt x := by
  rw [← Int64.toInt_inj, Int32.toInt_toInt64, t_i h, t_l (inL_of h)]
theorem i_l2i (x : Int) : (Int64.ofInt x).toInt32 = Int32.ofInt x := by
  first
    | exact Int64.toInt32_ofInt x
    | simp
theorem l_cmp {x y : Int} (hx : inL x) (hy : inL y) : lg_cmp (Int64.ofInt x) (Int64.ofInt y) = Int32.ofInt (lcmp x y) := by
  unfold lg_cmp lcmp
  by_cases h1 : y < x
  · rw [if_pos ((l_lt hy hx).mpr h1), if_pos h1]; rfl
  · rw [if_neg (fun q => h1 ((l_lt hy hx).mp q)), if_neg h1]
    by_cases h2 : x = y
    · rw [if_pos ((l_eq hx hy).mpr h2), if_pos h2]; rfl
    · rw [if_neg (fun q => h2 ((l_eq hx hy).mp q)), if_neg h2]; rfl
/-- the cells -/
def cvK (P : PB) (kn : Nat) (z : Int) : Value := match kn with | 1 => .long (Int64.ofInt z) | 2 => cvA P z | _ => .int (Int32.ofInt z)
def wfK (kn : Nat) (z : Int) : Prop := match kn with | 1 => inL z | 2 => True | _ => inI z
def rfo (P : PB) (z : Int) : Option Nat := if z < 0 then none else some (ad P z.toNat)
def fds (P : PB) (c : Nat → Nat → Int) (i t n : Nat) : List Value := (List.range n).map fun k => cvK P (kd t k) (c i k)
def entE (P : PB) (c : Nat → Nat → Int) (i : Nat) (q : Nat × Nat) : va_E :=
  if q.1 < 13 then .inr (q.1, fds P c i q.1 q.2)
  else if q.1 = 101 then .inl (P.2.2.2.2 1, q.2, .inr (.inl fun k => Int64.ofInt (c i k)))
  else if q.1 = 103 ∨ q.1 = 104 then .inl (P.2.2.2.2 (q.1 - 100), q.2, .inr (.inr (.inr (.inr fun k => rfo P (c i k)))))
  else .inl (P.2.2.2.2 (q.1 - 100), q.2, .inl fun k => Int32.ofInt (c i k))
def wsO (P : PB) (hp : HP) : va_W := (hp.1.drop KX).mapIdx fun j q => (P.1 + j, entE P hp.2 (KX + j) q)
theorem wsO_len (P : PB) (hp : HP) : (wsO P hp).length = hp.1.length - KX := by simp [wsO]
theorem wsO_at (P : PB) (hp : HP) (j : Nat) : (wsO P hp)[j]? = (hp.1[KX + j]?).map fun q => (P.1 + j, entE P hp.2 (KX + j) q) := by
  simp [wsO, List.getElem?_mapIdx, List.getElem?_drop]
theorem wsO_get {P : PB} {hp : HP} {i : Nat} {q : Nat × Nat} (hi : KX ≤ i) (h : hp.1[i]? = some q) : (wsO P hp)[i - KX]? = some (ad P i, entE P hp.2 i q) := by
  rw [wsO_at, show KX + (i - KX) = i by omega, h]
  simp only [Option.map_some, ad, if_neg (show ¬ i < KX by omega)]
def RG (P : PB) : Nat → Prop := fun q => P.1 ≤ q
theorem wsO_D (P : PB) (hp : HP) : va_D (RG P) (wsO P hp) := by
  refine ⟨fun i j p q hi hj h => ?_, fun k q hk => ?_⟩
  · rw [wsO_at] at hi hj
    cases h1 : hp.1[KX + i]? with
    | none => rw [h1] at hi; simp at hi
    | some a =>
      cases h2 : hp.1[KX + j]? with
      | none => rw [h2] at hj; simp at hj
      | some b =>
        rw [h1] at hi; rw [h2] at hj
        simp only [Option.map_some, Option.some.injEq] at hi hj
        rw [← hi, ← hj] at h
        simp only at h
        omega
  · rw [wsO_at] at hk
    cases h1 : hp.1[KX + k]? with
    | none => rw [h1] at hk; simp at hk
    | some a =>
      rw [h1] at hk
      simp only [Option.map_some, Option.some.injEq] at hk
      rw [← hk]
      exact Nat.le_add_right _ _
theorem entE_u2 (P : PB) (c : Nat → Nat → Int) (o k : Nat) (v : Int) {i : Nat} (h : i ≠ o) (q : Nat × Nat) : entE P (u2 c o k v) i q = entE P c i q := by
  have e : ∀ j, u2 c o k v i j = c i j := fun j => by simp [u2, h]
  simp only [entE, fds, e]
theorem wsO_u2 {P : PB} {hp : HP} {o k : Nat} {v : Int} {q : Nat × Nat} (ho : KX ≤ o) (hq : hp.1[o]? = some q) : (wsO P hp).set (o - KX) (ad P o, entE P (u2 hp.2 o k v) o q) = wsO P (hp.1, u2 hp.2 o k v) := by
  apply List.ext_getElem?
  intro j
  have hl : o - KX < (wsO P hp).length := (List.getElem?_eq_some_iff.mp (wsO_get ho hq)).1
  by_cases hj : j = o - KX
  · subst hj
    rw [List.getElem?_set_self hl, wsO_get (hp := (hp.1, u2 hp.2 o k v)) ho hq]
  · rw [List.getElem?_set_ne (Ne.symm hj), wsO_at, wsO_at]
    cases hp.1[KX + j]? with
    | none => rfl
    | some a => simp only [Option.map_some]; rw [entE_u2 P hp.2 o k v (show KX + j ≠ o by omega)]
theorem wsO_mk {P : PB} {hp : HP} (t n : Nat) (hK : KX ≤ hp.1.length) : wsO P hp ++ [(P.1 + (hp.1.length - KX), entE P (mk hp t n).2 hp.1.length (t, n))] = wsO P (mk hp t n) := by
  apply List.ext_getElem?
  intro j
  have hl := wsO_len P hp
  have hs : (mk hp t n).1 = hp.1 ++ [(t, n)] := rfl
  by_cases hj : j < hp.1.length - KX
  · rw [List.getElem?_append_left (by omega), wsO_at, wsO_at, hs, List.getElem?_append_left (by omega)]
    cases hp.1[KX + j]? with
    | none => rfl
    | some a =>
      simp only [Option.map_some]
      have e : ∀ m, (mk hp t n).2 (KX + j) m = hp.2 (KX + j) m := fun m => by
        show (if KX + j = hp.1.length then dfl t m else hp.2 (KX + j) m) = _
        rw [if_neg (by omega)]
      simp only [entE, fds, e]
  · rw [List.getElem?_append_right (by omega), wsO_at, hs, List.getElem?_append_right (by omega)]
    by_cases hj2 : j = hp.1.length - KX
    · subst hj2
      rw [hl, Nat.sub_self, show KX + (hp.1.length - KX) - hp.1.length = 0 by omega, show KX + (hp.1.length - KX) = hp.1.length by omega]
      rfl
    · rw [hl]
      obtain ⟨m, hm⟩ : ∃ m, j - (hp.1.length - KX) = m + 1 := ⟨j - (hp.1.length - KX) - 1, by omega⟩
      obtain ⟨m2, hm2⟩ : ∃ m, KX + j - hp.1.length = m + 1 := ⟨KX + j - hp.1.length - 1, by omega⟩
      rw [hm, hm2]; simp
/-- what is held of a cell -/
def okC (q : Nat × Nat) (f : Nat → Int) : Prop := q.2 ≤ 100000 ∧
  ((q.1 < 13 ∧ (∃ r, vwCl[q.1]? = some r ∧ q.2 = r.2.2) ∧ ∀ k, k < q.2 → wfK (kd q.1 k) (f k)) ∨ (q.1 = 100 ∧ ∀ k, k < q.2 → inI (f k)) ∨ (q.1 = 101 ∧ ∀ k, k < q.2 → inL (f k)) ∨ (q.1 = 102 ∧ ∀ k, k < q.2 → f k = 0 ∨ f k = 1) ∨ ((q.1 = 103 ∨ q.1 = 104) ∧ ∀ k, k < q.2 → f k ≠ 0))
def xSh (L : Nat) : List (Nat × Nat) := [(98, 0), (110, L)] ++ statA.map (fun q => (110, q.2.length)) ++ strT.flatMap (fun q => [(50, 2), (112, q.length)])
/-- the bytes of a text -/
def byts (t : String) : List Int := t.toList.map fun ch => (ch.toNat : Int)
def xCt (xs : Nat → Int32) (i k : Nat) : Int :=
  if i = 1 then (xs k).toInt
  else if i < 2 + statA.length then ((statA[i - 2]?).getD ("", [])).2.getD k 0
  else if (i - 2 - statA.length) % 2 = 0 then (if k = 0 then (i + 1 : Int) else 0)
  else (byts ((strT[(i - 2 - statA.length) / 2]?).getD "")).getD k 0
def wfH (L : Nat) (xs : Nat → Int32) (hp : HP) : Prop := (KX ≤ hp.1.length ∧ L ≤ 3072) ∧ hp.1.take KX = xSh L ∧ (∀ i k, i < KX → hp.2 i k = xCt xs i k) ∧ ∀ i q, KX ≤ i → hp.1[i]? = some q → okC q (hp.2 i)
