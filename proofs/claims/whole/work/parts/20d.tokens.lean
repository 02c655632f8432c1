/-! a tape read as tokens -/
def isLt (x : Int) : Bool := decide ((97 ≤ x ∧ x ≤ 122) ∨ (65 ≤ x ∧ x ≤ 90))
def isD (x : Int) : Bool := decide (48 ≤ x ∧ x ≤ 57)
def isK (x : Int) : Bool := decide (x = 32 ∨ x = 10)
def isG (x : Int) : Bool := decide (x = 60 ∨ x = 62 ∨ x = 61 ∨ x = 35 ∨ x = 43 ∨ x = 45 ∨ x = 42 ∨ x = 40 ∨ x = 41 ∨ x = 59)
theorem isLt_t {x : Int} : isLt x = true ↔ (97 ≤ x ∧ x ≤ 122) ∨ (65 ≤ x ∧ x ≤ 90) := decide_eq_true_iff
theorem isD_t {x : Int} : isD x = true ↔ 48 ≤ x ∧ x ≤ 57 := decide_eq_true_iff
theorem isK_t {x : Int} : isK x = true ↔ x = 32 ∨ x = 10 := decide_eq_true_iff
theorem isG_t {x : Int} : isG x = true ↔ x = 60 ∨ x = 62 ∨ x = 61 ∨ x = 35 ∨ x = 43 ∨ x = 45 ∨ x = 42 ∨ x = 40 ∨ x = 41 ∨ x = 59 := decide_eq_true_iff
/-- the first place where it is not so -/
def fn (g : Int → Bool) (T : Int → Int) (n : Int) : Nat → Int → Int
  | 0, p => p
  | k + 1, p => if p < n ∧ g (T p) = true then fn g T n k (p + 1) else p
def fe (g : Int → Bool) (T : Int → Int) (n p : Int) : Int := fn g T n (n - p).toNat p
theorem fe_s {g : Int → Bool} {T : Int → Int} {n p : Int} (h : p < n) (hg : g (T p) = true) : fe g T n p = fe g T n (p + 1) := by
  unfold fe
  rw [show (n - p).toNat = (n - (p + 1)).toNat + 1 by omega, fn, if_pos ⟨h, hg⟩]
theorem fe_z {g : Int → Bool} {T : Int → Int} {n p : Int} (h : ¬ (p < n ∧ g (T p) = true)) : fe g T n p = p := by
  unfold fe
  cases (n - p).toNat with
  | zero => rfl
  | succ k => rw [fn, if_neg h]
theorem fn_b {g : Int → Bool} {T : Int → Int} {n : Int} : ∀ (k : Nat) (p : Int), p ≤ n → p ≤ fn g T n k p ∧ fn g T n k p ≤ n
  | 0, p, h => ⟨Int.le_refl _, h⟩
  | k + 1, p, h => by
    rw [fn]
    split
    · rename_i w
      have := fn_b (g := g) (T := T) (n := n) k (p + 1) (by omega)
      omega
    · exact ⟨Int.le_refl _, h⟩
theorem fe_b {g : Int → Bool} {T : Int → Int} {n p : Int} (h : p ≤ n) : p ≤ fe g T n p ∧ fe g T n p ≤ n := fn_b _ p h
theorem fe_e {g : Int → Bool} {T : Int → Int} {n : Int} : ∀ (k : Nat) (p : Int), n ≤ p + k → ¬ (fe g T n p < n ∧ g (T (fe g T n p)) = true)
  | 0, p, h => by rw [fe_z (by omega)]; omega
  | k + 1, p, h => by
    by_cases w : p < n ∧ g (T p) = true
    · rw [fe_s w.1 w.2]; exact fe_e k (p + 1) (by omega)
    · rw [fe_z w]; exact w
theorem fe_n {g : Int → Bool} {T : Int → Int} {n p : Int} : ¬ (fe g T n p < n ∧ g (T (fe g T n p)) = true) := fe_e (n - p).toNat p (by omega)
theorem fe_a {g : Int → Bool} {T : Int → Int} {n : Int} : ∀ (k : Nat) (p q : Int), n ≤ p + k → p ≤ q → q < fe g T n p → g (T q) = true
  | 0, p, q, h, h1, h2 => by rw [fe_z (by omega)] at h2; omega
  | k + 1, p, q, h, h1, h2 => by
    by_cases w : p < n ∧ g (T p) = true
    · by_cases e : q = p
      · rw [e]; exact w.2
      · rw [fe_s w.1 w.2] at h2; exact fe_a k (p + 1) q (by omega) (by omega) h2
    · rw [fe_z w] at h2; omega
/-- a number's value, as the reference counts -/
def nw (T : Int → Int) (n : Int) : Nat → Int → Int → Int
  | 0, _, a => a
  | k + 1, p, a => if p < n ∧ isD (T p) = true then nw T n k (p + 1) (if a < 100000 then 10 * a + T p - 48 else a) else a
def ne (T : Int → Int) (n p a : Int) : Int := nw T n (n - p).toNat p a
theorem ne_s {T : Int → Int} {n p a : Int} (h : p < n) (hg : isD (T p) = true) : ne T n p a = ne T n (p + 1) (if a < 100000 then 10 * a + T p - 48 else a) := by
  unfold ne
  rw [show (n - p).toNat = (n - (p + 1)).toNat + 1 by omega, nw, if_pos ⟨h, hg⟩]
theorem ne_z {T : Int → Int} {n p a : Int} (h : ¬ (p < n ∧ isD (T p) = true)) : ne T n p a = a := by
  unfold ne
  cases (n - p).toNat with
  | zero => rfl
  | succ k => rw [nw, if_neg h]
theorem nw_b {T : Int → Int} {n : Int} : ∀ (k : Nat) (p a : Int), 0 ≤ a → a ≤ 999999 → 0 ≤ nw T n k p a ∧ nw T n k p a ≤ 999999
  | 0, p, a, h, h1 => ⟨h, h1⟩
  | k + 1, p, a, h, h1 => by
    rw [nw]
    split
    · rename_i w
      have w2 := isD_t.mp w.2
      apply nw_b k
      · split <;> omega
      · split <;> omega
    · exact ⟨h, h1⟩
theorem ne_b (T : Int → Int) (n p : Int) {a : Int} (h : 0 ≤ a) (h1 : a ≤ 999999) : 0 ≤ ne T n p a ∧ ne T n p a ≤ 999999 := nw_b _ p a h h1
def mn (x : Int) : Int := if 10000 < x then 10000 else x
/-- letters, packed -/
def pk (T : Int → Int) (p : Int) : Nat → Int
  | 0 => 0
  | l + 1 => pk T p l * 256 + T (p + (l : Int))
def wd (T : Int → Int) (n p : Int) : Int := if 7 < fe isLt T n p - p then 0 else pk T p (fe isLt T n p - p).toNat
def wc (w : Int) : Int := if w = 97 then 97 else if w = 98 then 98 else if w = 120 then 120 else if w = 121 then 121 else if w = 28530 then 9 else if w = 6385252 then 8 else if w = 7237492 then 7 else if w = 1937203568 then 10 else if w = 1869505381 then 11 else if w = 6386539 then 12 else if w = 457236047717 then 13 else if w = 27707084818969203 then 14 else if w = 482670637683 then 15 else if w = 465491092595 then 16 else 1
theorem wc_v (w : Int) : wc w = 1 ∨ (7 ≤ wc w ∧ wc w ≤ 16) ∨ wc w = 97 ∨ wc w = 98 ∨ wc w = 120 ∨ wc w = 121 := by
  unfold wc
  repeat (split; · omega)
  omega
theorem wc_97 {w : Int} : wc w = 97 ↔ w = 97 := by
  constructor
  · intro h; unfold wc at h; repeat (split at h; · omega)
    omega
  · intro h; rw [h]; rfl
theorem wc_98 {w : Int} : wc w = 98 ↔ w = 98 := by
  constructor
  · intro h; unfold wc at h; repeat (split at h; · omega)
    omega
  · intro h; rw [h]; rfl
theorem wc_120 {w : Int} : wc w = 120 ↔ w = 120 := by
  constructor
  · intro h; unfold wc at h; repeat (split at h; · omega)
    omega
  · intro h; rw [h]; rfl
theorem wc_121 {w : Int} : wc w = 121 ↔ w = 121 := by
  constructor
  · intro h; unfold wc at h; repeat (split at h; · omega)
    omega
  · intro h; rw [h]; rfl
theorem wc_9 {w : Int} : wc w = 9 ↔ w = 28530 := by
  constructor
  · intro h; unfold wc at h; repeat (split at h; · omega)
    omega
  · intro h; rw [h]; rfl
theorem wc_8 {w : Int} : wc w = 8 ↔ w = 6385252 := by
  constructor
  · intro h; unfold wc at h; repeat (split at h; · omega)
    omega
  · intro h; rw [h]; rfl
theorem wc_7 {w : Int} : wc w = 7 ↔ w = 7237492 := by
  constructor
  · intro h; unfold wc at h; repeat (split at h; · omega)
    omega
  · intro h; rw [h]; rfl
theorem wc_10 {w : Int} : wc w = 10 ↔ w = 1937203568 := by
  constructor
  · intro h; unfold wc at h; repeat (split at h; · omega)
    omega
  · intro h; rw [h]; rfl
theorem wc_11 {w : Int} : wc w = 11 ↔ w = 1869505381 := by
  constructor
  · intro h; unfold wc at h; repeat (split at h; · omega)
    omega
  · intro h; rw [h]; rfl
theorem wc_12 {w : Int} : wc w = 12 ↔ w = 6386539 := by
  constructor
  · intro h; unfold wc at h; repeat (split at h; · omega)
    omega
  · intro h; rw [h]; rfl
theorem wc_13 {w : Int} : wc w = 13 ↔ w = 457236047717 := by
  constructor
  · intro h; unfold wc at h; repeat (split at h; · omega)
    omega
  · intro h; rw [h]; rfl
theorem wc_14 {w : Int} : wc w = 14 ↔ w = 27707084818969203 := by
  constructor
  · intro h; unfold wc at h; repeat (split at h; · omega)
    omega
  · intro h; rw [h]; rfl
theorem wc_15 {w : Int} : wc w = 15 ↔ w = 482670637683 := by
  constructor
  · intro h; unfold wc at h; repeat (split at h; · omega)
    omega
  · intro h; rw [h]; rfl
theorem wc_16 {w : Int} : wc w = 16 ↔ w = 465491092595 := by
  constructor
  · intro h; unfold wc at h; repeat (split at h; · omega)
    omega
  · intro h; rw [h]; rfl
/-- a token that begins at p: what it is, where it ends, its value -/
def two (T : Int → Int) (n p : Int) : Prop := (T p = 60 ∨ T p = 62) ∧ p + 1 < n ∧ T (p + 1) = 61
def tkc (T : Int → Int) (n p : Int) : Int := if isLt (T p) = true then wc (wd T n p) else if isD (T p) = true then 3 else if (T p = 60 ∨ T p = 62) ∧ p + 1 < n ∧ T (p + 1) = 61 then (if T p = 60 then 4 else 5) else if isG (T p) = true then T p else 1
def tke (T : Int → Int) (n p : Int) : Int := if isLt (T p) = true then fe isLt T n p else if isD (T p) = true then fe isD T n p else if (T p = 60 ∨ T p = 62) ∧ p + 1 < n ∧ T (p + 1) = 61 then p + 2 else p + 1
def tkv (T : Int → Int) (n p : Int) : Int := if isLt (T p) = true then 0 else if isD (T p) = true then mn (ne T n p 0) else 0
theorem tke_b {T : Int → Int} {n p : Int} (h : p < n) : p + 1 ≤ tke T n p ∧ tke T n p ≤ n := by
  unfold tke
  split
  · rename_i w
    rw [fe_s h w]
    exact fe_b (by omega)
  · split
    · rename_i w
      rw [fe_s h w]
      exact fe_b (by omega)
    · split <;> omega
theorem tkc_z {T : Int → Int} {n p : Int} (h : 0 ≤ T p) : tkc T n p ≠ 0 := by
  unfold tkc
  split
  · have := wc_v (wd T n p); omega
  · split
    · decide
    · split
      · split <;> decide
      · split
        · rename_i w
          have := isG_t.mp w; omega
        · decide
theorem mn_b {x : Int} (h : 0 ≤ x) : 0 ≤ mn x ∧ mn x ≤ 10000 := by unfold mn; split <;> omega
theorem tkv_b (T : Int → Int) (n p : Int) : 0 ≤ tkv T n p ∧ tkv T n p ≤ 10000 := by
  unfold tkv
  split
  · omega
  · split
    · exact mn_b (ne_b T n p (by omega) (by omega)).1
    · omega
/-- where the tokens begin -/
def sts (T : Int → Int) (n : Int) : Nat → Int
  | 0 => fe isK T n 0
  | j + 1 => if sts T n j < n then fe isK T n (tke T n (sts T n j)) else n
theorem sts_b {T : Int → Int} {n : Int} (hn : 0 ≤ n) : ∀ j : Nat, 0 ≤ sts T n j ∧ sts T n j ≤ n ∧ (sts T n j < n → (j : Int) ≤ sts T n j ∧ isK (T (sts T n j)) = false)
  | 0 => by
    have := fe_b (g := isK) (T := T) (n := n) (p := 0) hn
    refine ⟨this.1, this.2, fun h => ⟨by rw [sts]; exact this.1, ?_⟩⟩
    have w := fe_n (g := isK) (T := T) (n := n) (p := 0)
    rw [sts] at h ⊢
    cases e : isK (T (fe isK T n 0)) with
    | false => rfl
    | true => exact absurd ⟨h, e⟩ w
  | j + 1 => by
    obtain ⟨h1, h2, h3⟩ := sts_b (T := T) hn j
    rw [sts]
    split
    · rename_i w
      have h4 := h3 w
      have e := tke_b (T := T) w
      have b := fe_b (g := isK) (T := T) (n := n) (p := tke T n (sts T n j)) e.2
      refine ⟨by omega, by omega, fun h => ⟨by omega, ?_⟩⟩
      have w := fe_n (g := isK) (T := T) (n := n) (p := tke T n (sts T n j))
      cases e : isK (T (fe isK T n (tke T n (sts T n j)))) with
      | false => rfl
      | true => exact absurd ⟨h, e⟩ w
    · exact ⟨hn, Int.le_refl _, fun h => absurd h (Int.lt_irrefl _)⟩
theorem sts_s {T : Int → Int} {n : Int} {j : Nat} (h : sts T n j < n) : sts T n (j + 1) = fe isK T n (tke T n (sts T n j)) := by rw [sts, if_pos h]
def tkA (T : Int → Int) (n i : Int) : Int := if sts T n i.toNat < n then tkc T n (sts T n i.toNat) else 0
def nvA (T : Int → Int) (n i : Int) : Int := if sts T n i.toNat < n then tkv T n (sts T n i.toNat) else 0
theorem nvA_b (T : Int → Int) (n i : Int) : 0 ≤ nvA T n i := by
  unfold nvA
  split
  · exact (tkv_b T n _).1
  · omega
theorem tkA_l {T : Int → Int} {n i : Int} (h : tkA T n i ≠ 0) : sts T n i.toNat < n := by
  unfold tkA at h
  split at h
  · assumption
  · exact absurd rfl h
/-- the reference's token: kind, number, word -/
def TkR (k v t u w : Int) : Prop := (k = 0 ∧ t = 0) ∨ (k = 3 ∧ t = 1 ∧ v = mn u ∧ 0 ≤ u ∧ u ≤ 999999) ∨ (t = 2 ∧ k = wc w) ∨ (t = 3 ∧ k = 1) ∨ (k = t ∧ (t = 60 ∨ t = 62 ∨ t = 61 ∨ t = 35 ∨ t = 43 ∨ t = 45 ∨ t = 42 ∨ t = 40 ∨ t = 41 ∨ t = 59 ∨ t = 4 ∨ t = 5))
theorem TkR_0 {k v t u w : Int} (h : TkR k v t u w) : t = 0 ↔ k = 0 := by
  have := wc_v w
  unfold TkR at h; omega
theorem TkR_1 {k v t u w : Int} (h : TkR k v t u w) : t = 1 ↔ k = 3 := by
  have := wc_v w
  unfold TkR at h; omega
theorem TkR_n {k v t u w : Int} (h : TkR k v t u w) (ht : t = 1) : v = mn u ∧ 0 ≤ u ∧ u ≤ 999999 := by
  unfold TkR at h; omega
theorem TkR_g {k v t u w : Int} (h : TkR k v t u w) (x : Int) (hx : x = 60 ∨ x = 62 ∨ x = 61 ∨ x = 35 ∨ x = 43 ∨ x = 45 ∨ x = 42 ∨ x = 40 ∨ x = 41 ∨ x = 59 ∨ x = 4 ∨ x = 5) : t = x ↔ k = x := by
  have := wc_v w
  unfold TkR at h; omega
theorem TkR_w {k v t u w : Int} (h : TkR k v t u w) {x y : Int} (hx : (7 ≤ x ∧ x ≤ 16) ∨ x = 97 ∨ x = 98 ∨ x = 120 ∨ x = 121) (hy : wc w = x ↔ w = y) : (t = 2 ∧ w = y) ↔ k = x := by
  unfold TkR at h; omega
theorem TkR_2 {k v t u w : Int} (h : TkR k v t u w) (ht : t = 2) : k = wc w := by
  unfold TkR at h; omega
theorem TkR_u {k v t u w : Int} (h : TkR k v t u w) (ht : t ≠ 2) : ¬ ((7 ≤ k ∧ k ≤ 16) ∨ k = 97 ∨ k = 98 ∨ k = 120 ∨ k = 121) := by
  unfold TkR at h; omega
