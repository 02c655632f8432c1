/-! orders of lands -/
def sumL (f : List Int → Int) : List (List Int) → Int
  | [] => 0
  | p :: r => f p + sumL f r
theorem sumL_app (f : List Int → Int) : ∀ (a b : List (List Int)), sumL f (a ++ b) = sumL f a + sumL f b
  | [], b => by simp [sumL]
  | p :: r, b => by rw [List.cons_append, sumL, sumL, sumL_app f r b]; omega
theorem sumL_cg {f g : List Int → Int} : ∀ (l : List (List Int)), (∀ p ∈ l, f p = g p) → sumL f l = sumL g l
  | [], _ => rfl
  | p :: r, h => by rw [sumL, sumL, h p List.mem_cons_self, sumL_cg r (fun q hq => h q (List.mem_cons_of_mem _ hq))]
theorem sumL_ad (f g : List Int → Int) : ∀ (l : List (List Int)), sumL (fun p => f p + g p) l = sumL f l + sumL g l
  | [] => rfl
  | p :: r => by rw [sumL, sumL, sumL, sumL_ad f g r]; omega
theorem sumL_nn {f : List Int → Int} (h : ∀ p, 0 ≤ f p) : ∀ (l : List (List Int)), 0 ≤ sumL f l
  | [] => by simp [sumL]
  | p :: r => by have := h p; have := sumL_nn h r; rw [sumL]; omega
theorem sumL_le {f : List Int → Int} (h : ∀ p, f p ≤ 1) : ∀ (l : List (List Int)), sumL f l ≤ l.length
  | [] => by simp [sumL]
  | p :: r => by have := h p; have := sumL_le h r; rw [sumL, List.length_cons]; omega
def catU (g : Int → List (List Int)) : Nat → Int → List (List Int)
  | 0, _ => []
  | n + 1, j => g j ++ catU g n (j + 1)
theorem catU_mem {g : Int → List (List Int)} {p : List Int} : ∀ (n : Nat) (j : Int), p ∈ catU g n j → ∃ i, j ≤ i ∧ i < j + n ∧ p ∈ g i
  | 0, _, h => by cases h
  | n + 1, j, h => by
    rcases List.mem_append.mp h with h | h
    · exact ⟨j, by omega, by omega, h⟩
    · obtain ⟨i, h1, h2, h3⟩ := catU_mem n (j + 1) h
      exact ⟨i, by omega, by omega, h3⟩
theorem sumL_cat (f : List Int → Int) (g : Int → List (List Int)) : ∀ (n : Nat) (j : Int), sumL f (catU g n j) = sumU (fun x => sumL f (g x)) n j
  | 0, _ => rfl
  | n + 1, j => by simp only [catU, sumU]; rw [sumL_app, sumL_cat f g n (j + 1)]
/-- all orders that go on from p, in their order -/
def perL (N : Nat) : Nat → List Int → List (List Int)
  | 0, p => [p]
  | k + 1, p => catU (fun x => if p.contains x then [] else perL N k (p ++ [x])) N 0
theorem perL_s (f : List Int → Int) (N k : Nat) (p : List Int) : sumL f (perL N (k + 1) p) = sumU (fun x => if p.contains x then 0 else sumL f (perL N k (p ++ [x]))) N 0 := by
  simp only [perL]
  rw [sumL_cat]
  refine sumU_cg _ _ (fun x _ _ => ?_)
  by_cases h : p.contains x = true
  · rw [if_pos h, if_pos h]; rfl
  · rw [if_neg h, if_neg h]
theorem getD_a (p : List Int) (x : Int) {j : Nat} (h : j < p.length) : (p ++ [x]).getD j 0 = p.getD j 0 := by
  rw [getD_app, if_neg (by omega)]
theorem getD_l (p : List Int) (x : Int) : (p ++ [x]).getD p.length 0 = x := by
  rw [getD_app, if_pos rfl]
theorem perL_pre (N : Nat) : ∀ (k : Nat) (p q : List Int), q ∈ perL N k p → q.length = p.length + k ∧ ∀ j, j < p.length → q.getD j 0 = p.getD j 0
  | 0, p, q, h => by
    have : q = p := by simpa [perL] using h
    subst this; exact ⟨rfl, fun _ _ => rfl⟩
  | k + 1, p, q, h => by
    obtain ⟨x, -, -, hx⟩ := catU_mem _ _ h
    by_cases g : p.contains x = true
    · rw [if_pos g] at hx; cases hx
    · rw [if_neg g] at hx
      have ih := perL_pre N k (p ++ [x]) q hx
      rw [List.length_append, List.length_singleton] at ih
      exact ⟨by omega, fun j hj => by rw [ih.2 j (by omega), getD_a p x hj]⟩
theorem perL_at {N k : Nat} {p q : List Int} {x : Int} (h : q ∈ perL N k (p ++ [x])) : q.getD p.length 0 = x ∧ ∀ j, j < p.length → q.getD j 0 = p.getD j 0 := by
  have := (perL_pre N k _ _ h).2
  rw [List.length_append, List.length_singleton] at this
  exact ⟨by rw [this p.length (by omega), getD_l], fun j hj => by rw [this j (by omega), getD_a p x hj]⟩
/-- which are in, a bit each -/
def MK (N : Nat) (p : List Int) (x : Int) : Prop := (0 ≤ x ∧ x < 128) ∧ (∀ y : Int, 0 ≤ y → y < 7 → bt x y = p.contains y) ∧ sumU (fun y => b2i (p.contains y)) N 0 = p.length ∧ ∀ y : Int, (N : Int) ≤ y → p.contains y = false
theorem orb_ok : ((List.range 128).all fun x => (List.range 7).all fun y => decide (ior ((x : Nat) : Int) (ishl 1 ((y : Nat) : Int)) < 128) && decide (0 ≤ ior ((x : Nat) : Int) (ishl 1 ((y : Nat) : Int))) && (List.range 7).all fun z => bt (ior ((x : Nat) : Int) (ishl 1 ((y : Nat) : Int))) ((z : Nat) : Int) == (bt ((x : Nat) : Int) ((z : Nat) : Int) || z == y)) = true := by decide +kernel
theorem orb {x y : Int} (x0 : 0 ≤ x) (x1 : x < 128) (y0 : 0 ≤ y) (y1 : y < 7) : (0 ≤ ior x (ishl 1 y) ∧ ior x (ishl 1 y) < 128) ∧ ∀ z, 0 ≤ z → z < 7 → bt (ior x (ishl 1 y)) z = (bt x z || decide (z = y)) := by
  have := List.all_eq_true.mp orb_ok x.toNat (List.mem_range.mpr (by omega))
  have := List.all_eq_true.mp this y.toNat (List.mem_range.mpr (by omega))
  rw [Int.toNat_of_nonneg x0, Int.toNat_of_nonneg y0] at this
  simp only [Bool.and_eq_true, decide_eq_true_eq] at this
  refine ⟨⟨this.1.2, this.1.1⟩, fun z z0 z1 => ?_⟩
  have := List.all_eq_true.mp this.2 z.toNat (List.mem_range.mpr (by omega))
  rw [Int.toNat_of_nonneg z0, beq_iff_eq] at this
  rw [this]
  congr 1
  by_cases e : z = y
  · rw [decide_eq_true e, e]; exact beq_self_eq_true _
  · rw [decide_eq_false e]; exact beq_eq_false_iff_ne.mpr (by omega)
theorem con_a (p : List Int) (x y : Int) : (p ++ [x]).contains y = (p.contains y || decide (y = x)) := by
  rw [Bool.eq_iff_iff]
  simp
theorem sum_one (x : Int) (N : Nat) (x0 : 0 ≤ x) (x1 : x < N) : sumU (fun y => b2i (decide (y = x))) N 0 = 1 := by
  rw [sumU_cg (g := fun y => b2i (decide (x = y))) N 0 (fun y _ _ => by rw [decide_eq_decide.mpr eq_comm]), sumU_pt, if_pos ⟨x0, by omega⟩]
theorem MK_a {N : Nat} (hN : N ≤ 7) {p : List Int} {b x : Int} (h : MK N p b) (x0 : 0 ≤ x) (x1 : x < N) (hx : p.contains x = false) : MK N (p ++ [x]) (ior b (ishl 1 x)) := by
  obtain ⟨hb, hc, hs, hn⟩ := h
  have o := orb hb.1 hb.2 x0 (by omega)
  refine ⟨o.1, fun y y0 y1 => by rw [o.2 y y0 y1, hc y y0 y1, con_a], ?_, fun y hy => by rw [con_a, hn y hy, decide_eq_false (by omega)]; rfl⟩
  rw [List.length_append, List.length_singleton]
  have : sumU (fun y => b2i ((p ++ [x]).contains y)) N 0 = sumU (fun y => b2i (p.contains y) + b2i (decide (y = x))) N 0 := sumU_cg _ _ (fun y _ _ => by
    rw [con_a]
    by_cases e : y = x
    · subst e; rw [hx, decide_eq_true rfl]; rfl
    · rw [decide_eq_false e, Bool.or_false, b2i_f, Int.add_zero])
  rw [this, sumU_ad, hs, sum_one x N x0 x1]; omega
theorem full_ok : ((List.range 8).all fun n => decide (n < 2) || (List.range 128).all fun x => decide (((x : Nat) : Int) = w32 (ishl 1 ((n : Nat) : Int) - 1)) == (allU (fun y => bt ((x : Nat) : Int) y) n 0 && allU (fun y => !bt ((x : Nat) : Int) y) (7 - n) ((n : Nat) : Int))) = true := by decide +kernel
theorem MK_full {N : Nat} (h2 : 2 ≤ N) (hN : N ≤ 7) {p : List Int} {b : Int} (h : MK N p b) : (b = w32 (ishl 1 (N : Int) - 1)) ↔ p.length = N := by
  obtain ⟨hb, hc, hs, hn⟩ := h
  have := List.all_eq_true.mp full_ok N (List.mem_range.mpr (by omega))
  rw [decide_eq_false (show ¬ N < 2 by omega), Bool.false_or] at this
  have := List.all_eq_true.mp this b.toNat (List.mem_range.mpr (by omega))
  rw [Int.toNat_of_nonneg hb.1, beq_iff_eq] at this
  have hi : allU (fun y => !bt b y) (7 - N) (N : Int) = true := (allU_iff _ _ _).mpr (fun y y0 y1 => by
    rw [hc y (by omega) (by omega), hn y y0]; rfl)
  rw [hi, Bool.and_true] at this
  have e : b = w32 (ishl 1 (N : Int) - 1) ↔ allU (fun y => bt b y) N 0 = true := by rw [← this, decide_eq_true_eq]
  rw [e]
  constructor
  · intro g
    have : sumU (fun y => b2i (p.contains y)) N 0 = sumU (fun _ => 1) N 0 := sumU_cg _ _ (fun y y0 y1 => by
      have := (allU_iff _ _ _).mp g y y0 y1
      rw [hc y y0 (by omega)] at this
      rw [this]; rfl)
    rw [sumU_one, hs] at this; omega
  · intro g
    refine (allU_iff _ _ _).mpr (fun y y0 y1 => ?_)
    have := sumU_eq (f := fun y => b2i (p.contains y)) (g := fun _ => 1) N 0 (fun i _ _ => (b2i_b _).2) (by rw [sumU_one, hs]; omega) y y0 y1
    rw [hc y y0 (by omega)]
    exact b2i_1.mp this
/-- the next order, as it is found -/
def f1N (p : List Int) : Nat → Int
  | 0 => -1
  | k + 1 => if p.getD (k + 1) 0 < p.getD k 0 then f1N p k else (k : Int)
def f2N (p : List Int) (i : Nat) : Nat → Nat
  | 0 => 0
  | k + 1 => if p.getD k 0 < p.getD i 0 then f2N p i k else k
def swN (p : List Int) (i j : Nat) : List Int := (p.set i (p.getD j 0)).set j (p.getD i 0)
def rvN : Nat → List Int → Nat → Nat → List Int
  | 0, p, _, _ => p
  | f + 1, p, a, b => if a < b then rvN f (swN p a b) (a + 1) (b - 1) else p
def nxN (N : Nat) (p : List Int) : Option (List Int) := if f1N p (N - 1) < 0 then none else some (rvN N (swN p (f1N p (N - 1)).toNat (f2N p (f1N p (N - 1)).toNat N)) ((f1N p (N - 1)).toNat + 1) (N - 1))
def chN' (N : Nat) : List (List Int) → Bool
  | [] => false
  | p :: r => match nxN N p, r with
    | none, [] => true
    | some q, q' :: _ => (q == q') && chN' N r
    | _, _ => false
theorem chN_2 : chN' 2 (perL 2 2 []) = true := by decide +kernel
theorem chN_3 : chN' 3 (perL 3 3 []) = true := by decide +kernel
theorem chN_4 : chN' 4 (perL 4 4 []) = true := by decide +kernel
theorem chN_5 : chN' 5 (perL 5 5 []) = true := by decide +kernel
theorem chN_6 : chN' 6 (perL 6 6 []) = true := by decide +kernel
theorem chN_7 : chN' 7 (perL 7 7 []) = true := by decide +kernel
