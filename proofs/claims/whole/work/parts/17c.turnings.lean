/-! orders as turnings -/
theorem sumU_sn (f : Int → Int) : ∀ (n : Nat) (j : Int), sumU f (n + 1) j = sumU f n j + f (j + n)
  | 0, j => by simp [sumU]
  | n + 1, j => by
    rw [sumU, sumU_sn f n (j + 1), sumU, show j + 1 + (n : Int) = j + ((n + 1 : Nat) : Int) by omega]; omega
/-- an order's sum is a sum over all that are in it -/
def RX (N : Nat) (p : List Int) : Prop := (∀ f : Int → Int, sumU (fun x => f (p.getD x.toNat 0)) p.length 0 = sumU (fun y => if p.contains y then f y else 0) N 0) ∧ sumU (fun y => b2i (p.contains y)) N 0 = p.length ∧ ∀ j, j < p.length → 0 ≤ p.getD j 0 ∧ p.getD j 0 < N
theorem RX_0 (N : Nat) : RX N [] := ⟨fun f => by
  show 0 = _
  rw [sumU_cg (g := fun _ => 0) N 0 (fun y _ _ => if_neg (by simp)), sumU_0], by
  rw [sumU_cg (g := fun _ => 0) N 0 (fun y _ _ => by simp [b2i]), sumU_0]; rfl, fun j hj => by simp at hj⟩
theorem RX_a {N : Nat} {p : List Int} {x : Int} (h : RX N p) (x0 : 0 ≤ x) (x1 : x < N) (hx : p.contains x = false) : RX N (p ++ [x]) := by
  obtain ⟨h1, h2, h3⟩ := h
  refine ⟨fun f => ?_, ?_, fun j hj => ?_⟩
  · rw [List.length_append, List.length_singleton, sumU_sn, sumU_cg (g := fun x => f (p.getD x.toNat 0)) p.length 0 (fun i i0 i1 => by rw [getD_a p x (by omega)]), h1 f, Int.zero_add, Int.toNat_natCast, getD_l]
    have : sumU (fun y => if (p ++ [x]).contains y then f y else 0) N 0 = sumU (fun y => (if p.contains y then f y else 0) + (if y = x then f y else 0)) N 0 := sumU_cg _ _ (fun y _ _ => by
      rw [con_a]
      by_cases e : y = x
      · subst e; rw [hx, decide_eq_true rfl]; simp
      · rw [decide_eq_false e, Bool.or_false, if_neg e, Int.add_zero])
    rw [this, sumU_ad, sumU_at, if_pos ⟨x0, by omega⟩]
  · rw [List.length_append, List.length_singleton]
    have : sumU (fun y => b2i ((p ++ [x]).contains y)) N 0 = sumU (fun y => b2i (p.contains y) + b2i (decide (y = x))) N 0 := sumU_cg _ _ (fun y _ _ => by
      rw [con_a]
      by_cases e : y = x
      · subst e; rw [hx, decide_eq_true rfl]; rfl
      · rw [decide_eq_false e, Bool.or_false, b2i_f, Int.add_zero])
    rw [this, sumU_ad, h2, sum_one x N x0 x1]; omega
  · rw [List.length_append, List.length_singleton] at hj
    rw [getD_app]
    by_cases e : j = p.length
    · rw [if_pos e]; exact ⟨x0, x1⟩
    · rw [if_neg e]; exact h3 j (by omega)
theorem perL_rx (N : Nat) : ∀ (k : Nat) (p q : List Int), RX N p → q ∈ perL N k p → RX N q
  | 0, p, q, h, hq => by
    have : q = p := by simpa [perL] using hq
    subst this; exact h
  | k + 1, p, q, h, hq => by
    obtain ⟨x, x0, x1, hx⟩ := catU_mem _ _ hq
    by_cases g : p.contains x = true
    · rw [if_pos g] at hx; cases hx
    · rw [if_neg g] at hx
      exact perL_rx N k (p ++ [x]) q (RX_a h x0 (by omega) (Bool.eq_false_iff.mpr g)) hx
theorem RX_full {N : Nat} {q : List Int} (h : RX N q) (hl : q.length = N) (f : Int → Int) : sumU (fun x => f (q.getD x.toNat 0)) N 0 = sumU f N 0 := by
  have := h.1 f
  rw [hl] at this
  rw [this]
  refine sumU_cg _ _ (fun y y0 y1 => ?_)
  have := sumU_eq (f := fun y => b2i (q.contains y)) (g := fun _ => 1) N 0 (fun i _ _ => (b2i_b _).2) (by rw [sumU_one, h.2.1, hl]) y y0 y1
  rw [if_pos (b2i_1.mp this)]
/-- how many pairs are joined -/
theorem any_sum {f : Int → Bool} : ∀ (n : Nat) (j : Int), (∀ i i', j ≤ i → i < i' → i' < j + n → f i = true → f i' = true → False) → b2i (anyU f n j) = sumU (fun e => b2i (f e)) n j
  | 0, _, _ => rfl
  | n + 1, j, h => by
    have ih := any_sum (f := f) n (j + 1) (fun i i' h1 h2 h3 => h i i' (by omega) h2 (by omega))
    simp only [anyU, sumU]
    rw [← ih]
    by_cases g : f j = true
    · have : anyU f n (j + 1) = false := Bool.eq_false_iff.mpr (fun w => by
        obtain ⟨i, h1, h2, h3⟩ := (anyU_t _ _).mp w
        exact h j i (by omega) (by omega) (by omega) g h3)
      rw [this, g]; rfl
    · rw [Bool.eq_false_iff.mpr g, Bool.false_or, b2i_f, Int.zero_add]
theorem isB_sym (c : Nat → Nat → Int) (m x y : Int) : isB c m x y = isB c m y x := by
  unfold isB
  exact anyU_cg _ _ (fun e _ _ => by unfold edg; exact decide_eq_decide.mpr Or.comm)
theorem two_ends {a b : Int} (h : a ≠ b) (x y : Int) : b2i (decide ((a = x ∧ b = y) ∨ (a = y ∧ b = x))) = b2i (decide (a = x)) * b2i (decide (b = y)) + b2i (decide (b = x)) * b2i (decide (a = y)) := by
  by_cases h1 : a = x
  · by_cases h2 : b = y
    · rw [decide_eq_true (Or.inl ⟨h1, h2⟩), decide_eq_true h1, decide_eq_true h2, decide_eq_false (show ¬ b = x by omega)]; simp [b2i]
    · rw [decide_eq_false (show ¬ ((a = x ∧ b = y) ∨ (a = y ∧ b = x)) by omega), decide_eq_true h1, decide_eq_false h2, decide_eq_false (show ¬ b = x by omega)]; simp [b2i]
  · by_cases h3 : b = x
    · by_cases h4 : a = y
      · rw [decide_eq_true (Or.inr ⟨h4, h3⟩), decide_eq_false h1, decide_eq_true h3, decide_eq_true h4]; simp [b2i]
      · rw [decide_eq_false (show ¬ ((a = x ∧ b = y) ∨ (a = y ∧ b = x)) by omega), decide_eq_false h1, decide_eq_true h3, decide_eq_false h4]; simp [b2i]
    · rw [decide_eq_false (show ¬ ((a = x ∧ b = y) ∨ (a = y ∧ b = x)) by omega), decide_eq_false h1, decide_eq_false h3]; simp [b2i]
theorem sumU_ml (k : Int) (f : Int → Int) : ∀ (n : Nat) (j : Int), sumU (fun x => k * f x) n j = k * sumU f n j
  | 0, _ => by simp [sumU]
  | n + 1, j => by simp only [sumU]; rw [sumU_ml k f n (j + 1), Int.mul_add]
theorem sumU_mr (k : Int) (f : Int → Int) : ∀ (n : Nat) (j : Int), sumU (fun x => f x * k) n j = sumU f n j * k
  | 0, _ => by simp [sumU]
  | n + 1, j => by simp only [sumU]; rw [sumU_mr k f n (j + 1), Int.add_mul]
theorem two_sum {a b : Int} {N : Nat} (h : a ≠ b) (a0 : 0 ≤ a ∧ a < N) (b0 : 0 ≤ b ∧ b < N) : sumU (fun x => sumU (fun y => b2i (decide ((a = x ∧ b = y) ∨ (a = y ∧ b = x)))) N 0) N 0 = 2 := by
  rw [sumU_cg (g := fun x => b2i (decide (a = x)) * sumU (fun y => b2i (decide (b = y))) N 0 + b2i (decide (b = x)) * sumU (fun y => b2i (decide (a = y))) N 0) N 0 (fun x _ _ => by
    rw [sumU_cg (g := fun y => b2i (decide (a = x)) * b2i (decide (b = y)) + b2i (decide (b = x)) * b2i (decide (a = y))) N 0 (fun y _ _ => two_ends h x y), sumU_ad, sumU_ml, sumU_ml])]
  rw [sumU_ad, sumU_mr, sumU_mr, sumU_pt, sumU_pt, if_pos ⟨a0.1, by omega⟩, if_pos ⟨b0.1, by omega⟩]; rfl
theorem deg_sum {c : Nat → Nat → Int} {q : Nat} {m : Int} (h : MapRel (c 143) c q m) {N : Nat} (eN : c 143 (20 + m).toNat = (N : Int)) : sumU (fun x => sumU (fun y => b2i (isB c m x y)) N 0) N 0 = 2 * c 143 (24 + m).toNat := by
  obtain ⟨-, -, kb, k6, -⟩ := h
  have e1 : ∀ x y, b2i (isB c m x y) = sumU (fun e => b2i (edg c m x y e)) (c 143 (24 + m).toNat).toNat 0 := fun x y => any_sum _ _ (fun i i' h1 h2 h3 f1 f2 => by
    have d := (k6 i' (by omega) (by omega)).2.2.2.2 i h1 h2
    unfold edf at d
    have f1 := of_decide_eq_true f1
    have f2 := of_decide_eq_true f2
    have d := of_decide_eq_false d
    omega)
  have e2 : ∀ x, sumU (fun y => b2i (isB c m x y)) N 0 = sumU (fun e => sumU (fun y => b2i (edg c m x y e)) N 0) (c 143 (24 + m).toNat).toNat 0 := fun x => by
    rw [sumU_cg (g := fun y => sumU (fun e => b2i (edg c m x y e)) (c 143 (24 + m).toNat).toNat 0) N 0 (fun y _ _ => e1 x y), sumU_swap]
  rw [sumU_cg (g := fun x => sumU (fun e => sumU (fun y => b2i (edg c m x y e)) N 0) (c 143 (24 + m).toNat).toNat 0) N 0 (fun x _ _ => e2 x), sumU_swap]
  rw [sumU_cg (g := fun _ => 2 * 1) (c 143 (24 + m).toNat).toNat 0 (fun e e0 e1 => by
    have k := k6 e e0 (by omega)
    rw [eN] at k
    exact two_sum k.2.2.2.1 k.2.1 k.2.2.1), sumU_ml, sumU_one]
  omega
/-- an order keeps all borders and no others -/
def isoF (c : Nat → Nat → Int) (m m' : Int) (z : List Int) (n : Nat) (l : Int) : Bool := allU (fun x => allU (fun e => isB c m x e == isB c m' (z.getD x.toNat 0) (z.getD e.toNat 0)) x.toNat 0) n l
theorem iso_tu {c : Nat → Nat → Int} {q q' : Nat} {m m' : Int} (h : MapRel (c 143) c q m) (h' : MapRel (c 143) c q' m') {N : Nat} (eN : c 143 (20 + m).toNat = (N : Int)) (eN' : c 143 (20 + m').toNat = (N : Int)) (eB : c 143 (24 + m).toNat = c 143 (24 + m').toNat) {z : List Int} (hz : RX N z) (hl : z.length = N) : isoF c m m' z N 0 = tuP c m m' z := by
  have k6 := h.2.2.2.1
  have kb := h.2.2.1
  rw [Bool.eq_iff_iff]
  unfold isoF tuP
  constructor
  · intro g
    refine (allU_iff _ _ _).mpr (fun e e0 e1 => ?_)
    have k := k6 e e0 (by omega)
    rw [eN] at k
    obtain ⟨-, ⟨a0, a1⟩, ⟨b0, b1⟩, ne, -⟩ := k
    have hb : isB c m (c 143 (30 + 30 * m + 2 * e).toNat) (c 143 (30 + 30 * m + 2 * e + 1).toNat) = true := (anyU_t _ _).mpr ⟨e, e0, e1, decide_eq_true (Or.inl ⟨rfl, rfl⟩)⟩
    by_cases w : c 143 (30 + 30 * m + 2 * e).toNat < c 143 (30 + 30 * m + 2 * e + 1).toNat
    · have := (allU_iff _ _ _).mp ((allU_iff _ _ _).mp g _ b0 (by omega)) _ a0 (by omega)
      rw [beq_iff_eq, isB_sym, hb, isB_sym c m'] at this
      exact this.symm
    · have := (allU_iff _ _ _).mp ((allU_iff _ _ _).mp g _ a0 (by omega)) _ b0 (by omega)
      rw [beq_iff_eq, hb] at this
      exact this.symm
  · intro g
    have le : ∀ x y : Int, 0 ≤ x → x < N → 0 ≤ y → y < N → b2i (isB c m x y) ≤ b2i (isB c m' (z.getD x.toNat 0) (z.getD y.toNat 0)) := fun x y _ _ _ _ => by
      by_cases w : isB c m x y = true
      · obtain ⟨e, e0, e1, he⟩ := (anyU_t _ _).mp w
        have he := of_decide_eq_true he
        have t := (allU_iff _ _ _).mp g e e0 e1
        have : isB c m' (z.getD x.toNat 0) (z.getD y.toNat 0) = true := by
          rcases he with ⟨h1, h2⟩ | ⟨h1, h2⟩
          · rw [h1, h2] at t; exact t
          · rw [h1, h2, isB_sym] at t; exact t
        rw [w, this]; exact Int.le_refl _
      · rw [Bool.eq_false_iff.mpr w]; exact (b2i_b _).1
    have s1 := deg_sum h eN
    have s2 := deg_sum h' eN'
    have s3 : sumU (fun x => sumU (fun y => b2i (isB c m' (z.getD x.toNat 0) (z.getD y.toNat 0))) N 0) N 0 = 2 * c 143 (24 + m').toNat := by
      rw [sumU_cg (g := fun x => sumU (fun y => b2i (isB c m' (z.getD x.toNat 0) y)) N 0) N 0 (fun x _ _ => RX_full hz hl (fun y => b2i (isB c m' (z.getD x.toNat 0) y))), RX_full hz hl (fun x => sumU (fun y => b2i (isB c m' x y)) N 0)]
      exact s2
    have r1 := sumU_eq (f := fun x => sumU (fun y => b2i (isB c m x y)) N 0) (g := fun x => sumU (fun y => b2i (isB c m' (z.getD x.toNat 0) (z.getD y.toNat 0))) N 0) N 0 (fun x x0 x1 => sumU_ge _ _ (fun y y0 y1 => le x y x0 (by omega) y0 (by omega))) (by rw [s1, s3, eB])
    refine (allU_iff _ _ _).mpr (fun x x0 x1 => (allU_iff _ _ _).mpr (fun e e0 e1 => ?_))
    have r2 := sumU_eq (f := fun y => b2i (isB c m x y)) (g := fun y => b2i (isB c m' (z.getD x.toNat 0) (z.getD y.toNat 0))) N 0 (fun y y0 y1 => le x y x0 (by omega) y0 (by omega)) (r1 x x0 x1) e e0 (by omega)
    rw [beq_iff_eq]
    exact b2i_inj.mp r2
theorem tu_sum {c : Nat → Nat → Int} {q q' : Nat} {m m' : Int} (h : MapRel (c 143) c q m) (h' : MapRel (c 143) c q' m') {N : Nat} (eN : c 143 (20 + m).toNat = (N : Int)) (eN' : c 143 (20 + m').toNat = (N : Int)) (eB : c 143 (24 + m).toNat = c 143 (24 + m').toNat) : sumL (fun z => b2i (isoF c m m' z N 0)) (perL N N []) = sumL (fun z => b2i (tuP c m m' z)) (perL N N []) := sumL_cg _ (fun z hz => by
  have l := (perL_pre N N [] z hz).1
  rw [List.length_nil, Nat.zero_add] at l
  rw [iso_tu h h' eN eN' eB (perL_rx N N [] z (RX_0 N) hz) l])
theorem id_sum {c : Nat → Nat → Int} {m : Int} (hM : MapOK c m) {N : Nat} (h2 : 2 ≤ N) (hN : N ≤ 7) (eN : c 143 (20 + m).toNat = (N : Int)) : 0 < sumL (fun z => b2i (tuP c m m z)) (perL N N []) := by
  obtain ⟨-, ⟨r, er⟩, -⟩ := per_ok h2 hN
  have : tuP c m m (idL N) = true := by
    unfold tuP
    refine (allU_iff _ _ _).mpr (fun e e0 e1 => ?_)
    have k := hM.2.2.2 e e0 (by omega)
    rw [eN] at k
    rw [idL_at (by omega), idL_at (by omega), Int.toNat_of_nonneg k.1.1, Int.toNat_of_nonneg k.2.1]
    exact (anyU_t _ _).mpr ⟨e, e0, e1, decide_eq_true (Or.inl ⟨rfl, rfl⟩)⟩
  have nn := sumL_nn (f := fun z => b2i (tuP c m m z)) (fun z => (b2i_b _).1) r
  rw [er, sumL, this, b2i_t]; omega
theorem perL_b {f : List Int → Int} (h0 : ∀ z, 0 ≤ f z) (h1 : ∀ z, f z ≤ 1) {N : Nat} (hN : N ≤ 7) : ∀ (k : Nat) (p : List Int), 0 ≤ sumL f (perL N k p) ∧ sumL f (perL N k p) ≤ (7 : Int) ^ k
  | 0, p => by
    have a := h0 p
    have b := h1 p
    simp only [perL, sumL, Int.pow_zero]; omega
  | k + 1, p => by
    have P := pw_pos (show (0 : Int) < 7 by decide) k
    rw [perL_s]
    have := sumU_b (B := (7 : Int) ^ k) (fun x => if p.contains x then 0 else sumL f (perL N k (p ++ [x]))) N 0 (fun x _ _ => by
      show 0 ≤ (if p.contains x then 0 else sumL f (perL N k (p ++ [x]))) ∧ (if p.contains x then 0 else sumL f (perL N k (p ++ [x]))) ≤ (7 : Int) ^ k
      have ih := perL_b h0 h1 hN k (p ++ [x])
      split
      · omega
      · exact ih)
    have : (7 : Int) ^ k * N ≤ 7 ^ k * 7 := Int.mul_le_mul_of_nonneg_left (by omega) (by omega)
    rw [Int.pow_succ]; omega
