/-! the parser goes on: places and counts -/
def WP (cnt a i : Int) (r : Rs) : Prop := (i ≤ r.2.1 ∧ r.2.1 ≤ cnt) ∧ (r.1 = 0 → (r.2.2.length : Int) + i ≤ r.2.1 + a) ∧ 0 ≤ r.1 ∧ r.1 ≤ 3
def WQ (cnt : Int) (P : Int → Rs) : Prop := ∀ i, 0 ≤ i → i ≤ cnt → WP cnt 0 i (P i)
theorem WP_ok {cnt i a : Int} {E : List (Int × Int)} (h : i ≤ cnt) (ha : (E.length : Int) ≤ a) : WP cnt a i (pOk i E) := ⟨⟨Int.le_refl _, h⟩, fun _ => by show (E.length : Int) + i ≤ i + a; omega, by show (0 : Int) ≤ 0; omega, by show (0 : Int) ≤ 3; omega⟩
theorem WP_er {cnt i a e : Int} (h : i ≤ cnt) (h1 : 1 ≤ e) (h3 : e ≤ 3) : WP cnt a i (pEr e i) := ⟨⟨Int.le_refl _, h⟩, fun w => by have : e = 0 := w; omega, by show 0 ≤ e; omega, h3⟩
theorem WP_b {cnt a b i : Int} {r : Rs} {k : Int → Rs} (h : WP cnt a i r) (g : r.1 = 0 → WP cnt b r.2.1 (k r.2.1)) : WP cnt (a + b) i (pBd r k) := by
  by_cases e : r.1 = 0
  · have g := g e
    unfold pBd
    rw [if_pos e]
    obtain ⟨⟨h1, h2⟩, h3, h4, h5⟩ := h
    obtain ⟨⟨g1, g2⟩, g3, g4, g5⟩ := g
    refine ⟨⟨by show i ≤ (k r.2.1).2.1; omega, g2⟩, fun w => ?_, g4, g5⟩
    have := g3 w
    have := h3 e
    show ((r.2.2 ++ (k r.2.1).2.2).length : Int) + i ≤ (k r.2.1).2.1 + (a + b)
    rw [List.length_append]; omega
  · rw [pBd_er e]
    obtain ⟨h1, h3, h4, h5⟩ := h
    exact ⟨h1, fun w => absurd w e, h4, h5⟩
theorem WP_s {cnt a i : Int} {r : Rs} (h : WP cnt a (i + 1) r) : WP cnt (a - 1) i r := by
  obtain ⟨⟨h1, h2⟩, h3, h4, h5⟩ := h
  exact ⟨⟨by omega, h2⟩, fun w => by have := h3 w; omega, h4, h5⟩
theorem WP_l {cnt a b i : Int} {r : Rs} (h : WP cnt a i r) (hab : a ≤ b) : WP cnt b i r := by
  obtain ⟨⟨h1, h2⟩, h3, h4, h5⟩ := h
  exact ⟨⟨by omega, h2⟩, fun w => by have := h3 w; omega, h4, h5⟩
theorem tk_lt {tk : Int → Int} {cnt : Int} (hz : tk cnt = 0) {i : Int} (h : i ≤ cnt) (hn : tk i ≠ 0) : i + 1 ≤ cnt := by
  rcases Int.lt_or_eq_of_le h with w | w
  · omega
  · rw [w] at hn; exact absurd hz hn
theorem opnd_w {tk nv : Int → Int} {cnt : Int} (hz : tk cnt = 0) : WQ cnt (opnd tk nv) := fun i h0 h => by
  have s1 : ∀ (v : Int) (q : Int × Int), tk i = v → v ≠ 0 → WP cnt 0 i (pOk (i + 1) [q]) := fun v q e hv => WP_s (a := 1) (WP_ok (tk_lt hz h (by rw [e]; exact hv)) (by simp))
  unfold opnd
  split
  · rename_i e
    split
    · exact WP_er h (by decide) (by decide)
    · exact s1 3 _ e (by decide)
  · split
    · exact s1 97 _ (by assumption) (by decide)
    · split
      · exact s1 98 _ (by assumption) (by decide)
      · split
        · exact s1 120 _ (by assumption) (by decide)
        · split
          · exact s1 121 _ (by assumption) (by decide)
          · exact WP_er h (by decide) (by decide)
theorem mulL_w {tk : Int → Int} {cnt : Int} (hz : tk cnt = 0) {P : Int → Rs} (hP : WQ cnt P) : ∀ (f : Nat) (i : Int), 0 ≤ i → i ≤ cnt → WP cnt 0 i (mulL tk P f i)
  | 0, i, h0, h => WP_ok h (by simp)
  | f + 1, i, h0, h => by
    unfold mulL
    split
    · rename_i e
      have hl := tk_lt hz h (by rw [e]; decide)
      have a := hP (i + 1) (by omega) hl
      refine WP_s (a := 1) (WP_l (WP_b (b := 1) a (fun _ => ?_)) (by omega))
      exact WP_l (WP_b (a := 1) (b := 0) (WP_ok a.1.2 (by simp)) (fun _ => mulL_w hz hP f _ (by have := a.1.1; show 0 ≤ (P (i + 1)).2.1; omega) a.1.2)) (by omega)
    · exact WP_ok h (by simp)
theorem term_w {tk : Int → Int} {cnt : Int} (hz : tk cnt = 0) {P : Int → Rs} (hP : WQ cnt P) : WQ cnt (term tk P) := fun i h0 h => by
  have a := hP i h0 h
  exact WP_l (WP_b (b := 0) a (fun _ => mulL_w hz hP 300 _ (by have := a.1.1; omega) a.1.2)) (by omega)
theorem addL_w {tk : Int → Int} {cnt : Int} (hz : tk cnt = 0) {P : Int → Rs} (hP : WQ cnt P) : ∀ (f : Nat) (i : Int), 0 ≤ i → i ≤ cnt → WP cnt 0 i (addL tk P f i)
  | 0, i, h0, h => WP_ok h (by simp)
  | f + 1, i, h0, h => by
    unfold addL
    split
    · rename_i e
      have hl := tk_lt hz h (by rcases e with e | e <;> rw [e] <;> decide)
      have a := term_w hz hP (i + 1) (by omega) hl
      refine WP_s (a := 1) (WP_l (WP_b (b := 1) a (fun _ => ?_)) (by omega))
      exact WP_l (WP_b (a := 1) (b := 0) (WP_ok a.1.2 (by simp)) (fun _ => addL_w hz hP f _ (by have := a.1.1; show 0 ≤ (term tk P (i + 1)).2.1; omega) a.1.2)) (by omega)
    · exact WP_ok h (by simp)
theorem expr_w {tk : Int → Int} {cnt : Int} (hz : tk cnt = 0) {P : Int → Rs} (hP : WQ cnt P) : WQ cnt (expr tk P) := fun i h0 h => by
  have a := term_w hz hP i h0 h
  exact WP_l (WP_b (b := 0) a (fun _ => addL_w hz hP 300 _ (by have := a.1.1; omega) a.1.2)) (by omega)
theorem fac_w {tk nv : Int → Int} {cnt : Int} (hz : tk cnt = 0) : ∀ m : Nat, WQ cnt (fac tk nv m)
  | 0, i, h0, h => by
    unfold fac
    split
    · exact WP_er h (by decide) (by decide)
    · exact opnd_w hz i h0 h
  | m + 1, i, h0, h => by
    unfold fac
    split
    · rename_i e
      have hl := tk_lt hz h (by rw [e]; decide)
      have a := expr_w hz (fac_w hz (nv := nv) m) (i + 1) (by omega) hl
      refine WP_l (WP_s (a := 0) (WP_l (WP_b (b := 0) a (fun _ => ?_)) (by omega))) (by omega)
      split
      · rename_i e2
        exact WP_l (WP_s (a := 0) (WP_ok (tk_lt hz a.1.2 (by rw [e2]; decide)) (by simp))) (by omega)
      · exact WP_er a.1.2 (by decide) (by decide)
    · split
      · rename_i e
        have hl := tk_lt hz h (by rw [e]; decide)
        have a := fac_w hz (nv := nv) m (i + 1) (by omega) hl
        exact WP_s (a := 1) (WP_l (WP_b (b := 1) a (fun _ => WP_ok a.1.2 (by simp))) (by omega))
      · exact opnd_w hz i h0 h
theorem cmpO_z {x : Int} (h : ¬ cmpO x < 0) : x ≠ 0 := fun e => by subst e; exact h (by decide)
theorem cmpE_w {tk : Int → Int} {cnt : Int} (hz : tk cnt = 0) {P : Int → Rs} (hP : WQ cnt P) : WQ cnt (cmpE tk P) := fun i h0 h => by
  have a := expr_w hz hP i h0 h
  refine WP_l (WP_b (b := 0) a (fun _ => ?_)) (by omega)
  show WP cnt 0 (expr tk P i).2.1 (if cmpO (tk (expr tk P i).2.1) < 0 then _ else _)
  split
  · exact WP_er a.1.2 (by decide) (by decide)
  · rename_i e
    have b := expr_w hz hP ((expr tk P i).2.1 + 1) (by have := a.1.1; omega) (tk_lt hz a.1.2 (cmpO_z e))
    exact WP_s (a := 1) (WP_l (WP_b (b := 1) b (fun _ => WP_ok b.1.2 (by simp))) (by omega))
theorem cmpP_w {tk nv : Int → Int} {cnt : Int} (hz : tk cnt = 0) : ∀ m : Nat, WQ cnt (cmpP tk nv m)
  | 0, i, h0, h => by
    unfold cmpP
    split
    · exact WP_er h (by decide) (by decide)
    · exact cmpE_w hz (fac_w hz 0) i h0 h
  | m + 1, i, h0, h => by
    unfold cmpP
    split
    · rename_i e
      have hl := tk_lt hz h (by rw [e]; decide)
      have a := cmpP_w hz (nv := nv) m (i + 1) (by omega) hl
      exact WP_s (a := 1) (WP_l (WP_b (b := 1) a (fun _ => WP_ok a.1.2 (by simp))) (by omega))
    · exact cmpE_w hz (fac_w hz (m + 1)) i h0 h
theorem andL_w {tk nv : Int → Int} {cnt : Int} (hz : tk cnt = 0) : ∀ (f : Nat) (i : Int), 0 ≤ i → i ≤ cnt → WP cnt 0 i (andL tk nv f i)
  | 0, i, h0, h => WP_ok h (by simp)
  | f + 1, i, h0, h => by
    unfold andL
    split
    · rename_i e
      have hl := tk_lt hz h (by rw [e]; decide)
      have a := cmpP_w hz (nv := nv) 8 (i + 1) (by omega) hl
      refine WP_s (a := 1) (WP_l (WP_b (b := 1) a (fun _ => ?_)) (by omega))
      exact WP_l (WP_b (a := 1) (b := 0) (WP_ok a.1.2 (by simp)) (fun _ => andL_w hz f _ (by have := a.1.1; show 0 ≤ (cmpP tk nv 8 (i + 1)).2.1; omega) a.1.2)) (by omega)
    · exact WP_ok h (by simp)
theorem andP_w {tk nv : Int → Int} {cnt : Int} (hz : tk cnt = 0) : WQ cnt (andP tk nv) := fun i h0 h => by
  have a := cmpP_w hz (nv := nv) 8 i h0 h
  exact WP_l (WP_b (b := 0) a (fun _ => andL_w hz 300 _ (by have := a.1.1; omega) a.1.2)) (by omega)
theorem orL_w {tk nv : Int → Int} {cnt : Int} (hz : tk cnt = 0) : ∀ (f : Nat) (i : Int), 0 ≤ i → i ≤ cnt → WP cnt 0 i (orL tk nv f i)
  | 0, i, h0, h => WP_ok h (by simp)
  | f + 1, i, h0, h => by
    unfold orL
    split
    · rename_i e
      have hl := tk_lt hz h (by rw [e]; decide)
      have a := andP_w hz (nv := nv) (i + 1) (by omega) hl
      refine WP_s (a := 1) (WP_l (WP_b (b := 1) a (fun _ => ?_)) (by omega))
      exact WP_l (WP_b (a := 1) (b := 0) (WP_ok a.1.2 (by simp)) (fun _ => orL_w hz f _ (by have := a.1.1; show 0 ≤ (andP tk nv (i + 1)).2.1; omega) a.1.2)) (by omega)
    · exact WP_ok h (by simp)
theorem orP_w {tk nv : Int → Int} {cnt : Int} (hz : tk cnt = 0) : WQ cnt (orP tk nv) := fun i h0 h => by
  have a := andP_w hz (nv := nv) i h0 h
  exact WP_l (WP_b (b := 0) a (fun _ => orL_w hz 300 _ (by have := a.1.1; omega) a.1.2)) (by omega)
/-- sound steps are not none -/
theorem GdE_l {E : List (Int × Int)} (h : GdE E) : 1 ≤ (E.length : Int) := by
  cases E with
  | nil =>
    obtain ⟨-, f, hf⟩ := h
    have := (hf (fun _ => 0)).2.1 []
    exact absurd this (by simp [runC])
  | cons q E => simp only [List.length_cons]; omega
theorem GdB_l {E : List (Int × Int)} (h : GdB E) : 1 ≤ (E.length : Int) := by
  cases E with
  | nil =>
    obtain ⟨-, f, hf⟩ := h
    have := (hf (fun _ => 0)).2.1 []
    exact absurd this (by simp [runC])
  | cons q E => simp only [List.length_cons]; omega
