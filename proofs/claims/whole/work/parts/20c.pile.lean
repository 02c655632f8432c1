/-! a pile of what is open, beside the parser that calls itself -/
def fl (p : List Int) : List (Int × Int) := p.map fun q => (q, 0)
def rp (k : Nat) : List (Int × Int) := List.replicate k (2, 0)
def r2 (k : Nat) : List Int := List.replicate k 2
def Hd (S : Int → Prop) (B : List Int) : Prop := ∀ b r, B = b :: r → S b
def Al (S : Int → Prop) (p : List Int) : Prop := ∀ q ∈ p, S q
theorem fl_a (p q : List Int) : fl (p ++ q) = fl p ++ fl q := List.map_append
theorem Hd_c {S : Int → Prop} {b : Int} {r : List Int} (h : S b) : Hd S (b :: r) := fun b' r' e => by
  have := (List.cons.inj e).1
  rw [← this]; exact h
theorem Hd_n {S : Int → Prop} : Hd S [] := fun _ _ e => by cases e
theorem Hd_i {S T : Int → Prop} {B : List Int} (h : Hd S B) (g : ∀ b, S b → T b) : Hd T B := fun b r e => g b (h b r e)
theorem Al_n {S : Int → Prop} : Al S [] := fun _ h => by cases h
theorem Al_1 {S : Int → Prop} {b : Int} (h : S b) : Al S [b] := fun q hq => by rw [List.mem_singleton.mp hq]; exact h
theorem Al_a {S : Int → Prop} {p q : List Int} (h : Al S p) (g : Al S q) : Al S (p ++ q) := fun x hx => by
  rcases List.mem_append.mp hx with w | w
  · exact h x w
  · exact g x w
theorem Al_i {S T : Int → Prop} {p : List Int} (h : Al S p) (g : ∀ b, S b → T b) : Al T p := fun q hq => g q (h q hq)
abbrev i35 (q : Int) : Prop := 3 ≤ q ∧ q ≤ 5
/-- what the pile does, step by step -/
def Cl (tk nv : Int → Int) (Er : Int → Int → Prop) (Fi : Int → Int → List (Int × Int) → Prop) (G : Int → Int → Int → List Int → List (Int × Int) → Prop) : Prop :=
  (∀ (i o : Int) (k : Nat) (B : List Int) (X : List (Int × Int)), tk i ≠ 40 → tk i ≠ 45 → (opnd tk nv i).1 = 0 → Hd (· ≠ 2) B → k ≤ 60 → B.length ≤ 60 → G (opnd tk nv i).2.1 (o - (k : Int)) 1 B (X ++ (opnd tk nv i).2.2 ++ rp k) → G i o 0 (r2 k ++ B) X) ∧
  (∀ i o B X, tk i ≠ 40 → tk i ≠ 45 → (opnd tk nv i).1 ≠ 0 → Er (opnd tk nv i).1 (opnd tk nv i).2.1 → G i o 0 B X) ∧
  (∀ i B X, (tk i = 40 ∨ tk i = 45) → Er 3 i → G i 8 0 B X) ∧
  (∀ i o B X, tk i = 40 → o < 8 → B.length ≤ 60 → G (i + 1) (o + 1) 0 (40 :: B) X → G i o 0 B X) ∧
  (∀ i o B X, tk i = 45 → o < 8 → B.length ≤ 60 → G (i + 1) (o + 1) 0 (2 :: B) X → G i o 0 B X) ∧
  (∀ i o p B X, (tk i = 43 ∨ tk i = 45) → Al i35 p → Hd (· = 40) B → p.length ≤ 60 → B.length ≤ 60 → G (i + 1) o 0 (addO (tk i) :: B) (X ++ fl p) → G i o 1 (p ++ B) X) ∧
  (∀ i o p B X, tk i = 42 → Al (· = 5) p → Hd (fun b => b = 40 ∨ b < 5) B → p.length ≤ 60 → B.length ≤ 60 → G (i + 1) o 0 (5 :: B) (X ++ fl p) → G i o 1 (p ++ B) X) ∧
  (∀ (i o : Int) (p : List Int) (k : Nat) (B : List Int) (X : List (Int × Int)), tk i = 41 → Al i35 p → Hd (· ≠ 2) B → p.length ≤ 20 → k ≤ 20 → B.length ≤ 60 → G (i + 1) (o - 1 - (k : Int)) 1 B (X ++ fl p ++ rp k) → G i o 1 (p ++ 40 :: (r2 k ++ B)) X) ∧
  (∀ i o p B X, tk i ≠ 43 → tk i ≠ 45 → tk i ≠ 42 → tk i ≠ 41 → Al i35 p → p.length ≤ 60 → B.length ≤ 60 → Er 1 i → G i o 1 (p ++ 40 :: B) X) ∧
  (∀ i o p X, tk i ≠ 43 → tk i ≠ 45 → tk i ≠ 42 → Al i35 p → p.length ≤ 60 → Fi i o (X ++ fl p) → G i o 1 p X)
theorem pBd_s {r : Rs} {k : Int → Rs} (h : r.1 = 0) : pBd r k = ((k r.2.1).1, (k r.2.1).2.1, r.2.2 ++ (k r.2.1).2.2) := if_pos h
theorem mulL_n {tk : Int → Int} {P : Int → Rs} {i : Int} (h : tk i ≠ 42) : ∀ f, mulL tk P f i = pOk i []
  | 0 => rfl
  | f + 1 => by unfold mulL; rw [if_neg h]
theorem mulL_e {tk : Int → Int} {P : Int → Rs} {i : Int} {f : Nat} (h : tk i = 42) (h1 : (P (i + 1)).1 ≠ 0) : mulL tk P (f + 1) i = P (i + 1) := by
  unfold mulL; rw [if_pos h, pBd_er h1]
theorem mulL_s {tk : Int → Int} {P : Int → Rs} {i : Int} {f : Nat} (h : tk i = 42) (h1 : (P (i + 1)).1 = 0) : mulL tk P (f + 1) i = ((mulL tk P f (P (i + 1)).2.1).1, (mulL tk P f (P (i + 1)).2.1).2.1, (P (i + 1)).2.2 ++ ([(5, 0)] ++ (mulL tk P f (P (i + 1)).2.1).2.2)) := by
  rw [mulL, if_pos h, pBd_s h1, pBd_ok]
theorem addL_n {tk : Int → Int} {P : Int → Rs} {i : Int} (h : ¬ (tk i = 43 ∨ tk i = 45)) : ∀ f, addL tk P f i = pOk i []
  | 0 => rfl
  | f + 1 => by unfold addL; rw [if_neg h]
theorem addL_e {tk : Int → Int} {P : Int → Rs} {i : Int} {f : Nat} (h : tk i = 43 ∨ tk i = 45) (h1 : (term tk P (i + 1)).1 ≠ 0) : addL tk P (f + 1) i = term tk P (i + 1) := by
  unfold addL; rw [if_pos h, pBd_er h1]
theorem addL_s {tk : Int → Int} {P : Int → Rs} {i : Int} {f : Nat} (h : tk i = 43 ∨ tk i = 45) (h1 : (term tk P (i + 1)).1 = 0) : addL tk P (f + 1) i = ((addL tk P f (term tk P (i + 1)).2.1).1, (addL tk P f (term tk P (i + 1)).2.1).2.1, (term tk P (i + 1)).2.2 ++ ([(addO (tk i), 0)] ++ (addL tk P f (term tk P (i + 1)).2.1).2.2)) := by
  rw [addL, if_pos h, pBd_s h1, pBd_ok]
theorem addO_v (x : Int) : addO x = 3 ∨ addO x = 4 := by unfold addO; split <;> omega
def FC (tk nv : Int → Int) (cnt : Int) (Er : Int → Int → Prop) (G : Int → Int → Int → List Int → List (Int × Int) → Prop) (m : Nat) : Prop :=
  ∀ (i o : Int) (k : Nat) (B : List Int) (X : List (Int × Int)), o + (m : Int) = 8 → Hd (· ≠ 2) B → k + B.length + 3 * m ≤ 60 → k + m ≤ 20 → 0 ≤ i → i ≤ cnt → ((fac tk nv m i).1 ≠ 0 → Er (fac tk nv m i).1 (fac tk nv m i).2.1) → ((fac tk nv m i).1 = 0 → G (fac tk nv m i).2.1 (o - (k : Int)) 1 B (X ++ (fac tk nv m i).2.2 ++ rp k)) → G i o 0 (r2 k ++ B) X
theorem ml_c {tk nv : Int → Int} {cnt : Int} (hz : tk cnt = 0) {Er : Int → Int → Prop} {Fi : Int → Int → List (Int × Int) → Prop} {G : Int → Int → Int → List Int → List (Int × Int) → Prop} (hC : Cl tk nv Er Fi G) {m : Nat} (hF : FC tk nv cnt Er G m) {o : Int} (ho : o + (m : Int) = 8) {B : List Int} (hB : Hd (fun b => b = 40 ∨ b = 3 ∨ b = 4) B) (hl : B.length + 1 + 3 * m ≤ 60) : ∀ (f : Nat) (i : Int) (p : List Int) (X Y : List (Int × Int)), X ++ fl p = Y → Al (· = 5) p → p.length ≤ 1 → 0 ≤ i → i ≤ cnt → cnt ≤ i + f → ((mulL tk (fac tk nv m) f i).1 ≠ 0 → Er (mulL tk (fac tk nv m) f i).1 (mulL tk (fac tk nv m) f i).2.1) → ((mulL tk (fac tk nv m) f i).1 = 0 → tk (mulL tk (fac tk nv m) f i).2.1 ≠ 42 → ∀ p' X', Al (· = 5) p' → p'.length ≤ 1 → X' ++ fl p' = Y ++ (mulL tk (fac tk nv m) f i).2.2 → G (mulL tk (fac tk nv m) f i).2.1 o 1 (p' ++ B) X') → G i o 1 (p ++ B) X := by
  intro f
  induction f with
  | zero =>
    intro i p X Y hX hp hp1 h0 h1 hf _ K
    have e : i = cnt := by omega
    have hn : tk i ≠ 42 := by rw [e, hz]; decide
    exact K rfl hn p X hp hp1 (by rw [hX]; show Y = Y ++ []; rw [List.append_nil])
  | succ f ih =>
    intro i p X Y hX hp hp1 h0 h1 hf E K
    by_cases h : tk i = 42
    · refine hC.2.2.2.2.2.2.1 i o p B X h hp (Hd_i hB (fun b hb => by omega)) (by omega) (by omega) ?_
      rw [hX]
      have hlt := tk_lt hz h1 (by rw [h]; decide)
      have w := fac_w hz (nv := nv) m (i + 1) (by omega) hlt
      have w1 := w.1
      by_cases hr : (fac tk nv m (i + 1)).1 = 0
      · rw [mulL_s h hr] at E K
        refine hF (i + 1) o 0 (5 :: B) Y ho (Hd_c (by decide)) (by simp only [List.length_cons]; omega) (by omega) (by omega) hlt (fun g => absurd hr g) (fun _ => ?_)
        have e : Y ++ (fac tk nv m (i + 1)).2.2 ++ rp 0 = Y ++ (fac tk nv m (i + 1)).2.2 := List.append_nil _
        rw [e, show o - ((0 : Nat) : Int) = o by omega]
        refine ih (fac tk nv m (i + 1)).2.1 [5] _ (Y ++ (fac tk nv m (i + 1)).2.2 ++ [(5, 0)]) rfl (Al_1 rfl) (by simp) (by omega) (by omega) (by omega) E (fun g1 g2 p' X' g3 g4 g5 => K g1 g2 p' X' g3 g4 ?_)
        rw [g5]; simp only [List.append_assoc]
      · rw [mulL_e h hr] at E
        exact hF (i + 1) o 0 (5 :: B) Y ho (Hd_c (by decide)) (by simp only [List.length_cons]; omega) (by omega) (by omega) hlt E (fun g => absurd g hr)
    · rw [mulL_n h] at K
      exact K rfl h p X hp hp1 (by rw [hX]; show Y = Y ++ []; rw [List.append_nil])
theorem tm_c {tk nv : Int → Int} {cnt : Int} (hz : tk cnt = 0) (hc : cnt ≤ 300) {Er : Int → Int → Prop} {Fi : Int → Int → List (Int × Int) → Prop} {G : Int → Int → Int → List Int → List (Int × Int) → Prop} (hC : Cl tk nv Er Fi G) {m : Nat} (hF : FC tk nv cnt Er G m) {o : Int} (ho : o + (m : Int) = 8) {B : List Int} (hB : Hd (fun b => b = 40 ∨ b = 3 ∨ b = 4) B) (hl : B.length + 1 + 3 * m ≤ 60) (i : Int) (X : List (Int × Int)) (h0 : 0 ≤ i) (h1 : i ≤ cnt) (E : (term tk (fac tk nv m) i).1 ≠ 0 → Er (term tk (fac tk nv m) i).1 (term tk (fac tk nv m) i).2.1) (K : (term tk (fac tk nv m) i).1 = 0 → tk (term tk (fac tk nv m) i).2.1 ≠ 42 → ∀ p' X', Al (· = 5) p' → p'.length ≤ 1 → X' ++ fl p' = X ++ (term tk (fac tk nv m) i).2.2 → G (term tk (fac tk nv m) i).2.1 o 1 (p' ++ B) X') : G i o 0 B X := by
  have w := fac_w hz (nv := nv) m i h0 h1
  have w1 := w.1
  by_cases hr : (fac tk nv m i).1 = 0
  · unfold term at E K
    rw [pBd_s hr] at E K
    refine hF i o 0 B X ho (Hd_i hB (fun b hb => by omega)) (by omega) (by omega) h0 h1 (fun g => absurd hr g) (fun _ => ?_)
    have e : X ++ (fac tk nv m i).2.2 ++ rp 0 = X ++ (fac tk nv m i).2.2 := List.append_nil _
    rw [e, show o - ((0 : Nat) : Int) = o by omega]
    refine ml_c hz hC hF ho hB hl 300 (fac tk nv m i).2.1 [] _ (X ++ (fac tk nv m i).2.2) (List.append_nil _) Al_n (by simp) (by omega) (by omega) (by omega) E (fun g1 g2 p' X' g3 g4 g5 => K g1 g2 p' X' g3 g4 ?_)
    rw [g5]; simp only [List.append_assoc]
  · unfold term at E
    rw [pBd_er hr] at E
    exact hF i o 0 B X ho (Hd_i hB (fun b hb => by omega)) (by omega) (by omega) h0 h1 E (fun g => absurd g hr)
theorem al_c {tk nv : Int → Int} {cnt : Int} (hz : tk cnt = 0) (hc : cnt ≤ 300) {Er : Int → Int → Prop} {Fi : Int → Int → List (Int × Int) → Prop} {G : Int → Int → Int → List Int → List (Int × Int) → Prop} (hC : Cl tk nv Er Fi G) {m : Nat} (hF : FC tk nv cnt Er G m) {o : Int} (ho : o + (m : Int) = 8) {B : List Int} (hB : Hd (· = 40) B) (hl : B.length + 2 + 3 * m ≤ 60) : ∀ (f : Nat) (i : Int) (p : List Int) (X Y : List (Int × Int)), X ++ fl p = Y → Al i35 p → p.length ≤ 2 → 0 ≤ i → i ≤ cnt → cnt ≤ i + f → tk i ≠ 42 → ((addL tk (fac tk nv m) f i).1 ≠ 0 → Er (addL tk (fac tk nv m) f i).1 (addL tk (fac tk nv m) f i).2.1) → ((addL tk (fac tk nv m) f i).1 = 0 → (tk (addL tk (fac tk nv m) f i).2.1 ≠ 42 ∧ tk (addL tk (fac tk nv m) f i).2.1 ≠ 43 ∧ tk (addL tk (fac tk nv m) f i).2.1 ≠ 45) → ∀ p' X', Al i35 p' → p'.length ≤ 2 → X' ++ fl p' = Y ++ (addL tk (fac tk nv m) f i).2.2 → G (addL tk (fac tk nv m) f i).2.1 o 1 (p' ++ B) X') → G i o 1 (p ++ B) X := by
  intro f
  induction f with
  | zero =>
    intro i p X Y hX hp hp1 h0 h1 hf h2 _ K
    have e : i = cnt := by omega
    have hn : tk i = 0 := by rw [e, hz]
    exact K rfl (by show tk i ≠ 42 ∧ tk i ≠ 43 ∧ tk i ≠ 45; omega) p X hp hp1 (by rw [hX]; show Y = Y ++ []; rw [List.append_nil])
  | succ f ih =>
    intro i p X Y hX hp hp1 h0 h1 hf h2 E K
    by_cases h : tk i = 43 ∨ tk i = 45
    · refine hC.2.2.2.2.2.1 i o p B X h hp hB (by omega) (by omega) ?_
      rw [hX]
      have hlt := tk_lt hz h1 (by omega)
      have w := term_w hz (fac_w hz (nv := nv) m) (i + 1) (by omega) hlt
      have w1 := w.1
      have hB2 : Hd (fun b => b = 40 ∨ b = 3 ∨ b = 4) (addO (tk i) :: B) := Hd_c (by have := addO_v (tk i); omega)
      by_cases hr : (term tk (fac tk nv m) (i + 1)).1 = 0
      · rw [addL_s h hr] at E K
        refine tm_c hz hc hC hF ho hB2 (by simp only [List.length_cons]; omega) (i + 1) Y (by omega) hlt (fun g => absurd hr g) (fun _ q2 p' X' q3 q4 q5 => ?_)
        have e : p' ++ addO (tk i) :: B = (p' ++ [addO (tk i)]) ++ B := by simp
        rw [e]
        refine ih _ (p' ++ [addO (tk i)]) X' (Y ++ (term tk (fac tk nv m) (i + 1)).2.2 ++ [(addO (tk i), 0)]) ?_ (Al_a (Al_i q3 (fun b hb => by show 3 ≤ b ∧ b ≤ 5; omega)) (Al_1 (by show 3 ≤ addO (tk i) ∧ addO (tk i) ≤ 5; have := addO_v (tk i); omega))) (by rw [List.length_append]; simp only [List.length_cons, List.length_nil]; omega) (by omega) (by omega) (by omega) q2 E (fun g1 g2 p'' X'' g3 g4 g5 => K g1 g2 p'' X'' g3 g4 ?_)
        · rw [fl_a, ← List.append_assoc, q5]; rfl
        · rw [g5]; simp only [List.append_assoc]
      · rw [addL_e h hr] at E
        exact tm_c hz hc hC hF ho hB2 (by simp only [List.length_cons]; omega) (i + 1) Y (by omega) hlt E (fun g => absurd g hr)
    · rw [addL_n h] at K
      exact K rfl (by show tk i ≠ 42 ∧ tk i ≠ 43 ∧ tk i ≠ 45; omega) p X hp hp1 (by rw [hX]; show Y = Y ++ []; rw [List.append_nil])
theorem ex_c {tk nv : Int → Int} {cnt : Int} (hz : tk cnt = 0) (hc : cnt ≤ 300) {Er : Int → Int → Prop} {Fi : Int → Int → List (Int × Int) → Prop} {G : Int → Int → Int → List Int → List (Int × Int) → Prop} (hC : Cl tk nv Er Fi G) {m : Nat} (hF : FC tk nv cnt Er G m) {o : Int} (ho : o + (m : Int) = 8) {B : List Int} (hB : Hd (· = 40) B) (hl : B.length + 2 + 3 * m ≤ 60) (i : Int) (X : List (Int × Int)) (h0 : 0 ≤ i) (h1 : i ≤ cnt) (E : (expr tk (fac tk nv m) i).1 ≠ 0 → Er (expr tk (fac tk nv m) i).1 (expr tk (fac tk nv m) i).2.1) (K : (expr tk (fac tk nv m) i).1 = 0 → (tk (expr tk (fac tk nv m) i).2.1 ≠ 42 ∧ tk (expr tk (fac tk nv m) i).2.1 ≠ 43 ∧ tk (expr tk (fac tk nv m) i).2.1 ≠ 45) → ∀ p' X', Al i35 p' → p'.length ≤ 2 → X' ++ fl p' = X ++ (expr tk (fac tk nv m) i).2.2 → G (expr tk (fac tk nv m) i).2.1 o 1 (p' ++ B) X') : G i o 0 B X := by
  have w := term_w hz (fac_w hz (nv := nv) m) i h0 h1
  have w1 := w.1
  have hB2 : Hd (fun b => b = 40 ∨ b = 3 ∨ b = 4) B := Hd_i hB (fun b hb => by omega)
  by_cases hr : (term tk (fac tk nv m) i).1 = 0
  · unfold expr at E K
    rw [pBd_s hr] at E K
    refine tm_c hz hc hC hF ho hB2 (by omega) i X h0 h1 (fun g => absurd hr g) (fun _ q2 p' X' q3 q4 q5 => ?_)
    refine al_c hz hc hC hF ho hB hl 300 _ p' X' (X ++ (term tk (fac tk nv m) i).2.2) q5 (Al_i q3 (fun b hb => by show 3 ≤ b ∧ b ≤ 5; omega)) (by omega) (by omega) (by omega) (by omega) q2 E (fun g1 g2 p'' X'' g3 g4 g5 => K g1 g2 p'' X'' g3 g4 ?_)
    rw [g5]; simp only [List.append_assoc]
  · unfold expr at E
    rw [pBd_er hr] at E
    exact tm_c hz hc hC hF ho hB2 (by omega) i X h0 h1 E (fun g => absurd g hr)
theorem fc_o {tk nv : Int → Int} {Er : Int → Int → Prop} {Fi : Int → Int → List (Int × Int) → Prop} {G : Int → Int → Int → List Int → List (Int × Int) → Prop} (hC : Cl tk nv Er Fi G) {i o : Int} {k : Nat} {B : List Int} {X : List (Int × Int)} (hB : Hd (· ≠ 2) B) (hl : k + B.length ≤ 60) (n1 : tk i ≠ 40) (n2 : tk i ≠ 45) (E : (opnd tk nv i).1 ≠ 0 → Er (opnd tk nv i).1 (opnd tk nv i).2.1) (K : (opnd tk nv i).1 = 0 → G (opnd tk nv i).2.1 (o - (k : Int)) 1 B (X ++ (opnd tk nv i).2.2 ++ rp k)) : G i o 0 (r2 k ++ B) X := by
  by_cases hr : (opnd tk nv i).1 = 0
  · exact hC.1 i o k B X n1 n2 hr hB (by omega) (by omega) (K hr)
  · exact hC.2.1 i o _ X n1 n2 hr (E hr)
theorem r2_l (k : Nat) : (r2 k).length = k := List.length_replicate
theorem fc_all {tk nv : Int → Int} {cnt : Int} (hz : tk cnt = 0) (hc : cnt ≤ 300) {Er : Int → Int → Prop} {Fi : Int → Int → List (Int × Int) → Prop} {G : Int → Int → Int → List Int → List (Int × Int) → Prop} (hC : Cl tk nv Er Fi G) : ∀ m : Nat, FC tk nv cnt Er G m := by
  intro m
  induction m with
  | zero =>
    intro i o k B X ho hB hl hk h0 h1 E K
    by_cases h : tk i = 40 ∨ tk i = 45
    · have e : fac tk nv 0 i = pEr 3 i := by unfold fac; rw [if_pos h]
      rw [e] at E
      have e8 : o = 8 := by omega
      subst e8
      exact hC.2.2.1 i _ X h (E (by show (3 : Int) ≠ 0; decide))
    · have e : fac tk nv 0 i = opnd tk nv i := by unfold fac; rw [if_neg h]
      rw [e] at E K
      exact fc_o hC hB (by omega) (by omega) (by omega) E K
  | succ m ih =>
    intro i o k B X ho hB hl hk h0 h1 E K
    by_cases h : tk i = 40
    · have hlt := tk_lt hz h1 (by rw [h]; decide)
      have e : fac tk nv (m + 1) i = pBd (expr tk (fac tk nv m) (i + 1)) (fun j => if tk j = 41 then pOk (j + 1) [] else pEr 1 j) := by
        rw [fac, if_pos h]
      refine hC.2.2.2.1 i o _ X h (by omega) (by rw [List.length_append, r2_l]; omega) ?_
      rw [e] at E K
      by_cases hr : (expr tk (fac tk nv m) (i + 1)).1 = 0
      · rw [pBd_s hr] at E K
        refine ex_c hz hc hC ih (by omega) (Hd_c rfl) (by simp only [List.length_cons, List.length_append, r2_l]; omega) (i + 1) X (by omega) hlt (fun g => absurd hr g) (fun _ q p' X' q3 q4 q5 => ?_)
        by_cases h41 : tk (expr tk (fac tk nv m) (i + 1)).2.1 = 41
        · simp only [if_pos h41] at E K
          refine hC.2.2.2.2.2.2.2.1 _ (o + 1) p' k B X' h41 q3 hB (by omega) (by omega) (by omega) ?_
          have K' := K rfl
          rw [q5, show o + 1 - 1 - (k : Int) = o - (k : Int) by omega]
          have e2 : X ++ ((expr tk (fac tk nv m) (i + 1)).2.2 ++ (pOk ((expr tk (fac tk nv m) (i + 1)).2.1 + 1) []).2.2) = X ++ (expr tk (fac tk nv m) (i + 1)).2.2 := by
            show X ++ ((expr tk (fac tk nv m) (i + 1)).2.2 ++ []) = _
            rw [List.append_nil]
          rw [e2] at K'
          exact K'
        · simp only [if_neg h41] at E K
          exact hC.2.2.2.2.2.2.2.2.1 _ (o + 1) p' _ X' q.2.1 q.2.2 q.1 h41 q3 (by omega) (by rw [List.length_append, r2_l]; omega) (E (by show (1 : Int) ≠ 0; decide))
      · rw [pBd_er hr] at E
        exact ex_c hz hc hC ih (by omega) (Hd_c rfl) (by simp only [List.length_cons, List.length_append, r2_l]; omega) (i + 1) X (by omega) hlt E (fun g => absurd g hr)
    · by_cases h2 : tk i = 45
      · have hlt := tk_lt hz h1 (by rw [h2]; decide)
        have e : fac tk nv (m + 1) i = pBd (fac tk nv m (i + 1)) (fun j => pOk j [(2, 0)]) := by
          rw [fac, if_neg h, if_pos h2]
        refine hC.2.2.2.2.1 i o _ X h2 (by omega) (by rw [List.length_append, r2_l]; omega) ?_
        rw [e] at E K
        have er : (2 : Int) :: (r2 k ++ B) = r2 (k + 1) ++ B := rfl
        rw [er]
        by_cases hr : (fac tk nv m (i + 1)).1 = 0
        · rw [pBd_s hr] at E K
          refine ih (i + 1) (o + 1) (k + 1) B X (by omega) hB (by omega) (by omega) (by omega) hlt (fun g => absurd hr g) (fun _ => ?_)
          have K' := K rfl
          rw [show o + 1 - ((k + 1 : Nat) : Int) = o - (k : Int) by omega]
          have e2 : X ++ ((fac tk nv m (i + 1)).2.2 ++ (pOk (fac tk nv m (i + 1)).2.1 [(2, 0)]).2.2) ++ rp k = X ++ (fac tk nv m (i + 1)).2.2 ++ rp (k + 1) := by
            show X ++ ((fac tk nv m (i + 1)).2.2 ++ [(2, 0)]) ++ rp k = X ++ (fac tk nv m (i + 1)).2.2 ++ ((2, 0) :: rp k)
            simp only [List.append_assoc, List.singleton_append]
          rw [e2] at K'
          exact K'
        · rw [pBd_er hr] at E
          refine ih (i + 1) (o + 1) (k + 1) B X (by omega) hB (by omega) ?_ (by omega) hlt E (fun g => absurd g hr)
          omega
      · have e : fac tk nv (m + 1) i = opnd tk nv i := by rw [fac, if_neg h, if_neg h2]
        rw [e] at E K
        exact fc_o hC hB (by omega) h h2 E K
theorem sum_c {tk nv : Int → Int} {cnt : Int} (hz : tk cnt = 0) (hc : cnt ≤ 300) {Er : Int → Int → Prop} {Fi : Int → Int → List (Int × Int) → Prop} {G : Int → Int → Int → List Int → List (Int × Int) → Prop} (hC : Cl tk nv Er Fi G) {m : Nat} (hm : m ≤ 8) {o : Int} (ho : o + (m : Int) = 8) (i : Int) (X : List (Int × Int)) (h0 : 0 ≤ i) (h1 : i ≤ cnt) (E : (expr tk (fac tk nv m) i).1 ≠ 0 → Er (expr tk (fac tk nv m) i).1 (expr tk (fac tk nv m) i).2.1) (K : (expr tk (fac tk nv m) i).1 = 0 → Fi (expr tk (fac tk nv m) i).2.1 o (X ++ (expr tk (fac tk nv m) i).2.2)) : G i o 0 [] X := by
  refine ex_c hz hc hC (fc_all hz hc hC m) ho Hd_n (by simp only [List.length_nil]; omega) i X h0 h1 E (fun g1 g2 p' X' g3 g4 g5 => ?_)
  rw [List.append_nil]
  refine hC.2.2.2.2.2.2.2.2.2 _ o p' X' g2.2.1 g2.2.2 g2.1 g3 (by omega) ?_
  rw [g5]
  exact K g1
