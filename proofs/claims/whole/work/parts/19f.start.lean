/-! the start: the reference -/
def nkF (F : List (Nat × Int)) (k : Nat) : Bool := F.all fun q => q.1 != k
def Ly (p : Nat) (b c : Nat → Nat → Int) (F : List (Nat × Int)) (G : List (Nat × Nat × (Nat → Int))) : Prop := (∀ i k, i < p → c i k = b i k) ∧ (∀ k, nkF F k = true → c p k = b p k) ∧ (∀ q ∈ F, c p q.1 = q.2) ∧ ∀ q ∈ G, ∀ k, k < q.2.1 → c (p + q.1) k = q.2.2 k
theorem nkF_c {F : List (Nat × Int)} {q : Nat × Int} {k : Nat} (h : nkF (q :: F) k = true) : q.1 ≠ k ∧ nkF F k = true := by
  simp only [nkF, List.all_cons, Bool.and_eq_true] at h
  exact ⟨fun e => by rw [e] at h; simp at h, h.2⟩
theorem nkF_m {F : List (Nat × Int)} {k : Nat} (h : nkF F k = true) {q : Nat × Int} (hq : q ∈ F) : q.1 ≠ k := by
  have := List.all_eq_true.mp h q hq
  intro e; rw [e] at this; simp at this
/-- a field is set -/
theorem ly_f {p : Nat} {b c : Nat → Nat → Int} {F : List (Nat × Int)} {G : List (Nat × Nat × (Nat → Int))} (h : Ly p b c F G) (k : Nat) (v : Int) (hF : nkF F k = true) (hG : ∀ q ∈ G, 1 ≤ q.1) : Ly p b (u2 c p k v) ((k, v) :: F) G := by
  obtain ⟨h1, h2, h3, h4⟩ := h
  refine ⟨fun i k' hi => by rw [u2_n (fun w => absurd w.1 (Nat.ne_of_lt hi))]; exact h1 i k' hi, fun k' hk' => ?_, fun q hq => ?_, fun q hq k' hk' => ?_⟩
  · obtain ⟨a, b'⟩ := nkF_c hk'
    rw [u2_n (fun w => a w.2.symm)]; exact h2 k' b'
  · rcases List.mem_cons.mp hq with e | e
    · rw [e]; exact u2_e _ _ _ _
    · rw [u2_n (fun w => nkF_m hF e w.2)]; exact h3 q e
  · rw [u2_n (fun w => by have := hG q hq; omega)]; exact h4 q hq k' hk'
/-- an array is laid -/
theorem ly_a {p m t n : Nat} {f : Nat → Int} {b c c' : Nat → Nat → Int} {F : List (Nat × Int)} {G : List (Nat × Nat × (Nat → Int))} (h : Ly p b c F G) (hG : ∀ q ∈ G, q.1 ≤ m) (e1 : ∀ i k, i ≠ p + 1 + m → c' i k = mkC c (p + 1 + m) t i k) (e2 : ∀ k, k < n → c' (p + 1 + m) k = f k) : Ly p b c' F ((m + 1, n, f) :: G) := by
  obtain ⟨h1, h2, h3, h4⟩ := h
  refine ⟨fun i k' hi => by rw [e1 i k' (by omega), mkC_n (by omega)]; exact h1 i k' hi, fun k' hk' => by rw [e1 _ _ (by omega), mkC_n (by omega)]; exact h2 k' hk', fun q hq => by rw [e1 _ _ (by omega), mkC_n (by omega)]; exact h3 q hq, fun q hq k' hk' => ?_⟩
  rcases List.mem_cons.mp hq with e | e
  · rw [e] at hk' ⊢
    show c' (p + (m + 1)) k' = f k'
    rw [show p + (m + 1) = p + 1 + m by omega]; exact e2 k' hk'
  · have := hG q e
    rw [e1 _ _ (by omega), mkC_n (by omega)]; exact h4 q e k' hk'
theorem all_le {G : List (Nat × Nat × (Nat → Int))} {m : Nat} (h : G.all (fun q => decide (1 ≤ q.1) && decide (q.1 ≤ m)) = true) : ∀ q ∈ G, 1 ≤ q.1 ∧ q.1 ≤ m := fun q hq => by
  have := List.all_eq_true.mp h q hq
  simp only [Bool.and_eq_true, decide_eq_true_eq] at this; exact this
theorem ly_n {s : List (Nat × Nat)} {p m : Nat} {b c : Nat → Nat → Int} {F : List (Nat × Int)} {G : List (Nat × Nat × (Nat → Int))} (h : Ly p b c F G) (hs : s[p]? = some (12, 44)) (hl : s.length = p + 1 + m) (t n k : Nat) (hk : k < 44) (hF : nkF F k = true) (hG : G.all (fun q => decide (1 ≤ q.1) && decide (q.1 ≤ m)) = true) : ∃ S' c', pF (mk (s, c) t n) 12 k (p : Int) ((s.length : Nat) : Int) = some (S', c') ∧ S' = s ++ [(t, n)] ∧ S'[p]? = some (12, 44) ∧ S'.length = p + 1 + (m + 1) ∧ Ly p b c' ((k, ((p + 1 + m : Nat) : Int)) :: F) ((m + 1, n, dfl t) :: G) := by
  have hG' := all_le hG
  refine ⟨s ++ [(t, n)], u2 (mkC c (p + 1 + m) t) p k ((p + 1 + m : Nat) : Int), by rw [mk_p, pF_g (ap hs) _ _ hk, hl], rfl, ap hs, by rw [List.length_append, hl]; rfl, ly_f (ly_a (t := t) (f := dfl t) h (fun q hq => (hG' q hq).2) (fun _ _ _ => rfl) (fun k _ => mkC_e)) k _ hF (fun q hq => ?_)⟩
  rcases List.mem_cons.mp hq with e | e
  · rw [e]; show 1 ≤ m + 1; omega
  · exact (hG' q e).1
theorem ly_w18 {s : List (Nat × Nat)} {p m : Nat} {b c : Nat → Nat → Int} {F : List (Nat × Int)} {G : List (Nat × Nat × (Nat → Int))} (h : Ly p b c F G) (hs : s[p]? = some (12, 44)) (hl : s.length = p + 1 + m) (k : Nat) (hk : k < 44) (hF : nkF F k = true) (hG : G.all (fun q => decide (1 ≤ q.1) && decide (q.1 ≤ m)) = true) : ∃ S' d' c', S' = s ++ [(100, 18)] ∧ d' = u2 (u2 (u2 (u2 (u2 (u2 (u2 (u2 (u2 (u2 (u2 (u2 (u2 (u2 (u2 (u2 (u2 (u2 (mkC c (p + 1 + m) 100) (p + 1 + m) (0 : Int).toNat 0) (p + 1 + m) (1 : Int).toNat 1) (p + 1 + m) (2 : Int).toNat 2) (p + 1 + m) (3 : Int).toNat 1) (p + 1 + m) (4 : Int).toNat 0) (p + 1 + m) (5 : Int).toNat 2) (p + 1 + m) (6 : Int).toNat 1) (p + 1 + m) (7 : Int).toNat 2) (p + 1 + m) (8 : Int).toNat 0) (p + 1 + m) (9 : Int).toNat 2) (p + 1 + m) (10 : Int).toNat 0) (p + 1 + m) (11 : Int).toNat 1) (p + 1 + m) (12 : Int).toNat 0) (p + 1 + m) (13 : Int).toNat 2) (p + 1 + m) (14 : Int).toNat 1) (p + 1 + m) (15 : Int).toNat 2) (p + 1 + m) (16 : Int).toNat 1) (p + 1 + m) (17 : Int).toNat 0 ∧ pF (S', d') 12 k (p : Int) ((p + 1 + m : Nat) : Int) = some (S', c') ∧ S'[p + 1 + m]? = some (100, 18) ∧ S'[p]? = some (12, 44) ∧ S'.length = p + 1 + (m + 1) ∧ Ly p b c' ((k, ((p + 1 + m : Nat) : Int)) :: F) ((m + 1, 18, fun k => ([0, 1, 2, 1, 0, 2, 1, 2, 0, 2, 0, 1, 0, 2, 1, 2, 1, 0] : List Int).getD k 0) :: G) := by
  have hG' := all_le hG
  obtain ⟨d', e, e1, e2⟩ := wr18 (mkC c (p + 1 + m) 100) (p + 1 + m)
  refine ⟨s ++ [(100, 18)], d', u2 d' p k ((p + 1 + m : Nat) : Int), rfl, e, by rw [pF_g (ap hs) _ _ hk], at_e hl, ap hs, by rw [List.length_append, hl]; rfl, ly_f (ly_a (t := 100) (f := fun k => ([0, 1, 2, 1, 0, 2, 1, 2, 0, 2, 0, 1, 0, 2, 1, 2, 1, 0] : List Int).getD k 0) h (fun q hq => (hG' q hq).2) e1 e2) k _ hF (fun q hq => ?_)⟩
  rcases List.mem_cons.mp hq with e | e
  · rw [e]; show 1 ≤ m + 1; omega
  · exact (hG' q e).1
theorem ly_w8 {s : List (Nat × Nat)} {p m : Nat} {b c : Nat → Nat → Int} {F : List (Nat × Int)} {G : List (Nat × Nat × (Nat → Int))} (h : Ly p b c F G) (hs : s[p]? = some (12, 44)) (hl : s.length = p + 1 + m) (k : Nat) (hk : k < 44) (hF : nkF F k = true) (hG : G.all (fun q => decide (1 ≤ q.1) && decide (q.1 ≤ m)) = true) : ∃ S' d' c', S' = s ++ [(100, 8)] ∧ d' = u2 (u2 (u2 (u2 (u2 (u2 (u2 (u2 (mkC c (p + 1 + m) 100) (p + 1 + m) (0 : Int).toNat 1) (p + 1 + m) (1 : Int).toNat 3) (p + 1 + m) (2 : Int).toNat 9) (p + 1 + m) (3 : Int).toNat 27) (p + 1 + m) (4 : Int).toNat 81) (p + 1 + m) (5 : Int).toNat 243) (p + 1 + m) (6 : Int).toNat 729) (p + 1 + m) (7 : Int).toNat 2187 ∧ pF (S', d') 12 k (p : Int) ((p + 1 + m : Nat) : Int) = some (S', c') ∧ S'[p + 1 + m]? = some (100, 8) ∧ S'[p]? = some (12, 44) ∧ S'.length = p + 1 + (m + 1) ∧ Ly p b c' ((k, ((p + 1 + m : Nat) : Int)) :: F) ((m + 1, 8, fun k => ([1, 3, 9, 27, 81, 243, 729, 2187] : List Int).getD k 0) :: G) := by
  have hG' := all_le hG
  obtain ⟨d', e, e1, e2⟩ := wr8 (mkC c (p + 1 + m) 100) (p + 1 + m)
  refine ⟨s ++ [(100, 8)], d', u2 d' p k ((p + 1 + m : Nat) : Int), rfl, e, by rw [pF_g (ap hs) _ _ hk], at_e hl, ap hs, by rw [List.length_append, hl]; rfl, ly_f (ly_a (t := 100) (f := fun k => ([1, 3, 9, 27, 81, 243, 729, 2187] : List Int).getD k 0) h (fun q hq => (hG' q hq).2) e1 e2) k _ hF (fun q hq => ?_)⟩
  rcases List.mem_cons.mp hq with e | e
  · rw [e]; show 1 ≤ m + 1; omega
  · exact (hG' q e).1
