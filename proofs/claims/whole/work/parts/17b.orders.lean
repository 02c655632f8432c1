/-! orders: the reference -/
def AR (c : Nat → Nat → Int) (p : List Int) (N : Nat) : Prop := p.length = N ∧ ∀ j, j < N → c 149 j = p.getD j 0
theorem getD_set (p : List Int) (i j : Nat) (v : Int) (hi : i < p.length) : (p.set i v).getD j 0 = if j = i then v else p.getD j 0 := by
  rw [List.getD_eq_getElem?_getD, List.getD_eq_getElem?_getD, List.getElem?_set]
  by_cases e : i = j
  · subst e; rw [if_pos rfl, if_pos hi, if_pos rfl]; rfl
  · rw [if_neg e, if_neg (fun w => e w.symm)]
theorem AR_sw {c : Nat → Nat → Int} {p : List Int} {N i j : Nat} (h : AR c p N) (hi : i < N) (hj : j < N) : AR (u2 (u2 c 149 i (p.getD j 0)) 149 j (p.getD i 0)) (swN p i j) N := by
  obtain ⟨hl, hc⟩ := h
  refine ⟨by unfold swN; rw [List.length_set, List.length_set]; exact hl, fun l hl2 => ?_⟩
  unfold swN
  rw [getD_set _ _ _ _ (by rw [List.length_set]; omega), getD_set _ _ _ _ (by omega)]
  by_cases e : l = j
  · subst e; rw [u2_e, if_pos rfl]
  · rw [u2_n (fun w => e w.2), if_neg e]
    by_cases e2 : l = i
    · subst e2; rw [u2_e, if_pos rfl]
    · rw [u2_n (fun w => e2 w.2), if_neg e2]; exact hc l hl2
theorem f1N_b (p : List Int) : ∀ k : Nat, -1 ≤ f1N p k ∧ f1N p k < k
  | 0 => by simp [f1N]
  | k + 1 => by
    have := f1N_b p k
    simp only [f1N]
    split <;> omega
theorem f2N_b {p : List Int} {i : Nat} : ∀ k : Nat, i < k → i ≤ f2N p i k ∧ f2N p i k < k
  | 0, h => by omega
  | k + 1, h => by
    simp only [f2N]
    by_cases g : p.getD k 0 < p.getD i 0
    · rw [if_pos g]
      have : i ≠ k := fun w => by subst w; omega
      have := f2N_b (p := p) (i := i) k (by omega)
      omega
    · rw [if_neg g]; omega
section
variable {s : List (Nat × Nat)} {c : Nat → Nat → Int}
theorem m187_4 (d : Nat) (hs : SpL s) (hm : MS c) {N : Nat} (hN : N ≤ 7) {p : List Int} (hA : AR c p N) (o3 o4 o5 o6 : Option AV) : ∀ k : Nat, k + 1 ≤ N → Rr (Cd d) 187 4 [some (vA 142), some (vI (N : Int)), some (vI ((k : Int) - 1)), o3, o4, o5, o6] [] (s, c) = Rr (Cd d) 187 19 [some (vA 142), some (vI (N : Int)), some (vI (f1N p k)), o3, o4, o5, o6] [] (s, c)
  | 0, h => by rw [c187_4, if_pos (by omega)]; rfl
  | k + 1, h => by
    have ih := m187_4 d hs hm hN hA o3 o4 o5 o6 k (by omega)
    have t1 : (k : Int).toNat = k := Int.toNat_natCast k
    have t2 : ((k : Int) + 1).toNat = k + 1 := by omega
    have a1 := hA.2 k (by omega)
    have a2 := hA.2 (k + 1) (by omega)
    rw [show ((k + 1 : Nat) : Int) - 1 = (k : Int) by omega, c187_4, if_neg (by omega)]
    repeat (first | rw [bnd_s] | rw [tI_m] | rw [tL_m] | rw [tA_m] | rw [tV_m] | rw [fC142 hs _ (by decide)] | rw [pC142 hs _ _ (by decide)] | rw [MS_7 hm] | rw [aC149 hs _ (show (0 : Int) ≤ (k : Int) by omega) (by omega)] | rw [w32_id (z := (k : Int) + 1) (by omega) (by omega)] | rw [aC149 hs _ (show (0 : Int) ≤ (k : Int) + 1 by omega) (by omega)] | rw [t1] | rw [t2] | rw [a1] | rw [a2])
    simp only [f1N]
    by_cases g : p.getD (k + 1) 0 < p.getD k 0
    · rw [if_pos g, if_pos g, w32_id (by omega) (by omega), show (k : Int) + -1 = (k : Int) - 1 by omega, ih]
    · rw [if_neg g, if_neg g]
theorem m187_27 (d : Nat) (hs : SpL s) (hm : MS c) {N : Nat} (hN : N ≤ 7) {p : List Int} (hA : AR c p N) {i : Nat} (o4 o5 o6 : Option AV) : ∀ k : Nat, i < k → k ≤ N → Rr (Cd d) 187 27 [some (vA 142), some (vI (N : Int)), some (vI (i : Int)), some (vI ((k : Int) - 1)), o4, o5, o6] [] (s, c) = Rr (Cd d) 187 64 [some (vA 142), some (vI (N : Int)), some (vI (i : Int)), some (vI ((f2N p i k : Nat) : Int)), some (vI (p.getD i 0)), some (vI ((i : Int) + 1)), some (vI ((N : Int) - 1))] [] (s, u2 (u2 c 149 i (p.getD (f2N p i k) 0)) 149 (f2N p i k) (p.getD i 0))
  | 0, h, _ => by omega
  | k + 1, h, h2 => by
    have t1 : (k : Int).toNat = k := Int.toNat_natCast k
    have t2 : (i : Int).toNat = i := Int.toNat_natCast i
    have a1 := hA.2 k (by omega)
    have a2 := hA.2 i (by omega)
    rw [show ((k + 1 : Nat) : Int) - 1 = (k : Int) by omega, c187_27]
    simp only [f2N]
    by_cases g : p.getD k 0 < p.getD i 0
    · have ne : i ≠ k := fun w => by subst w; omega
      have ih := m187_27 d hs hm hN hA (i := i) o4 o5 o6 k (by omega) (by omega)
      rw [if_pos g, ← ih]
      repeat (first | rw [bnd_s] | rw [tI_m] | rw [tL_m] | rw [tA_m] | rw [tV_m] | rw [fC142 hs _ (by decide)] | rw [pC142 hs _ _ (by decide)] | rw [MS_7 hm] | rw [aC149 hs _ (show (0 : Int) ≤ (k : Int) by omega) (by omega)] | rw [aC149 hs _ (show (0 : Int) ≤ (i : Int) by omega) (by omega)] | rw [t1] | rw [t2] | rw [a1] | rw [a2] | rw [if_pos g] | rw [w32_id (z := (k : Int) + -1) (by omega) (by omega)])
      rw [show (k : Int) + -1 = (k : Int) - 1 by omega]
    · have hm2 : MS (u2 c 149 i (p.getD k 0)) := MS_a hm _ (by decide)
      rw [if_neg g]
      repeat (first | rw [bnd_s] | rw [tI_m] | rw [tL_m] | rw [tA_m] | rw [tV_m] | rw [fC142 hs _ (by decide)] | rw [pC142 hs _ _ (by decide)] | rw [MS_7 hm] | rw [MS_7 hm2] | rw [aC149 hs _ (show (0 : Int) ≤ (k : Int) by omega) (by omega)] | rw [aC149 hs _ (show (0 : Int) ≤ (i : Int) by omega) (by omega)] | rw [qC149 hs _ _ (show (0 : Int) ≤ (k : Int) by omega) (by omega)] | rw [qC149 hs _ _ (show (0 : Int) ≤ (i : Int) by omega) (by omega)] | rw [t1] | rw [t2] | rw [a1] | rw [a2] | rw [if_neg g] | rw [w32_id (z := (i : Int) + 1) (by omega) (by omega)] | rw [w32_id (z := (N : Int) - 1) (by omega) (by omega)])
end
section
variable {s : List (Nat × Nat)} {b : Nat → Nat → Int}
theorem m187_64 (d : Nat) (hs : SpL s) (hm : MS b) {N : Nat} (hN : N ≤ 7) (o1 o2 o3 : Option AV) : ∀ (f : Nat) (p : List Int) (x y : Nat) (c : Nat → Nat → Int) (o4 : Option AV), AR c p N → Fm [149] [] b c → y < N → y ≤ x + f → ∃ c', Rr (Cd d) 187 64 [some (vA 142), o1, o2, o3, o4, some (vI (x : Int)), some (vI (y : Int))] [] (s, c) = some ([vI 1], (s, c')) ∧ AR c' (rvN f p x y) N ∧ Fm [149] [] b c'
  | 0, p, x, y, c, o4, hA, hF, hy, h => ⟨c, by rw [c187_64, if_neg (by omega)], hA, hF⟩
  | f + 1, p, x, y, c, o4, hA, hF, hy, h => by
    simp only [rvN]
    by_cases g : x < y
    · have hm1 : MS c := hF.ms hm (by decide)
      have hm2 : MS (u2 c 149 x (p.getD y 0)) := MS_a hm1 _ (by decide)
      have t1 : (x : Int).toNat = x := Int.toNat_natCast x
      have t2 : (y : Int).toNat = y := Int.toNat_natCast y
      have a1 := hA.2 x (by omega)
      have a2 := hA.2 y (by omega)
      obtain ⟨c', y1, y2, y3⟩ := m187_64 d hs hm hN o1 o2 o3 f (swN p x y) (x + 1) (y - 1) _ (some (vI (p.getD x 0))) (AR_sw hA (by omega) (by omega)) ((hF.a _ (by decide) (by decide)).a _ (by decide) (by decide)) (by omega) (by omega)
      rw [if_pos g]
      refine ⟨c', ?_, y2, y3⟩
      rw [← y1, c187_64, if_pos (by omega)]
      repeat (first | rw [bnd_s] | rw [tI_m] | rw [tL_m] | rw [tA_m] | rw [tV_m] | rw [fC142 hs _ (by decide)] | rw [pC142 hs _ _ (by decide)] | rw [MS_7 hm1] | rw [MS_7 hm2] | rw [aC149 hs _ (show (0 : Int) ≤ (x : Int) by omega) (by omega)] | rw [aC149 hs _ (show (0 : Int) ≤ (y : Int) by omega) (by omega)] | rw [qC149 hs _ _ (show (0 : Int) ≤ (x : Int) by omega) (by omega)] | rw [qC149 hs _ _ (show (0 : Int) ≤ (y : Int) by omega) (by omega)] | rw [t1] | rw [t2] | rw [a1] | rw [a2] | rw [w32_id (z := (x : Int) + 1) (by omega) (by omega)] | rw [w32_id (z := (y : Int) + -1) (by omega) (by omega)])
      rw [show (y : Int) + -1 = ((y - 1 : Nat) : Int) by omega]; rfl
    · rw [if_neg g]
      exact ⟨c, by rw [c187_64, if_neg (by omega)], hA, hF⟩
theorem m187 (d : Nat) (hs : SpL s) (hm : MS b) {N : Nat} (h2 : 2 ≤ N) (hN : N ≤ 7) {p : List Int} (hA : AR b p N) : ∃ c', Cd (d + 1) 187 [vA 142, vI (N : Int)] (s, b) = some ([vI (b2i (nxN N p).isSome)], (s, c')) ∧ Fm [149] [] b c' ∧ ∀ q, nxN N p = some q → AR c' q N := by
  have fb := f1N_b p (N - 1)
  have r4 := m187_4 d hs hm hN hA none none none none (N - 1) (by omega)
  have start : ∀ X, Rr (Cd d) 187 19 [some (vA 142), some (vI (N : Int)), some (vI (f1N p (N - 1))), none, none, none, none] [] (s, b) = X → Cd (d + 1) 187 [vA 142, vI (N : Int)] (s, b) = X := fun X hX => by
    rw [c187 (hg := gC142 hs b), w32_id (by omega) (by omega), show (N : Int) - 2 = ((N - 1 : Nat) : Int) - 1 by omega, r4]; exact hX
  unfold nxN
  by_cases g : f1N p (N - 1) < 0
  · rw [if_pos g]
    refine ⟨b, start _ ?_, Fm.rf _ _ _, fun q hq => by cases hq⟩
    rw [c187_19, if_pos g]; rfl
  · rw [if_neg g]
    have z : ∃ i : Nat, i = (f1N p (N - 1)).toNat := ⟨_, rfl⟩
    obtain ⟨i, zi⟩ := z
    have ei : f1N p (N - 1) = (i : Int) := by omega
    rw [← zi]
    have jb := f2N_b (p := p) (i := i) N (by omega)
    have r27 := m187_27 d hs hm hN hA (i := i) none none none N (by omega) (by omega)
    obtain ⟨c', y1, y2, y3⟩ := m187_64 d hs hm hN (some (vI (N : Int))) (some (vI (i : Int))) (some (vI ((f2N p i N : Nat) : Int))) N (swN p i (f2N p i N)) (i + 1) (N - 1) _ (some (vI (p.getD i 0))) (AR_sw hA (by omega) (by omega)) (((Fm.rf _ _ b).a _ (by decide) (by decide)).a _ (by decide) (by decide)) (by omega) (by omega)
    refine ⟨c', start _ ?_, y3, fun q hq => by cases hq; exact y2⟩
    rw [ei, c187_19, if_neg (by omega), w32_id (by omega) (by omega), r27]
    rw [show ((N - 1 : Nat) : Int) = (N : Int) - 1 by omega] at y1
    exact y1
def idL (N : Nat) : List Int := (List.range N).map fun (i : Nat) => (i : Int)
theorem idL_at {N j : Nat} (h : j < N) : (idL N).getD j 0 = j := by
  unfold idL
  rw [List.getD_eq_getElem?_getD, List.getElem?_map, List.getElem?_range h]; rfl
theorem m188_2 (d : Nat) (hs : SpL s) (hm : MS b) {N : Nat} (hN : N ≤ 7) : ∀ (n i : Nat) (c : Nat → Nat → Int), i + n = N → Fm [149] [] b c → (∀ j, j < i → c 149 j = (j : Int)) → ∃ c', Rr (Cd d) 188 2 [some (vA 142), some (vI (N : Int)), some (vI (i : Int))] [] (s, c) = some ([], (s, c')) ∧ Fm [149] [] b c' ∧ ∀ j, j < N → c' 149 j = (j : Int)
  | 0, i, c, h, hF, hD => ⟨c, by rw [c188_2, if_neg (by omega)], hF, fun j hj => hD j (by omega)⟩
  | n + 1, i, c, h, hF, hD => by
    have hm1 : MS c := hF.ms hm (by decide)
    have t1 : (i : Int).toNat = i := Int.toNat_natCast i
    obtain ⟨c', y1, y2, y3⟩ := m188_2 d hs hm hN n (i + 1) (u2 c 149 i (i : Int)) (by omega) (hF.a _ (by decide) (by decide)) (fun j hj => by
      by_cases e : j = i
      · subst e; rw [u2_e]
      · rw [u2_n (fun w => e w.2)]; exact hD j (by omega))
    refine ⟨c', ?_, y2, y3⟩
    rw [← y1, c188_2, if_pos (by omega)]
    repeat (first | rw [bnd_s] | rw [tI_m] | rw [tL_m] | rw [tA_m] | rw [tV_m] | rw [fC142 hs _ (by decide)] | rw [pC142 hs _ _ (by decide)] | rw [MS_7 hm1] | rw [qC149 hs _ _ (show (0 : Int) ≤ (i : Int) by omega) (by omega)] | rw [t1] | rw [w32_id (z := (i : Int) + 1) (by omega) (by omega)])
    rfl
theorem m188 (d : Nat) (hs : SpL s) (hm : MS b) {N : Nat} (hN : N ≤ 7) : ∃ c', Cd (d + 1) 188 [vA 142, vI (N : Int)] (s, b) = some ([], (s, c')) ∧ Fm [149] [] b c' ∧ AR c' (idL N) N := by
  obtain ⟨c', y1, y2, y3⟩ := m188_2 d hs hm hN N 0 b (by omega) (Fm.rf _ _ _) (fun j hj => by omega)
  refine ⟨c', ?_, y2, by unfold idL; rw [List.length_map, List.length_range], fun j hj => by rw [y3 j hj, idL_at hj]⟩
  rw [c188 (hg := gC142 hs b)]; exact y1
/-- an order is a turning: every border goes to a border -/
def tuP (c : Nat → Nat → Int) (m m' : Int) (p : List Int) : Bool := allU (fun e => isB c m' (p.getD (c 143 (30 + 30 * m + 2 * e).toNat).toNat 0) (p.getD (c 143 (30 + 30 * m + 2 * e + 1).toNat).toNat 0)) (c 143 (24 + m).toNat).toNat 0
theorem m190_43 (d : Nat) (hs : SpL s) {c : Nat → Nat → Int} (hm : MS c) {m m' : Int} (hM : MapOK c m) (hM' : MapOK c m') {N : Nat} (eN : c 143 (20 + m).toNat = (N : Int)) {p : List Int} (hA : AR c p N) (a : Int) (o5 : Option AV) : ∀ (n : Nat) (e : Int) (f : Bool), 0 ≤ e → e + n = c 143 (24 + m).toNat → ∃ o6 o7, Rr (Cd (d + 2)) 190 43 [some (vA 142), some (vI m), some (vI m'), some (vI (N : Int)), some (vI a), o5, some (vI (b2i f)), some (vI e)] [] (s, c) = Rr (Cd (d + 2)) 190 83 [some (vA 142), some (vI m), some (vI m'), some (vI (N : Int)), some (vI a), o5, o6, o7] [vI (b2i (f && allU (fun e => isB c m' (p.getD (c 143 (30 + 30 * m + 2 * e).toNat).toNat 0) (p.getD (c 143 (30 + 30 * m + 2 * e + 1).toNat).toNat 0)) n e)), vI a] (s, c)
  | 0, e, f, h0, h => by
    obtain ⟨⟨k0, k1⟩, ⟨k2, k3⟩, -⟩ := id hM
    refine ⟨some (vI (b2i f)), some (vI e), ?_⟩
    rw [c190_43]
    repeat (first | rw [bnd_s] | rw [tI_m] | rw [tL_m] | rw [tA_m] | rw [tV_m] | rw [fC142 hs _ (by decide)] | rw [pC142 hs _ _ (by decide)] | rw [MS_0 hm] | rw [w32_id (z := 24 + m) (by omega) (by omega)] | rw [aC143 hs _ (show 0 ≤ 24 + m by omega) (by omega)] | rw [if_neg (show ¬ e < c 143 (24 + m).toNat by omega)] | rw [if_b0])
    simp only [allU, Bool.and_true]
    cases f <;> rfl
  | n + 1, e, f, h0, h => by
    obtain ⟨⟨k0, k1⟩, ⟨k2, k3⟩, ⟨k4, k5⟩, k6⟩ := id hM
    have kb := k6 e h0 (by omega)
    obtain ⟨o6, o7, ih⟩ := m190_43 d hs hm hM hM' eN hA a o5 n (e + 1) (f && isB c m' (p.getD (c 143 (30 + 30 * m + 2 * e).toNat).toNat 0) (p.getD (c 143 (30 + 30 * m + 2 * e + 1).toNat).toNat 0)) (by omega) (by omega)
    refine ⟨o6, o7, ?_⟩
    have a1 := hA.2 (c 143 (30 + 30 * m + 2 * e).toNat).toNat (by omega)
    have a2 := hA.2 (c 143 (30 + 30 * m + 2 * e + 1).toNat).toNat (by omega)
    simp only [allU]
    rw [← Bool.and_assoc, ← ih, c190_43]
    repeat (first | rw [bnd_s] | rw [tI_m] | rw [tL_m] | rw [tA_m] | rw [tV_m] | rw [fC142 hs _ (by decide)] | rw [pC142 hs _ _ (by decide)] | rw [MS_0 hm] | rw [w32_id (z := 24 + m) (by omega) (by omega)] | rw [aC143 hs _ (show 0 ≤ 24 + m by omega) (by omega)] | rw [if_pos (show e < c 143 (24 + m).toNat by omega)] | rw [if_b0])
    cases f
    · rw [cond_f, c190_73, c190_74, w32_id (z := e + 1) (by omega) (by omega), Bool.false_and]; rfl
    · rw [cond_t, Bool.true_and]
      repeat (first | rw [bnd_s] | rw [tI_m] | rw [tL_m] | rw [tA_m] | rw [tV_m] | rw [fC142 hs _ (by decide)] | rw [pC142 hs _ _ (by decide)] | rw [MS_7 hm] | rw [m176 (d + 1) hs hm k0 k1 h0 (show e < 15 by omega)] | rw [m177 (d + 1) hs hm k0 k1 h0 (show e < 15 by omega)] | rw [aC149 hs _ kb.1.1 (by omega)] | rw [aC149 hs _ kb.2.1 (by omega)] | rw [a1] | rw [a2] | rw [m178 d hs hm hM'] | rw [if_b0])
      cases isB c m' (p.getD (c 143 (30 + 30 * m + 2 * e).toNat).toNat 0) (p.getD (c 143 (30 + 30 * m + 2 * e + 1).toNat).toNat 0)
      · rw [cond_f, c190_73, c190_74, w32_id (z := e + 1) (by omega) (by omega)]; rfl
      · rw [cond_t, c190_74, w32_id (z := e + 1) (by omega) (by omega)]; rfl
theorem tuP_of {b c : Nat → Nat → Int} (e3 : c 143 = b 143) (m m' : Int) : tuP c m m' = tuP b m m' := by
  funext p; unfold tuP; rw [e3]
  exact allU_cg _ _ (fun e _ _ => by rw [isB_of e3])
theorem m190_37 (d : Nat) (hs : SpL s) (hm : MS b) {m m' : Int} (hM : MapOK b m) (hM' : MapOK b m') {N : Nat} (eN : b 143 (20 + m).toNat = (N : Int)) : ∀ (L : List (List Int)) (p : List Int) (r : List (List Int)) (a : Int) (c : Nat → Nat → Int) (o6 o7 : Option AV), L = p :: r → chN' N L = true → AR c p N → Fm [149] [] b c → 0 ≤ a → a + L.length < 2147483648 → ∃ c', Rr (Cd (d + 2)) 190 37 [some (vA 142), some (vI m), some (vI m'), some (vI (N : Int)), some (vI a), some (vI 1), o6, o7] [] (s, c) = some ([vI (a + sumL (fun p => b2i (tuP b m m' p)) L)], (s, c')) ∧ Fm [149] [] b c'
  | [], _, _, _, _, _, _, e, _, _, _, _, _ => by cases e
  | p' :: r', p, r, a, c, o6, o7, e, hc, hA, hF, a0, a1 => by
    simp only [List.cons.injEq] at e
    obtain ⟨rfl, rfl⟩ := e
    have hm1 : MS c := hF.ms hm (by decide)
    have E3 : c 143 = b 143 := hF.1 143 (by decide) (by decide)
    obtain ⟨⟨k0, k1⟩, ⟨k2, k3⟩, ⟨k4, k5⟩, k6⟩ := id hM
    obtain ⟨x6, x7, y⟩ := m190_43 d hs hm1 (MapOK_of hM E3) (MapOK_of hM' E3) (by rw [E3]; exact eN) hA a (some (vI 1)) (c 143 (24 + m).toNat).toNat 0 true (by omega) (by rw [E3]; omega)
    obtain ⟨c2, z1, z2, z3⟩ := m187 (d + 1) hs hm1 (N := N) (by omega) (by omega) hA
    have F2 : Fm [149] [] b c2 := hF.tr z2
    rw [Bool.true_and] at y
    have et : allU (fun e => isB c m' (p'.getD (c 143 (30 + 30 * m + 2 * e).toNat).toNat 0) (p'.getD (c 143 (30 + 30 * m + 2 * e + 1).toNat).toNat 0)) (c 143 (24 + m).toNat).toNat 0 = tuP b m m' p' := congrFun (tuP_of E3 m m') p'
    rw [et] at y
    have bb := b2i_b (tuP b m m' p')
    rw [List.length_cons] at a1
    have run : Rr (Cd (d + 2)) 190 37 [some (vA 142), some (vI m), some (vI m'), some (vI (N : Int)), some (vI a), some (vI 1), o6, o7] [] (s, c) = Rr (Cd (d + 2)) 190 37 [some (vA 142), some (vI m), some (vI m'), some (vI (N : Int)), some (vI (a + b2i (tuP b m m' p'))), some (vI (b2i (nxN N p').isSome)), x6, x7] [] (s, c2) := by
      rw [c190_37, if_neg (by decide)]
      have y' : Rr (Cd (d + 2)) 190 43 [some (vA 142), some (vI m), some (vI m'), some (vI (N : Int)), some (vI a), some (vI 1), some (vI 1), some (vI 0)] [] (s, c) = _ := y
      rw [y', c190_83]
      repeat (first | rw [bnd_s] | rw [tI_m] | rw [tL_m] | rw [tA_m] | rw [tV_m] | rw [z1] | rw [w32_id (z := a + b2i (tuP b m m' p')) (by omega) (by omega)])
    rw [run]
    simp only [sumL]
    rw [← Int.add_assoc]
    unfold chN' at hc
    cases en : nxN N p' with
    | none =>
      rw [en] at hc
      cases r' with
      | nil =>
        refine ⟨c2, ?_, F2⟩
        rw [c190_37, if_pos (show b2i (none : Option (List Int)).isSome = 0 from rfl)]
        simp only [sumL, Int.add_zero]
      | cons q t => simp at hc
    | some q =>
      rw [en] at hc
      cases r' with
      | nil => simp at hc
      | cons q' t =>
        simp only [Bool.and_eq_true, beq_iff_eq] at hc
        obtain ⟨rfl, hc⟩ := hc
        rw [List.length_cons] at a1
        exact m190_37 d hs hm hM hM' eN (q :: t) q t (a + b2i (tuP b m m' p')) c2 x6 x7 rfl hc (z3 q en) F2 (by omega) (by rw [List.length_cons]; omega)
end
def hdOk (N : Nat) : Bool := ((perL N N []).head?) == some (idL N) && decide ((perL N N []).length ≤ 5040)
theorem hdOk_2 : hdOk 2 = true := by decide +kernel
theorem hdOk_3 : hdOk 3 = true := by decide +kernel
theorem hdOk_4 : hdOk 4 = true := by decide +kernel
theorem hdOk_5 : hdOk 5 = true := by decide +kernel
theorem hdOk_6 : hdOk 6 = true := by decide +kernel
theorem hdOk_7 : hdOk 7 = true := by decide +kernel
theorem per_ok {N : Nat} (h2 : 2 ≤ N) (hN : N ≤ 7) : chN' N (perL N N []) = true ∧ (∃ r, perL N N [] = idL N :: r) ∧ (perL N N []).length ≤ 5040 := by
  have h : N = 2 ∨ N = 3 ∨ N = 4 ∨ N = 5 ∨ N = 6 ∨ N = 7 := by omega
  have k : hdOk N = true ∧ chN' N (perL N N []) = true := by
    rcases h with e | e | e | e | e | e <;> subst e
    · exact ⟨hdOk_2, chN_2⟩
    · exact ⟨hdOk_3, chN_3⟩
    · exact ⟨hdOk_4, chN_4⟩
    · exact ⟨hdOk_5, chN_5⟩
    · exact ⟨hdOk_6, chN_6⟩
    · exact ⟨hdOk_7, chN_7⟩
  obtain ⟨k1, k2⟩ := k
  unfold hdOk at k1
  simp only [Bool.and_eq_true, beq_iff_eq, decide_eq_true_eq] at k1
  refine ⟨k2, ?_, k1.2⟩
  generalize perL N N [] = L at k1
  cases L with
  | nil => simp at k1
  | cons q r =>
    have := k1.1
    simp only [List.head?_cons, Option.some.injEq] at this
    subst this; exact ⟨r, rfl⟩
