/-! rings -/
/-- the j-th step of an order goes over a border -/
def edZ (c : Nat → Nat → Int) (m : Int) (N : Nat) (z : List Int) (j : Int) : Bool := isB c m (z.getD j.toNat 0) (z.getD ((j + 1) % N).toNat 0)
def ltZ (N : Nat) (z : List Int) : Bool := decide (z.getD 1 0 < z.getD (N - 1) 0)
def rvZ (N : Nat) (z : List Int) : List Int := (List.range N).map fun (j : Nat) => z.getD ((N - j) % N) 0
theorem rvZ_at {N j : Nat} (h : j < N) (z : List Int) : (rvZ N z).getD j 0 = z.getD ((N - j) % N) 0 := by
  unfold rvZ
  rw [List.getD_eq_getElem?_getD, List.getElem?_map, List.getElem?_range h]; rfl
def enZ (z : List Int) : Nat := z.foldl (fun a x => 8 * a + x.toNat) 0
def deZ (N : Nat) (n : Nat) : List Int := (List.range N).map fun (j : Nat) => ((n / 8 ^ (N - 1 - j) % 8 : Nat) : Int)
def rvOk (N : Nat) : Bool := ((perL N (N - 1) [0]).all fun z => deZ N (enZ z) == z && deZ N (enZ (rvZ N z)) == rvZ N z && decide (z.getD 1 0 ≠ z.getD (N - 1) 0)) && ((perL N (N - 1) [0]).map fun z => enZ (rvZ N z)).isPerm ((perL N (N - 1) [0]).map enZ)
theorem rvOk_3 : rvOk 3 = true := by decide +kernel
theorem rvOk_4 : rvOk 4 = true := by decide +kernel
theorem rvOk_5 : rvOk 5 = true := by decide +kernel
theorem rvOk_6 : rvOk 6 = true := by decide +kernel
theorem rvOk_7 : rvOk 7 = true := by decide +kernel
def sumN (f : Nat → Int) : List Nat → Int
  | [] => 0
  | p :: r => f p + sumN f r
theorem sumN_perm (f : Nat → Int) {a b : List Nat} (h : a.Perm b) : sumN f a = sumN f b := by
  induction h with
  | nil => rfl
  | cons x _ ih => simp only [sumN]; rw [ih]
  | swap x y l => simp only [sumN]; omega
  | trans _ _ h1 h2 => exact h1.trans h2
theorem sumN_map (f : Nat → Int) (g : List Int → Nat) : ∀ l : List (List Int), sumN f (l.map g) = sumL (fun z => f (g z)) l
  | [] => rfl
  | p :: r => by simp only [List.map_cons, sumN, sumL]; rw [sumN_map f g r]
theorem rv_sum {N : Nat} (h3 : 3 ≤ N) (hN : N ≤ 7) (f : List Int → Int) : sumL (fun z => f (rvZ N z)) (perL N (N - 1) [0]) = sumL f (perL N (N - 1) [0]) ∧ ∀ z ∈ perL N (N - 1) [0], z.getD 1 0 ≠ z.getD (N - 1) 0 := by
  have h : N = 3 ∨ N = 4 ∨ N = 5 ∨ N = 6 ∨ N = 7 := by omega
  have k : rvOk N = true := by
    rcases h with e | e | e | e | e <;> subst e
    · exact rvOk_3
    · exact rvOk_4
    · exact rvOk_5
    · exact rvOk_6
    · exact rvOk_7
  unfold rvOk at k
  rw [Bool.and_eq_true] at k
  obtain ⟨k1, k2⟩ := k
  have kk := fun z hz => List.all_eq_true.mp k1 z hz
  simp only [Bool.and_eq_true, beq_iff_eq, decide_eq_true_eq] at kk
  refine ⟨?_, fun z hz => (kk z hz).2⟩
  have p := sumN_perm (fun n => f (deZ N n)) (List.isPerm_iff.mp k2)
  rw [sumN_map, sumN_map, sumL_cg (g := fun z => f (rvZ N z)) _ (fun z hz => by rw [(kk z hz).1.2]), sumL_cg (f := fun z => f (deZ N (enZ z))) (g := f) _ (fun z hz => by rw [(kk z hz).1.1])] at p
  exact p
theorem ring_rv {c : Nat → Nat → Int} {m : Int} {N : Nat} (h3 : 3 ≤ N) (z : List Int) : allU (edZ c m N (rvZ N z)) N 0 = allU (edZ c m N z) N 0 := by
  have key : ∀ j : Int, 0 ≤ j → j < N → edZ c m N (rvZ N z) j = edZ c m N z ((N : Int) - 1 - j) := fun j j0 j1 => by
    have z1 : ∃ a : Nat, j = (a : Int) := ⟨j.toNat, by omega⟩
    obtain ⟨a, rfl⟩ := z1
    unfold edZ
    have e1 : (((a : Int) + 1) % (N : Int)).toNat = (a + 1) % N := by
      rw [show (a : Int) + 1 = ((a + 1 : Nat) : Int) by omega, ← Int.natCast_emod]; exact Int.toNat_natCast _
    have lt1 : (a + 1) % N < N := Nat.mod_lt _ (by omega)
    rw [Int.toNat_natCast, e1, rvZ_at (by omega), rvZ_at lt1, isB_sym]
    have e2 : ((N : Int) - 1 - (a : Int)).toNat = N - 1 - a := by omega
    have e3 : (((N : Int) - 1 - (a : Int) + 1) % (N : Int)).toNat = (N - a) % N := by
      rw [show (N : Int) - 1 - (a : Int) + 1 = ((N - a : Nat) : Int) by omega, ← Int.natCast_emod]; exact Int.toNat_natCast _
    rw [e2, e3]
    have e4 : (N - (a + 1) % N) % N = N - 1 - a := by
      by_cases w : a + 1 = N
      · rw [w, Nat.mod_self, Nat.sub_zero, Nat.mod_self]; omega
      · rw [Nat.mod_eq_of_lt (show a + 1 < N by omega), Nat.mod_eq_of_lt (by omega)]; omega
    rw [e4]
  rw [Bool.eq_iff_iff, allU_iff, allU_iff]
  constructor
  · intro g j j0 j1
    have := g ((N : Int) - 1 - j) (by omega) (by omega)
    rw [key _ (by omega) (by omega), show (N : Int) - 1 - ((N : Int) - 1 - j) = j by omega] at this
    exact this
  · intro g j j0 j1
    rw [key j j0 (by omega)]
    exact g _ (by omega) (by omega)
theorem lt_rv {N : Nat} (h3 : 3 ≤ N) {z : List Int} (h : z.getD 1 0 ≠ z.getD (N - 1) 0) : ltZ N (rvZ N z) = !ltZ N z := by
  unfold ltZ
  rw [rvZ_at (by omega), rvZ_at (by omega), Nat.mod_eq_of_lt (show N - 1 < N by omega), show N - (N - 1) = 1 by omega, Nat.mod_eq_of_lt (show 1 < N by omega)]
  by_cases g : z.getD 1 0 < z.getD (N - 1) 0
  · rw [decide_eq_true g, decide_eq_false (by omega)]; rfl
  · rw [decide_eq_false g, decide_eq_true (by omega)]; rfl
/-- each ring is met twice -/
theorem ring_two {c : Nat → Nat → Int} {m : Int} {N : Nat} (h3 : 3 ≤ N) (hN : N ≤ 7) : sumL (fun z => b2i (allU (edZ c m N z) N 0)) (perL N (N - 1) [0]) = 2 * sumL (fun z => b2i (ltZ N z && allU (edZ c m N z) N 0)) (perL N (N - 1) [0]) := by
  have r := rv_sum h3 hN (fun z => b2i (ltZ N z && allU (edZ c m N z) N 0))
  have e : sumL (fun z => b2i (allU (edZ c m N z) N 0)) (perL N (N - 1) [0]) = sumL (fun z => b2i (ltZ N z && allU (edZ c m N z) N 0) + b2i (ltZ N (rvZ N z) && allU (edZ c m N (rvZ N z)) N 0)) (perL N (N - 1) [0]) := sumL_cg _ (fun z hz => by
    rw [ring_rv h3, lt_rv h3 (r.2 z hz)]
    cases ltZ N z <;> cases allU (edZ c m N z) N 0 <;> rfl)
  rw [e, sumL_ad, r.1]; omega
theorem bit0 : ((List.range 128).all fun x => iand ((x : Nat) : Int) 1 == b2i (bt ((x : Nat) : Int) 0)) = true := by decide +kernel
theorem bit_0 {x : Int} (h0 : 0 ≤ x) (h1 : x < 128) : iand x 1 = b2i (bt x 0) := by
  have := List.all_eq_true.mp bit0 x.toNat (List.mem_range.mpr (by omega))
  rw [Int.toNat_of_nonneg h0] at this
  exact beq_iff_eq.mp this
theorem ed_s {c : Nat → Nat → Int} {m : Int} {N k : Nat} {p z : List Int} {x : Int} (hz : z ∈ perL N k (p ++ [x])) (h1 : 1 ≤ p.length) (h2 : p.length < N) (n : Nat) : allU (edZ c m N z) (n + 1) ((p.length : Int) - 1) = (isB c m (p.getD (p.length - 1) 0) x && allU (edZ c m N z) n (p.length : Int)) := by
  have a := perL_at hz
  rw [allU, show (p.length : Int) - 1 + 1 = (p.length : Int) by omega]
  congr 1
  unfold edZ
  have e1 : ((p.length : Int) - 1).toNat = p.length - 1 := by omega
  have e2 : (((p.length : Int) - 1 + 1) % (N : Int)).toNat = p.length := by
    rw [show (p.length : Int) - 1 + 1 = (p.length : Int) by omega, Int.emod_eq_of_lt (by omega) (by omega)]; exact Int.toNat_natCast _
  rw [e1, e2, a.1, a.2 (p.length - 1) (by omega)]
theorem ed_sum (c : Nat → Nat → Int) (m : Int) (N k : Nat) (p : List Int) (x : Int) (h1 : 1 ≤ p.length) (h2 : p.length < N) (n : Nat) : sumL (fun z => b2i (allU (edZ c m N z) (n + 1) ((p.length : Int) - 1))) (perL N k (p ++ [x])) = if isB c m (p.getD (p.length - 1) 0) x then sumL (fun z => b2i (allU (edZ c m N z) n (p.length : Int))) (perL N k (p ++ [x])) else 0 := by
  by_cases g : isB c m (p.getD (p.length - 1) 0) x = true
  · rw [if_pos g]
    exact sumL_cg _ (fun z hz => by rw [ed_s hz h1 h2, g, Bool.true_and])
  · rw [if_neg g, sumL_cg (g := fun _ => 0) _ (fun z hz => by rw [ed_s hz h1 h2, Bool.eq_false_iff.mpr g, Bool.false_and]; rfl)]
    generalize perL N k (p ++ [x]) = L
    induction L with
    | nil => rfl
    | cons a r ih => rw [sumL, ih]; rfl
section
variable {s : List (Nat × Nat)} {c : Nat → Nat → Int}
theorem k18 (d : Nat) {q : Nat} {m : Int} {N : Nat} (h1 : CH s c q) (h3 : MapRel (c 143) c q m) (eN : c 143 (20 + m).toNat = (N : Int)) (h2 : 2 ≤ N) (hN : N ≤ 7) : ∀ (k : Nat) (p : List Int) (u : Int), p.length + k = N → 1 ≤ p.length → MK N p u → p.getD 0 0 = 0 → p.contains 0 = true → (0 ≤ p.getD (p.length - 1) 0 ∧ p.getD (p.length - 1) 0 < N) → Cd (d + k + 2) 18 [vA (q : Int), vI (p.getD (p.length - 1) 0), vI u] (s, c) = some ([vI (sumL (fun z => b2i (allU (edZ c m N z) (k + 1) ((p.length : Int) - 1))) (perL N k p))], (s, c))
  | 0, p, u, hk, hl, hu, hp, hz, hb => by
    have h4 := h3.1.1
    rw [eN] at h4
    have nb := h3.2.2.2.2 (p.getD (p.length - 1) 0) hb.1 (by omega)
    have f2 := h1.2.2.2.1
    have fu := (MK_full h2 hN hu).mpr (by omega)
    have e0 := nb.2 0 (by decide) (by decide)
    rw [isBf_c] at e0
    rw [c18 (hg := h1.g)]
    repeat (first | rw [bnd_s] | rw [tI_m] | rw [tL_m] | rw [tA_m] | rw [tV_m] | rw [gF_g h1.1.1 _ (by decide)] | rw [h4] | rw [if_pos fu] | rw [f2] | rw [gA_g (a := 0) h1.1.2.2.2.1 _ hb.1 (by omega)] | rw [bit_0 nb.1.1 nb.1.2] | rw [e0])
    simp only [perL, sumL, allU, Int.add_zero, Bool.and_true]
    unfold edZ
    rw [show ((p.length : Int) - 1).toNat = p.length - 1 by omega, show (p.length : Int) - 1 + 1 = (N : Int) by omega, Int.emod_self, show (0 : Int).toNat = 0 from rfl, hp]
  | k + 1, p, u, hk, hl, hu, hp, hz, hb => by
    have h4 := h3.1.1
    rw [eN] at h4
    have nb := h3.2.2.2.2 (p.getD (p.length - 1) 0) hb.1 (by omega)
    have f2 := h1.2.2.2.1
    have fu : ¬ u = w32 (ishl 1 (N : Int) - 1) := fun w => by have := (MK_full h2 hN hu).mp w; omega
    have loop : ∀ (n : Nat) (x a : Int), 0 ≤ x → x + n = N → 0 ≤ a → a ≤ x * 7 ^ k → Rr (Cd (d + k + 2)) 18 19 [some (vA (q : Int)), some (vI (p.getD (p.length - 1) 0)), some (vI u), some (vI a), some (vI x)] [] (s, c) = some ([vI (a + sumU (fun x => if p.contains x then 0 else sumL (fun z => b2i (allU (edZ c m N z) (k + 1 + 1) ((p.length : Int) - 1))) (perL N k (p ++ [x]))) n x)], (s, c)) := fun n => by
      induction n with
      | zero =>
        intro x a x0 hx a0 a1
        rw [c18_19]
        repeat (first | rw [bnd_s] | rw [tI_m] | rw [tL_m] | rw [tA_m] | rw [tV_m] | rw [gF_g h1.1.1 _ (by decide)] | rw [h4] | rw [if_neg (show ¬ x < (N : Int) by omega)])
        simp only [sumU, Int.add_zero]
      | succ n IH =>
        intro x a x0 hx a0 a1
        have P := pw_pos (show (0 : Int) < 7 by decide) k
        have Pk : (7 : Int) ^ k ≤ 117649 := by
          have := pw_up (show (1 : Int) ≤ 7 by decide) k (6 - k)
          rw [show k + (6 - k) = 6 by omega] at this
          exact this
        have ex : (x + 1) * 7 ^ k = x * 7 ^ k + 7 ^ k := by rw [Int.add_mul, Int.one_mul]
        have xb : x * 7 ^ k ≤ 6 * 117649 := Int.mul_le_mul (by omega) Pk (by omega) (by decide)
        have qn := k169 (d + k + 1) (s, c) (x := c (q + 3) (p.getD (p.length - 1) 0).toNat) (k := x) nb.1.1 (by have := nb.1.2; omega) x0 (by omega)
        have en := nb.2 x x0 (by omega)
        rw [isBf_c] at en
        rw [en] at qn
        have qb := k169 (d + k + 1) (s, c) (x := u) (k := x) hu.1.1 (by have := hu.1.2; omega) x0 (by omega)
        rw [hu.2.1 x x0 (by omega)] at qb
        have ih0 := IH (x + 1) a (by omega) (by omega) a0 (by omega)
        simp only [sumU]
        by_cases g : p.contains x = true
        · rw [if_pos g]
          rw [g] at qb
          rw [Int.zero_add, ← ih0, c18_19]
          repeat (first | rw [bnd_s] | rw [tI_m] | rw [tL_m] | rw [tA_m] | rw [tV_m] | rw [gF_g h1.1.1 _ (by decide)] | rw [h4] | rw [if_pos (show x < (N : Int) by omega)] | rw [f2] | rw [gA_g (a := 0) h1.1.2.2.2.1 _ hb.1 (by omega)] | rw [qn] | rw [if_b0])
          cases isB c m (p.getD (p.length - 1) 0) x
          · rw [cond_f, c18_45, w32_id (by omega) (by omega)]
          · rw [cond_t]
            repeat (first | rw [bnd_s] | rw [tI_m] | rw [tL_m] | rw [tA_m] | rw [tV_m] | rw [qb] | rw [b2i_t] | rw [if_neg (show ¬ (1 : Int) = 0 by decide)] | rw [c18_45] | rw [w32_id (z := x + 1) (by omega) (by omega)])
        · have g' := Bool.eq_false_iff.mpr g
          rw [g'] at qb
          rw [if_neg g, ed_sum c m N k p x hl (by omega)]
          by_cases w : isB c m (p.getD (p.length - 1) 0) x = true
          · rw [if_pos w]
            rw [w] at qn
            have ne : p.length + 1 - 1 = p.length := by omega
            have IH2 := k18 d h1 h3 eN h2 hN k (p ++ [x]) (ior u (ishl 1 x)) (by rw [List.length_append, List.length_singleton]; omega) (by rw [List.length_append, List.length_singleton]; omega) (MK_a hN hu x0 (by omega) g') (by rw [getD_a p x (by omega)]; exact hp) (by rw [con_a, hz]; rfl) (by rw [List.length_append, List.length_singleton, ne, getD_l]; omega)
            rw [List.length_append, List.length_singleton, ne, getD_l, show ((p.length + 1 : Nat) : Int) - 1 = (p.length : Int) by omega] at IH2
            have sb := perL_b (f := fun z => b2i (allU (edZ c m N z) (k + 1) (p.length : Int))) (fun z => (b2i_b _).1) (fun z => (b2i_b _).2) hN k (p ++ [x])
            have ih1 := IH (x + 1) (a + sumL (fun z => b2i (allU (edZ c m N z) (k + 1) (p.length : Int))) (perL N k (p ++ [x]))) (by omega) (by omega) (by omega) (by omega)
            rw [← Int.add_assoc, ← ih1, c18_19]
            repeat (first | rw [bnd_s] | rw [tI_m] | rw [tL_m] | rw [tA_m] | rw [tV_m] | rw [gF_g h1.1.1 _ (by decide)] | rw [h4] | rw [if_pos (show x < (N : Int) by omega)] | rw [f2] | rw [gA_g (a := 0) h1.1.2.2.2.1 _ hb.1 (by omega)] | rw [qn] | rw [b2i_t] | rw [b2i_f] | rw [if_neg (show ¬ (1 : Int) = 0 by decide)] | rw [qb] | rw [if_pos (show (0 : Int) = 0 from rfl)] | rw [IH2] | rw [w32_id (z := a + sumL (fun z => b2i (allU (edZ c m N z) (k + 1) (p.length : Int))) (perL N k (p ++ [x]))) (by omega) (by omega)] | rw [c18_45] | rw [w32_id (z := x + 1) (by omega) (by omega)])
          · rw [if_neg w]
            rw [Bool.eq_false_iff.mpr w] at qn
            rw [Int.zero_add, ← ih0, c18_19]
            repeat (first | rw [bnd_s] | rw [tI_m] | rw [tL_m] | rw [tA_m] | rw [tV_m] | rw [gF_g h1.1.1 _ (by decide)] | rw [h4] | rw [if_pos (show x < (N : Int) by omega)] | rw [f2] | rw [gA_g (a := 0) h1.1.2.2.2.1 _ hb.1 (by omega)] | rw [qn] | rw [b2i_f] | rw [if_pos (show (0 : Int) = 0 from rfl)] | rw [c18_45] | rw [w32_id (z := x + 1) (by omega) (by omega)])
    have e0 : sumU (fun x => if p.contains x then 0 else sumL (fun z => b2i (allU (edZ c m N z) (k + 1 + 1) ((p.length : Int) - 1))) (perL N k (p ++ [x]))) N 0 = 0 + sumU (fun x => if p.contains x then 0 else sumL (fun z => b2i (allU (edZ c m N z) (k + 1 + 1) ((p.length : Int) - 1))) (perL N k (p ++ [x]))) (N - 1) 1 := by
      rw [show N = (N - 1) + 1 by omega, sumU, if_pos hz]; rfl
    have y := loop (N - 1) 1 0 (by omega) (by omega) (by omega) (by have P := pw_pos (show (0 : Int) < 7 by decide) k; omega)
    rw [perL_s, e0, ← y, show d + (k + 1) + 2 = (d + k + 2) + 1 by omega, c18 (hg := h1.g)]
    repeat (first | rw [bnd_s] | rw [tI_m] | rw [tL_m] | rw [tA_m] | rw [tV_m] | rw [gF_g h1.1.1 _ (by decide)] | rw [h4] | rw [if_neg fu])
end
def rgS (f : List Int → Int) : List (List Int) → Int
  | [] => 0
  | p :: r => if p.getD 0 0 = 0 then f p + rgS f r else 0
theorem rgS_0 {f : List Int → Int} : ∀ (L : List (List Int)), (∀ p ∈ L, p.getD 0 0 ≠ 0) → rgS f L = 0
  | [], _ => rfl
  | p :: r, h => by rw [rgS, if_neg (h p List.mem_cons_self)]
theorem rgS_app {f : List Int → Int} : ∀ (L R : List (List Int)), (∀ p ∈ L, p.getD 0 0 = 0) → (∀ p ∈ R, p.getD 0 0 ≠ 0) → rgS f (L ++ R) = sumL f L
  | [], R, _, h => rgS_0 R h
  | p :: r, R, h, h' => by rw [List.cons_append, rgS, if_pos (h p List.mem_cons_self), rgS_app r R (fun q hq => h q (List.mem_cons_of_mem _ hq)) h', sumL]
theorem rgS_per (f : List Int → Int) (N : Nat) : rgS f (perL (N + 1) (N + 1) []) = sumL f (perL (N + 1) N [0]) := by
  have e : perL (N + 1) (N + 1) [] = perL (N + 1) N [0] ++ catU (fun x => if ([] : List Int).contains x then [] else perL (N + 1) N ([] ++ [x])) N 1 := rfl
  rw [e]
  refine rgS_app _ _ (fun p hp => ?_) (fun p hp => ?_)
  · exact (perL_pre _ _ _ _ hp).2 0 (by decide)
  · obtain ⟨x, x0, x1, hx⟩ := catU_mem _ _ hp
    rw [if_neg (by simp)] at hx
    have := (perL_pre _ _ _ _ hx).2 0 (by simp)
    rw [this]
    simp only [List.nil_append, List.getD_cons_zero]
    omega
section
variable {s : List (Nat × Nat)} {b : Nat → Nat → Int}
theorem m189_49 (d : Nat) (hs : SpL s) {c : Nat → Nat → Int} (hm : MS c) {m : Int} (hM : MapOK c m) {N : Nat} (h2 : 2 ≤ N) (hN : N ≤ 7) {p : List Int} (hA : AR c p N) (a : Int) (o4 : Option AV) : ∀ (n : Nat) (j : Int) (f : Bool), 0 ≤ j → j + n = N → ∃ o5 o6, Rr (Cd (d + 2)) 189 49 [some (vA 142), some (vI m), some (vI (N : Int)), some (vI a), o4, some (vI (b2i f)), some (vI j)] [] (s, c) = Rr (Cd (d + 2)) 189 82 [some (vA 142), some (vI m), some (vI (N : Int)), some (vI a), o4, o5, o6] [vI (b2i (f && allU (edZ c m N p) n j)), vI a] (s, c)
  | 0, j, f, h0, h => by
    refine ⟨some (vI (b2i f)), some (vI j), ?_⟩
    rw [c189_49, if_neg (by omega), if_b0]
    simp only [allU, Bool.and_true]
    cases f <;> rfl
  | n + 1, j, f, h0, h => by
    obtain ⟨o5, o6, ih⟩ := m189_49 d hs hm hM h2 hN hA a o4 n (j + 1) (f && edZ c m N p j) (by omega) (by omega)
    refine ⟨o5, o6, ?_⟩
    have jm := Int.emod_nonneg (j + 1) (show (N : Int) ≠ 0 by omega)
    have jl := Int.emod_lt_of_pos (j + 1) (show 0 < (N : Int) by omega)
    have a1 := hA.2 j.toNat (by omega)
    have a2 := hA.2 ((j + 1) % (N : Int)).toNat (by omega)
    have q := m178 d hs hm hM (p.getD j.toNat 0) (p.getD ((j + 1) % (N : Int)).toNat 0)
    rw [show isB c m (p.getD j.toNat 0) (p.getD ((j + 1) % (N : Int)).toNat 0) = edZ c m N p j from rfl] at q
    simp only [allU]
    rw [← Bool.and_assoc, ← ih, c189_49, if_pos (by omega), if_b0]
    cases f
    · rw [cond_f, c189_72, c189_73, w32_id (z := j + 1) (by omega) (by omega), Bool.false_and]; rfl
    · rw [cond_t, Bool.true_and]
      repeat (first | rw [bnd_s] | rw [tI_m] | rw [tL_m] | rw [tA_m] | rw [tV_m] | rw [fC142 hs _ (by decide)] | rw [pC142 hs _ _ (by decide)] | rw [MS_7 hm] | rw [aC149 hs _ h0 (by omega)] | rw [a1] | rw [if_neg (show ¬ (N : Int) = 0 by omega)] | rw [w32_id (z := j + 1) (by omega) (by omega)] | rw [irem_n (show 0 ≤ j + 1 by omega) (by omega) (show 0 < (N : Int) by omega) (by omega)] | rw [aC149 hs _ jm (by omega)] | rw [a2] | rw [q] | rw [if_b0])
      cases edZ c m N p j
      · rw [cond_f, c189_72, c189_73, w32_id (z := j + 1) (by omega) (by omega)]; rfl
      · rw [cond_t, c189_73, w32_id (z := j + 1) (by omega) (by omega)]; rfl
theorem edZ_of {b c : Nat → Nat → Int} (e3 : c 143 = b 143) (m : Int) (N : Nat) (z : List Int) : edZ c m N z = edZ b m N z := by
  funext j; unfold edZ; rw [isB_of e3]
theorem m189_25 (d : Nat) (hs : SpL s) (hm : MS b) {m : Int} (hM : MapOK b m) {N : Nat} (h2 : 2 ≤ N) (hN : N ≤ 7) : ∀ (L : List (List Int)) (p : List Int) (r : List (List Int)) (a : Int) (c : Nat → Nat → Int) (o5 o6 : Option AV), L = p :: r → chN' N L = true → AR c p N → Fm [149] [] b c → 0 ≤ a → a + L.length < 2147483648 → ∃ c', Rr (Cd (d + 2)) 189 25 [some (vA 142), some (vI m), some (vI (N : Int)), some (vI a), some (vI 1), o5, o6] [] (s, c) = some ([vI (a + rgS (fun z => b2i (ltZ N z && allU (edZ b m N z) N 0)) L)], (s, c')) ∧ Fm [149] [] b c'
  | [], _, _, _, _, _, _, e, _, _, _, _, _ => by cases e
  | p' :: r', p, r, a, c, o5, o6, e, hc, hA, hF, a0, a1 => by
    simp only [List.cons.injEq] at e
    obtain ⟨rfl, rfl⟩ := e
    have hm1 : MS c := hF.ms hm (by decide)
    have E3 : c 143 = b 143 := hF.1 143 (by decide) (by decide)
    have b0 := hA.2 0 (by omega)
    have b1 := hA.2 1 (by omega)
    have b2 := hA.2 (N - 1) (by omega)
    have t2 : ((N : Int) - 1).toNat = N - 1 := by omega
    rw [rgS]
    by_cases g : p'.getD 0 0 = 0
    · rw [if_pos g]
      obtain ⟨x5, x6, y⟩ := m189_49 d hs hm1 (MapOK_of hM E3) h2 hN hA a (some (vI 1)) N 0 (ltZ N p') (by omega) (by omega)
      rw [edZ_of E3] at y
      obtain ⟨c2, z1, z2, z3⟩ := m187 (d + 1) hs hm1 (N := N) h2 hN hA
      have F2 : Fm [149] [] b c2 := hF.tr z2
      have bb := b2i_b (ltZ N p' && allU (edZ b m N p') N 0)
      rw [List.length_cons] at a1
      have run : Rr (Cd (d + 2)) 189 25 [some (vA 142), some (vI m), some (vI (N : Int)), some (vI a), some (vI 1), o5, o6] [] (s, c) = Rr (Cd (d + 2)) 189 25 [some (vA 142), some (vI m), some (vI (N : Int)), some (vI (a + b2i (ltZ N p' && allU (edZ b m N p') N 0))), some (vI (b2i (nxN N p').isSome)), x5, x6] [] (s, c2) := by
        have e46 : (if p'.getD 1 0 < p'.getD (N - 1) 0 then Rr (Cd (d + 2)) 189 46 [some (vA 142), some (vI m), some (vI (N : Int)), some (vI a), some (vI 1), o5, o6] [vI 1] (s, c) else Rr (Cd (d + 2)) 189 46 [some (vA 142), some (vI m), some (vI (N : Int)), some (vI a), some (vI 1), o5, o6] [vI 0] (s, c)) = Rr (Cd (d + 2)) 189 49 [some (vA 142), some (vI m), some (vI (N : Int)), some (vI a), some (vI 1), some (vI (b2i (ltZ N p'))), some (vI 0)] [] (s, c) := by
          unfold ltZ
          by_cases w : p'.getD 1 0 < p'.getD (N - 1) 0
          · rw [if_pos w, c189_46, decide_eq_true w]; rfl
          · rw [if_neg w, c189_46, decide_eq_false w]; rfl
        rw [c189_25, if_neg (by decide)]
        repeat (first | rw [bnd_s] | rw [tI_m] | rw [tL_m] | rw [tA_m] | rw [tV_m] | rw [fC142 hs _ (by decide)] | rw [pC142 hs _ _ (by decide)] | rw [MS_7 hm1] | rw [aC149 hs _ (show (0 : Int) ≤ 0 by decide) (by decide)] | rw [show (0 : Int).toNat = 0 from rfl] | rw [b0] | rw [if_pos g] | rw [aC149 hs _ (show (0 : Int) ≤ 1 by decide) (by decide)] | rw [show (1 : Int).toNat = 1 from rfl] | rw [b1] | rw [w32_id (z := (N : Int) - 1) (by omega) (by omega)] | rw [aC149 hs _ (show 0 ≤ (N : Int) - 1 by omega) (by omega)] | rw [t2] | rw [b2] | rw [e46] | rw [y] | rw [c189_82] | rw [z1] | rw [w32_id (z := a + b2i (ltZ N p' && allU (edZ b m N p') N 0)) (by omega) (by omega)])
      rw [run, ← Int.add_assoc]
      unfold chN' at hc
      cases en : nxN N p' with
      | none =>
        rw [en] at hc
        cases r' with
        | nil =>
          refine ⟨c2, ?_, F2⟩
          rw [c189_25, if_pos (show b2i (none : Option (List Int)).isSome = 0 from rfl), c189_89]
          simp only [rgS, Int.add_zero]
        | cons q t => simp at hc
      | some q =>
        rw [en] at hc
        cases r' with
        | nil => simp at hc
        | cons q' t =>
          simp only [Bool.and_eq_true, beq_iff_eq] at hc
          obtain ⟨rfl, hc⟩ := hc
          rw [List.length_cons] at a1
          exact m189_25 d hs hm hM h2 hN (q :: t) q t _ c2 x5 x6 rfl hc (z3 q en) F2 (by omega) (by rw [List.length_cons]; omega)
    · rw [if_neg g]
      refine ⟨c, ?_, hF⟩
      rw [c189_25, if_neg (by decide)]
      repeat (first | rw [bnd_s] | rw [tI_m] | rw [tL_m] | rw [tA_m] | rw [tV_m] | rw [fC142 hs _ (by decide)] | rw [pC142 hs _ _ (by decide)] | rw [MS_7 hm1] | rw [aC149 hs _ (show (0 : Int) ≤ 0 by decide) (by decide)] | rw [show (0 : Int).toNat = 0 from rfl] | rw [b0] | rw [if_neg g] | rw [c189_89])
      rw [Int.add_zero]
end
theorem op_rings (m : Int) : Op 121 189 [vI m] := by
  intro s c n hI
  have hs := hI.1.l
  have hc := hI.2.2.2.1
  have hm := hI.2.2.1
  have h6 := hI.2.2.2.2.1.1.1
  have hn := hI.nM
  have n2 := hn.2
  by_cases h1 : 0 ≤ m ∧ m < c 143 0
  case neg =>
    refine ⟨vI (-1), s, s, c, c, n, ?_, ?_, by omega, hI⟩
    · rw [c121 (hg := gC29 hs c)]
      repeat (first | rw [bnd_s] | rw [tI_m] | rw [tL_m] | rw [tA_m] | rw [tV_m] | rw [fC29 hs _ (by decide)] | rw [pC29 hs _ _ (by decide)] | rw [CS_29_0 hc] | rw [k113 _ hs hc h6 hn] | rw [if_neg h1] | rw [if_neg (show ¬ (-1 : Int) = 0 by decide)] | rw [if_pos (show (-1 : Int) < 0 by decide)] | rw [c121_11])
    · rw [c189 (hg := gC142 hs c)]
      repeat (first | rw [bnd_s] | rw [tI_m] | rw [tL_m] | rw [tA_m] | rw [tV_m] | rw [m173 _ hs hm hn] | rw [inR_f (show ¬ (0 ≤ m ∧ m ≤ c 143 0 - 1) by omega)] | rw [if_b0] | rw [cond_f])
  have hM := hI.mok m h1.1 h1.2
  obtain ⟨⟨k0, k1⟩, ⟨k2, k3⟩, -⟩ := id hM
  have hch := chN hs hc (m := m.toNat) (by omega)
  have hr := hI.map (m := m.toNat) (by omega)
  rw [Int.toNat_of_nonneg h1.1] at hr
  have h4 := hr.1.1
  have T2 : Cd 998 173 [vA 142, vI m] (s, c) = some ([vI (b2i true)], (s, c)) := by rw [m173 _ hs hm hn, inR_t (by omega)]
  by_cases g : c 143 (20 + m).toNat < 3
  · refine ⟨vI 0, s, s, c, c, n, ?_, ?_, by omega, hI⟩
    · have q17 : Cd 998 17 [vA ((40 + 5 * m.toNat : Nat) : Int)] (s, c) = some ([vI 0], (s, c)) := by
        rw [c17 (hg := hch.g)]
        repeat (first | rw [bnd_s] | rw [tI_m] | rw [tL_m] | rw [tA_m] | rw [tV_m] | rw [gF_g hch.1.1 _ (by decide)] | rw [h4] | rw [if_pos g] | rw [c17_12])
      rw [c121 (hg := gC29 hs c)]
      repeat (first | rw [bnd_s] | rw [tI_m] | rw [tL_m] | rw [tA_m] | rw [tV_m] | rw [fC29 hs _ (by decide)] | rw [pC29 hs _ _ (by decide)] | rw [CS_29_0 hc] | rw [k113 _ hs hc h6 hn] | rw [if_pos h1] | rw [if_neg (show ¬ ((40 + 5 * m.toNat : Nat) : Int) = 0 by omega)] | rw [if_neg (show ¬ ((40 + 5 * m.toNat : Nat) : Int) < 0 by omega)] | rw [q17] | rw [c121_11])
    · rw [c189 (hg := gC142 hs c)]
      repeat (first | rw [bnd_s] | rw [tI_m] | rw [tL_m] | rw [tA_m] | rw [tV_m] | rw [T2] | rw [if_b0] | rw [cond_t] | rw [fC142 hs _ (by decide)] | rw [pC142 hs _ _ (by decide)] | rw [MS_0 hm] | rw [w32_id (z := 20 + m) (by omega) (by omega)] | rw [aC143 hs _ (show 0 ≤ 20 + m by omega) (by omega)] | rw [if_pos g])
  have z : ∃ N : Nat, N = (c 143 (20 + m).toNat).toNat := ⟨_, rfl⟩
  obtain ⟨N, zN⟩ := z
  have eN : c 143 (20 + m).toNat = (N : Int) := by omega
  have h3 : 3 ≤ N := by omega
  have hN : N ≤ 7 := by omega
  have mk0 : MK N [0] 1 := by
    have m0 : MK N [] 0 := ⟨by decide, fun y _ _ => by rw [bt_z]; simp, by rw [sumU_cg (g := fun _ => 0) N 0 (fun y _ _ => by simp [b2i]), sumU_0]; rfl, fun y _ => by simp⟩
    exact MK_a hN m0 (x := 0) (by decide) (by omega) (by simp)
  have q18 := k18 (995 - (N - 1)) (q := 40 + 5 * m.toNat) hch hr eN (by omega) hN (N - 1) [0] 1 (by simp; omega) (by decide) mk0 rfl (by decide) ⟨by decide, by show (0 : Int) < N; omega⟩
  rw [show 995 - (N - 1) + (N - 1) + 2 = 997 by omega, show ([0] : List Int).getD (([0] : List Int).length - 1) 0 = 0 from rfl, show (([0] : List Int).length : Int) - 1 = 0 from rfl, show N - 1 + 1 = N by omega, ring_two h3 hN] at q18
  have sb := perL_b (f := fun z => b2i (ltZ N z && allU (edZ c m N z) N 0)) (fun z => (b2i_b _).1) (fun z => (b2i_b _).2) hN (N - 1) [0]
  have pb : (7 : Int) ^ (N - 1) ≤ 117649 := by
    have := pw_up (show (1 : Int) ≤ 7 by decide) (N - 1) (6 - (N - 1))
    rw [show N - 1 + (6 - (N - 1)) = 6 by omega] at this
    exact this
  have zS : ∃ S, S = sumL (fun z => b2i (ltZ N z && allU (edZ c m N z) N 0)) (perL N (N - 1) [0]) := ⟨_, rfl⟩
  obtain ⟨S, zS⟩ := zS
  rw [← zS] at q18 sb
  have ed : idiv (2 * S) 2 = S := by rw [idiv_n (by omega) (by omega) (by decide) (by decide)]; omega
  have q17 : Cd 998 17 [vA ((40 + 5 * m.toNat : Nat) : Int)] (s, c) = some ([vI S], (s, c)) := by
    rw [c17 (hg := hch.g)]
    repeat (first | rw [bnd_s] | rw [tI_m] | rw [tL_m] | rw [tA_m] | rw [tV_m] | rw [gF_g hch.1.1 _ (by decide)] | rw [h4] | rw [if_neg g] | rw [q18] | rw [ed] | rw [c17_12])
  obtain ⟨p1, ⟨r, p2⟩, p3⟩ := per_ok (N := N) (by omega) hN
  obtain ⟨c1, y1, y2, y3⟩ := m188 997 hs hm (N := N) hN
  obtain ⟨c2, z1, z2⟩ := m189_25 996 hs hm hM (N := N) (by omega) hN (perL N N []) (idL N) r 0 c1 none none p2 p1 y3 y2 (by omega) (by omega)
  have eS : rgS (fun z => b2i (ltZ N z && allU (edZ c m N z) N 0)) (perL N N []) = S := by
    have : N = (N - 1) + 1 := by omega
    have h := rgS_per (fun z => b2i (ltZ N z && allU (edZ c m N z) N 0)) (N - 1)
    rw [← this] at h
    rw [h, zS]
  rw [eS, Int.zero_add] at z1
  refine ⟨vI S, s, s, c, c2, n, ?_, ?_, by omega, Inv_M hI z2 (by decide)⟩
  · rw [c121 (hg := gC29 hs c)]
    repeat (first | rw [bnd_s] | rw [tI_m] | rw [tL_m] | rw [tA_m] | rw [tV_m] | rw [fC29 hs _ (by decide)] | rw [pC29 hs _ _ (by decide)] | rw [CS_29_0 hc] | rw [k113 _ hs hc h6 hn] | rw [if_pos h1] | rw [if_neg (show ¬ ((40 + 5 * m.toNat : Nat) : Int) = 0 by omega)] | rw [if_neg (show ¬ ((40 + 5 * m.toNat : Nat) : Int) < 0 by omega)] | rw [q17] | rw [c121_11])
  · rw [c189 (hg := gC142 hs c)]
    repeat (first | rw [bnd_s] | rw [tI_m] | rw [tL_m] | rw [tA_m] | rw [tV_m] | rw [T2] | rw [if_b0] | rw [cond_t] | rw [fC142 hs _ (by decide)] | rw [pC142 hs _ _ (by decide)] | rw [MS_0 hm] | rw [w32_id (z := 20 + m) (by omega) (by omega)] | rw [aC143 hs _ (show 0 ≤ 20 + m by omega) (by omega)] | rw [if_neg g])
    rw [eN, y1]
    repeat (first | rw [bnd_s] | rw [tI_m] | rw [tL_m] | rw [tA_m] | rw [tV_m])
    exact z1
