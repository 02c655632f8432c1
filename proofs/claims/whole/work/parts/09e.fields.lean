/-! the simulation, fourth part: fields and arrays -/
theorem s50 {L i n : Nat} {xs : Nat → Int32} {hp : HP} (hw : wfH L xs hp) (h : hp.1[i]? = some (50, n)) : n = 2 ∧ hp.2 i 1 = 0 := by
  have hi : i < KX := x_low hw h (Or.inr (Or.inl rfl))
  rcases x_at hw hi h with ⟨-, g⟩ | ⟨-, g⟩ | ⟨_, -, -, g⟩ | ⟨j, hj, hj2, g⟩ | ⟨_, -, -, g⟩
  · cases g
  · cases g
  · cases g
  · cases g; exact ⟨rfl, by rw [hw.2.2.1 _ _ hi, hj2, xCt_S1]⟩
  · cases g
def g50 (ri : RI) : Bool := !(ri.1 == 12 && ri.2.1 == 50) || (ri.2.2.1 == 0 && ri.2.2.2.1 == 2) || (ri.2.2.1 == 1 && ri.2.2.2.1 == 0)
set_option maxRecDepth 100000 in
theorem g50_ok : codeT.all (fun l => l.all g50) = true := by decide +kernel
theorem at50 {y pc b cc x : Nat} {z : Int} (h : cdAt y pc = some (12, 50, b, cc, x, z)) : (b = 0 ∧ cc = 2) ∨ (b = 1 ∧ cc = 0) := by
  have h1 := cd_mem h
  cases hl : codeT[y]? with
  | none => rw [hl] at h1; cases h1
  | some l =>
    rw [hl] at h1
    have h2 := List.all_eq_true.mp (List.all_eq_true.mp g50_ok l (List.mem_of_getElem? hl)) _ h1
    simpa [g50] using h2
theorem okC_t {t n : Nat} {f : Nat → Int} (ho : okC (t, n) f) : (t = 100 → ∀ k, k < n → inI (f k)) ∧ (t = 101 → ∀ k, k < n → inL (f k)) ∧ (t = 102 → ∀ k, k < n → f k = 0 ∨ f k = 1) ∧ (t = 103 ∨ t = 104 → ∀ k, k < n → f k ≠ 0) := by
  rcases ho.2 with h | h | h | h | h
  · refine ⟨fun g => ?_, fun g => ?_, fun g => ?_, fun g => ?_⟩ <;> (have := h.1; simp only at this; omega)
  · refine ⟨fun _ => h.2, fun g => ?_, fun g => ?_, fun g => ?_⟩ <;> (have := h.1; simp only at this; omega)
  · refine ⟨fun g => ?_, fun _ => h.2, fun g => ?_, fun g => ?_⟩ <;> (have := h.1; simp only at this; omega)
  · refine ⟨fun g => ?_, fun g => ?_, fun _ => h.2, fun g => ?_⟩ <;> (have := h.1; simp only at this; omega)
  · refine ⟨fun g => ?_, fun g => ?_, fun g => ?_, fun _ => h.2⟩ <;> (have := h.1; simp only at this; omega)
theorem okC_tags {t n : Nat} {f : Nat → Int} (ho : okC (t, n) f) : t < 13 ∨ t = 100 ∨ t = 101 ∨ t = 102 ∨ t = 103 ∨ t = 104 := by
  rcases ho.2 with h | h | h | h | h
  · exact Or.inl h.1
  · exact Or.inr (Or.inl h.1)
  · exact Or.inr (Or.inr (Or.inl h.1))
  · exact Or.inr (Or.inr (Or.inr (Or.inl h.1)))
  · have := h.1; simp only at this; omega
theorem entE_100 (P : PB) (c : Nat → Nat → Int) (i n : Nat) : entE P c i (100, n) = .inl (P.2.2.2.2 0, n, .inl fun k => Int32.ofInt (c i k)) := by simp [entE]
theorem entE_101 (P : PB) (c : Nat → Nat → Int) (i n : Nat) : entE P c i (101, n) = .inl (P.2.2.2.2 1, n, .inr (.inl fun k => Int64.ofInt (c i k))) := by simp [entE]
theorem entE_102 (P : PB) (c : Nat → Nat → Int) (i n : Nat) : entE P c i (102, n) = .inl (P.2.2.2.2 2, n, .inl fun k => Int32.ofInt (c i k)) := by simp [entE]
theorem entE_103 (P : PB) (c : Nat → Nat → Int) (i n : Nat) : entE P c i (103, n) = .inl (P.2.2.2.2 3, n, .inr (.inr (.inr (.inr fun k => rfo P (c i k))))) := by simp [entE]
theorem entE_104 (P : PB) (c : Nat → Nat → Int) (i n : Nat) : entE P c i (104, n) = .inl (P.2.2.2.2 4, n, .inr (.inr (.inr (.inr fun k => rfo P (c i k))))) := by simp [entE]
theorem rfo_cv {P : PB} {z : Int} (h : z ≠ 0) : va_rf (rfo P z) = cvA P z := by
  unfold rfo cvA
  by_cases h1 : z < 0
  · rw [if_pos h1, if_pos h1]; rfl
  · rw [if_neg h1, if_neg h1, if_neg h]; rfl
theorem bytL_at : ∀ j, j < 12 → bytL.getD j [] = (byts (stS j)).map Int32.ofInt := by
  intro j hj
  have h12 : strT.length = 12 := rfl
  have hs : strT[j]? = some strT[j] := List.getElem?_eq_getElem (by omega)
  unfold bytL stS
  rw [List.getD_eq_getElem?_getD, List.getElem?_map, hs]
  rfl
theorem map_getD (l : List Int) (k : Nat) : (l.map Int32.ofInt).getD k 0 = Int32.ofInt (l.getD k 0) := by
  rw [List.getD_eq_getElem?_getD, List.getD_eq_getElem?_getD, List.getElem?_map]
  cases l[k]? <;> rfl
theorem fit_i {ty : FieldType} {x : Int32} (h : kTy 0 ty = true) : narrow ty (.int x) = .int x ∧ fits ty (.int x) = true := by
  cases ty <;> simp [kTy] at h
  exact ⟨rfl, rfl⟩
theorem fit_z {ty : FieldType} {v : Int} (h : kTy 3 ty = true) (hv : v = 0 ∨ v = 1) : narrow ty (.int (Int32.ofInt v)) = .int (Int32.ofInt v) ∧ fits ty (.int (Int32.ofInt v)) = true := by
  cases ty <;> simp [kTy] at h
  rcases hv with rfl | rfl <;> exact ⟨by decide, by decide⟩
theorem fit_l {ty : FieldType} {x : Int64} (h : kTy 1 ty = true) : narrow ty (.long x) = .long x ∧ fits ty (.long x) = true := by
  cases ty <;> simp [kTy] at h
  exact ⟨rfl, rfl⟩
theorem fit_a {P : PB} (hq : P.2.2.1 = .null ∨ ∃ t, P.2.2.1 = .ref t) {ty : FieldType} {z : Int} (h : kTy 2 ty = true) : narrow ty (cvA P z) = cvA P z ∧ fits ty (cvA P z) = true := by
  rcases cvA_two hq z with e | ⟨t, e⟩ <;> rw [e] <;> cases ty <;> simp [kTy, isO] at h <;> exact ⟨rfl, rfl⟩
section SIM
variable {p : Program} {l : Launch} {e : Env} {R : Room} {s : State} {m : MethodId} {args : Array Value} {below : List Frame} {meth : Method} {c : Code} {Q : State → Prop} {P : PB} {y L d n0 z0 : Nat} {xs : Nat → Int32} {r : RT}

theorem kd_4 (a b : Nat) : kd a b = 0 ∨ kd a b = 1 ∨ kd a b = 2 ∨ kd a b = 3 := by
  unfold kd
  split
  · exact Or.inr (Or.inr (Or.inl rfl))
  · have h : ∀ l ∈ knds, ∀ q ∈ l, q = 0 ∨ q = 1 ∨ q = 2 ∨ q = 3 := by decide +kernel
    cases hl : knds[a]? with
    | none => simp
    | some l =>
      rw [Option.getD_some, List.getD_eq_getElem?_getD]
      cases hq : l[b]? with
      | none => simp
      | some q => exact h l (List.mem_of_getElem? hl) q (List.mem_of_getElem? hq)
theorem okC_put {t n i k : Nat} {v : Int} {c : Nat → Nat → Int} (ht : t < 13) (ho : okC (t, n) (c i)) (hv : wfK (kd t k) v) : okC (t, n) (u2 c i k v i) := by
  refine ⟨ho.1, Or.inl ⟨ht, (okC_o ht ho).1, fun j hj => ?_⟩⟩
  by_cases h : j = k
  · subst h; simp only [u2, and_self, if_true]; exact hv
  · simp only [u2, h, and_false, if_false]; exact (okC_o ht ho).2 j hj
set_option maxHeartbeats 4000000 in
theorem sim2 (C : CX p R s m args meth c P y L d n0 z0 xs r) {pc : Nat} {ri : RI} {ls : LVs} {st : List AV} {hp : HP} {k : KT} (hc : cdAt y pc = some ri) (h : sK2 (Cd d) ri pc ls st hp k = some r) (hk : ∀ pc' ls' st' hp', k pc' ls' st' hp' = some r → KJ p l e R s m args below meth c Q P y L n0 z0 xs r pc' ls' st' hp') : KJ p l e R s m args below meth c Q P y L n0 z0 xs r pc ls st hp := by
  have C0 := C
  obtain ⟨hx, hb, hml, hown, hts, hWD, hsz, hn0, hmn, hfr, hlo, hce, hsl⟩ := C
  have hq := hWD.2.2.2
  have hKK := hWD.2.2.1.1
  unfold sK2 at h
  split at h
  · rename_i a b x z
    obtain ⟨hd, hok, hwd, hof⟩ := at_ok hc (by simp)
    simp only [okR, Bool.and_eq_true, decide_eq_true_eq] at hok
    obtain ⟨o, q, rfl, h9⟩ := e1A_inv h
    obtain ⟨v, hg, h9⟩ := bnd_inv h9
    obtain ⟨h0, n, hqn, hbn, rfl⟩ := gF_inv hg
    intro hI
    have hw := hI.2.2.2.1
    have hkd : 1 = kd a b := by rcases hok.2 with g | ⟨-, ⟨-, g⟩ | ⟨-, g⟩⟩ <;> first | exact g | cases g
    have ha : a < 13 := by
      rcases hok.1 with g | g
      · exact g
      · subst g; rcases at50 hc with ⟨-, g⟩ | ⟨-, g⟩ <;> cases g
    have hi : KX ≤ o.toNat := x_tag hw hqn (by simp; omega) (by simp; omega) (by simp; omega) (by simp; omega)
    have hwf := (okC_o ha (hw.2.2.2 _ _ hi hqn)).2 b hbn
    rw [← hkd] at hwf
    obtain ⟨hR, hW⟩ := hk _ _ _ _ h9 ⟨hI.1, hI.2.1, wf_cons (show inL _ from hwf) (wf_tail hI.2.2.1), hI.2.2.2⟩
    exact ⟨hR, fun H locs lsr hL hP hS => sim_get C0 hc h0 hqn hbn hw hP hS (fun _ => by rw [← hkd]; rfl) (fun g => by omega) (hW H locs lsr hL hP hS)⟩
  · rename_i a b x z
    obtain ⟨hd, hok, hwd, hof⟩ := at_ok hc (by simp)
    simp only [okR, Bool.and_eq_true, decide_eq_true_eq] at hok
    obtain ⟨o, q, rfl, h9⟩ := e1A_inv h
    obtain ⟨v, hg, h9⟩ := bnd_inv h9
    obtain ⟨h0, n, hqn, hbn, rfl⟩ := gF_inv hg
    intro hI
    have hw := hI.2.2.2.1
    obtain ⟨hR, hW⟩ := hk _ _ _ _ h9 ⟨hI.1, hI.2.1, wf_cons trivial (wf_tail hI.2.2.1), hI.2.2.2⟩
    refine ⟨hR, fun H locs lsr hL hP hS => sim_get C0 hc h0 hqn hbn hw hP hS (fun ha => ?_) (fun ha => ?_) (hW H locs lsr hL hP hS)⟩
    · have hkd : 2 = kd a b := by
        rcases hok.2 with g | ⟨g, -⟩
        · exact g
        · omega
      rw [← hkd]; rfl
    · have hb0 : b = 0 := by
        subst ha
        rcases at50 hc with ⟨g, -⟩ | ⟨-, g⟩
        · exact g
        · cases g
      rw [if_pos hb0]; rfl
  · rename_i a b cc x z g1 g2
    obtain ⟨hd, hok, hwd, hof⟩ := at_ok hc (by simp)
    simp only [okR, Bool.and_eq_true, decide_eq_true_eq] at hok
    obtain ⟨o, q, rfl, h9⟩ := e1A_inv h
    obtain ⟨v, hg, h9⟩ := bnd_inv h9
    obtain ⟨h0, n, hqn, hbn, rfl⟩ := gF_inv hg
    intro hI
    have hw := hI.2.2.2.1
    have hcc1 : cc ≠ 1 := g1
    have hcc2 : cc ≠ 2 := g2
    have hkd : a < 13 → cc = kd a b := fun ha => by
      rcases hok.2 with g | ⟨g, -⟩
      · exact g
      · omega
    have hwf : inI (hp.2 o.toNat b) := by
      rcases hok.1 with ha | ha
      · have hi : KX ≤ o.toNat := x_tag hw hqn (by simp; omega) (by simp; omega) (by simp; omega) (by simp; omega)
        have hwf := (okC_o ha (hw.2.2.2 _ _ hi hqn)).2 b hbn
        rw [← hkd ha] at hwf
        exact wfK_i hcc1 hcc2 hwf
      · subst ha
        obtain ⟨e1, e2⟩ := s50 hw hqn
        have hb1 : b = 1 := by
          rcases at50 hc with ⟨-, g⟩ | ⟨g, -⟩
          · exact absurd g hcc2
          · exact g
        rw [hb1, e2]; exact inI_0
    obtain ⟨hR, hW⟩ := hk _ _ _ _ h9 ⟨hI.1, hI.2.1, wf_cons (show inI _ from hwf) (wf_tail hI.2.2.1), hI.2.2.2⟩
    refine ⟨hR, fun H locs lsr hL hP hS => sim_get C0 hc h0 hqn hbn hw hP hS (fun ha => ?_) (fun ha => ?_) (hW H locs lsr hL hP hS)⟩
    · rw [← hkd ha, cvK_i hcc1 hcc2]; rfl
    · subst ha
      obtain ⟨e1, e2⟩ := s50 hw hqn
      have hb1 : b = 1 := by
        rcases at50 hc with ⟨-, g⟩ | ⟨g, -⟩
        · exact absurd g hcc2
        · exact g
      rw [if_neg (by omega), hb1]
      show cv P (vI (hp.2 o.toNat 1)) = _
      rw [e2]; rfl
  · rename_i a b x z
    obtain ⟨hd, hok, hwd, hof⟩ := at_ok hc (by simp)
    simp only [okR, Bool.and_eq_true, decide_eq_true_eq] at hok
    obtain ⟨o, v, q, rfl, h9⟩ := eIA_inv h
    have hkd : 0 = kd a b := hok.1.1.2
    obtain ⟨h1, hg, h9⟩ := bnd_inv h9
    obtain ⟨h0, n, hqn, hbn, rfl⟩ := pF_inv hg
    intro hI
    have hw := hI.2.2.2.1
    have ha : a < 13 := hok.1.1.1
    have hi : KX ≤ o.toNat := x_tag hw hqn (by simp; omega) (by simp; omega) (by simp; omega) (by simp; omega)
    have hw2 : wfH L xs (hp.1, u2 hp.2 o.toNat b v) := wfH_set hw hi hqn (fun ho => okC_put ha ho (by rw [← hkd]; exact (show inI v from wf_head hI.2.2.1)))
    obtain ⟨hR, hW⟩ := hk _ _ _ _ h9 ⟨hI.1, hI.2.1, wf_tail (wf_tail hI.2.2.1), hw2, hI.2.2.2.2⟩
    exact ⟨hR, fun H locs lsr hL hP hS => sim_put (vz := v) C0 hc h0 hqn hbn hw hP hS (by rw [← hkd]; rfl) (fun ty hty => by rw [← hkd] at hty; exact fit_i hty) (fun H1 locs1 g1 g2 => hW H1 locs1 lsr hL g1 g2)⟩
  · rename_i a b x z
    obtain ⟨hd, hok, hwd, hof⟩ := at_ok hc (by simp)
    simp only [okR, Bool.and_eq_true, decide_eq_true_eq] at hok
    obtain ⟨o, v, q, rfl, h9⟩ := eLA_inv h
    have hkd : 1 = kd a b := hok.1.1.2
    obtain ⟨h1, hg, h9⟩ := bnd_inv h9
    obtain ⟨h0, n, hqn, hbn, rfl⟩ := pF_inv hg
    intro hI
    have hw := hI.2.2.2.1
    have ha : a < 13 := hok.1.1.1
    have hi : KX ≤ o.toNat := x_tag hw hqn (by simp; omega) (by simp; omega) (by simp; omega) (by simp; omega)
    have hw2 : wfH L xs (hp.1, u2 hp.2 o.toNat b v) := wfH_set hw hi hqn (fun ho => okC_put ha ho (by rw [← hkd]; exact (show inL v from wf_head hI.2.2.1)))
    obtain ⟨hR, hW⟩ := hk _ _ _ _ h9 ⟨hI.1, hI.2.1, wf_tail (wf_tail hI.2.2.1), hw2, hI.2.2.2.2⟩
    exact ⟨hR, fun H locs lsr hL hP hS => sim_put (vz := v) C0 hc h0 hqn hbn hw hP hS (by rw [← hkd]; rfl) (fun ty hty => by rw [← hkd] at hty; exact fit_l hty) (fun H1 locs1 g1 g2 => hW H1 locs1 lsr hL g1 g2)⟩
  · rename_i a b x z
    obtain ⟨hd, hok, hwd, hof⟩ := at_ok hc (by simp)
    simp only [okR, Bool.and_eq_true, decide_eq_true_eq] at hok
    obtain ⟨o, v, q, rfl, h9⟩ := eAA_inv h
    have hkd : 2 = kd a b := hok.1.1.2
    obtain ⟨h1, hg, h9⟩ := bnd_inv h9
    obtain ⟨h0, n, hqn, hbn, rfl⟩ := pF_inv hg
    intro hI
    have hw := hI.2.2.2.1
    have ha : a < 13 := hok.1.1.1
    have hi : KX ≤ o.toNat := x_tag hw hqn (by simp; omega) (by simp; omega) (by simp; omega) (by simp; omega)
    have hw2 : wfH L xs (hp.1, u2 hp.2 o.toNat b v) := wfH_set hw hi hqn (fun ho => okC_put ha ho (by rw [← hkd]; exact trivial))
    obtain ⟨hR, hW⟩ := hk _ _ _ _ h9 ⟨hI.1, hI.2.1, wf_tail (wf_tail hI.2.2.1), hw2, hI.2.2.2.2⟩
    exact ⟨hR, fun H locs lsr hL hP hS => sim_put (vz := v) C0 hc h0 hqn hbn hw hP hS (by rw [← hkd]; rfl) (fun ty hty => by rw [← hkd] at hty; exact fit_a hq hty) (fun H1 locs1 g1 g2 => hW H1 locs1 lsr hL g1 g2)⟩
  · rename_i a b cc x z g0 g1 g2
    obtain ⟨hd, hok, hwd, hof⟩ := at_ok hc (by simp)
    simp only [okR, Bool.and_eq_true, decide_eq_true_eq] at hok
    obtain ⟨o, v, q, rfl, h9⟩ := eIA_inv h
    have hkd : 3 = kd a b := by
      have hk4 := hok.1.1.2
      have k0 : cc ≠ 0 := g0
      have k1 : cc ≠ 1 := g1
      have k2 : cc ≠ 2 := g2
      have : kd a b = 0 ∨ kd a b = 1 ∨ kd a b = 2 ∨ kd a b = 3 := kd_4 a b
      omega
    by_cases hv01 : v = 0 ∨ v = 1
    · rw [if_pos hv01] at h9
      obtain ⟨h1, hg, h9⟩ := bnd_inv h9
      obtain ⟨h0, n, hqn, hbn, rfl⟩ := pF_inv hg
      intro hI
      have hw := hI.2.2.2.1
      have ha : a < 13 := hok.1.1.1
      have hi : KX ≤ o.toNat := x_tag hw hqn (by simp; omega) (by simp; omega) (by simp; omega) (by simp; omega)
      have hw2 : wfH L xs (hp.1, u2 hp.2 o.toNat b v) := wfH_set hw hi hqn (fun ho => okC_put ha ho (by rw [← hkd]; exact (show inI v from wf_head hI.2.2.1)))
      obtain ⟨hR, hW⟩ := hk _ _ _ _ h9 ⟨hI.1, hI.2.1, wf_tail (wf_tail hI.2.2.1), hw2, hI.2.2.2.2⟩
      exact ⟨hR, fun H locs lsr hL hP hS => sim_put (vz := v) C0 hc h0 hqn hbn hw hP hS (by rw [← hkd]; rfl) (fun ty hty => by rw [← hkd] at hty; exact fit_z hty hv01) (fun H1 locs1 g1 g2 => hW H1 locs1 lsr hL g1 g2)⟩
    · rw [if_neg hv01] at h9; cases h9
  · intro _; cases h

end SIM
