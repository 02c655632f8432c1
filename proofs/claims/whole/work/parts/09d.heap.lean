/-! the simulation, third part: the heap -/
theorem gS_inv {hp : HP} {o : Int} {q : Nat × Nat} (h : gS hp o = some q) : 0 ≤ o ∧ hp.1[o.toNat]? = some q := by
  unfold gS at h
  split at h
  · cases h
  · exact ⟨by omega, h⟩
theorem bnd_inv {α β : Type} {x : Option α} {f : α → Option β} {r : β} (h : x.bind f = some r) : ∃ a, x = some a ∧ f a = some r := by
  cases x with
  | none => cases h
  | some a => exact ⟨a, rfl, h⟩
theorem gF_inv {hp : HP} {t k : Nat} {o v : Int} (h : gF hp t k o = some v) : 0 ≤ o ∧ ∃ n, hp.1[o.toNat]? = some (t, n) ∧ k < n ∧ v = hp.2 o.toNat k := by
  obtain ⟨q, h1, h2⟩ := bnd_inv h
  obtain ⟨h3, h4⟩ := gS_inv h1
  split at h2
  · rename_i g; cases h2; obtain ⟨q1, q2⟩ := q; obtain ⟨g1, g2⟩ := g; simp only at g1 g2; subst g1; exact ⟨h3, q2, h4, g2, rfl⟩
  · cases h2
theorem pF_inv {hp h' : HP} {t k : Nat} {o v : Int} (h : pF hp t k o v = some h') : 0 ≤ o ∧ ∃ n, hp.1[o.toNat]? = some (t, n) ∧ k < n ∧ h' = (hp.1, u2 hp.2 o.toNat k v) := by
  obtain ⟨q, h1, h2⟩ := bnd_inv h
  obtain ⟨h3, h4⟩ := gS_inv h1
  split at h2
  · rename_i g; cases h2; obtain ⟨q1, q2⟩ := q; obtain ⟨g1, g2⟩ := g; simp only at g1 g2; subst g1; exact ⟨h3, q2, h4, g2, rfl⟩
  · cases h2
theorem gA_inv {hp : HP} {a : Nat} {o i v : Int} (h : gA hp a o i = some v) : 0 ≤ o ∧ ∃ t n, hp.1[o.toNat]? = some (t, n) ∧ (t = 100 + a ∨ t = 110 + a) ∧ 0 ≤ i ∧ i < (n : Int) ∧ v = hp.2 o.toNat i.toNat := by
  obtain ⟨q, h1, h2⟩ := bnd_inv h
  obtain ⟨h3, h4⟩ := gS_inv h1
  split at h2
  · rename_i g; cases h2; obtain ⟨q1, q2⟩ := q; exact ⟨h3, q1, q2, h4, g.1, g.2.1, g.2.2, rfl⟩
  · cases h2
theorem pA_inv {hp h' : HP} {a : Nat} {o i v : Int} (h : pA hp a o i v = some h') : 0 ≤ o ∧ ∃ n, hp.1[o.toNat]? = some (100 + a, n) ∧ 0 ≤ i ∧ i < (n : Int) ∧ h' = (hp.1, u2 hp.2 o.toNat i.toNat v) := by
  obtain ⟨q, h1, h2⟩ := bnd_inv h
  obtain ⟨h3, h4⟩ := gS_inv h1
  split at h2
  · rename_i g; cases h2; obtain ⟨q1, q2⟩ := q; obtain ⟨g1, g2⟩ := g; simp only at g1; subst g1; exact ⟨h3, q2, h4, g2.1, g2.2, rfl⟩
  · cases h2
theorem gR_inv {hp : HP} {o i v : Int} (h : gR hp o i = some v) : 0 ≤ o ∧ ∃ t n, hp.1[o.toNat]? = some (t, n) ∧ (t = 103 ∨ t = 104) ∧ 0 ≤ i ∧ i < (n : Int) ∧ v = hp.2 o.toNat i.toNat := by
  obtain ⟨q, h1, h2⟩ := bnd_inv h
  obtain ⟨h3, h4⟩ := gS_inv h1
  split at h2
  · rename_i g; cases h2; obtain ⟨q1, q2⟩ := q; exact ⟨h3, q1, q2, h4, g.1, g.2.1, g.2.2, rfl⟩
  · cases h2
theorem pR_inv {hp h' : HP} {o i v : Int} (h : pR hp o i v = some h') : 0 ≤ o ∧ 0 ≤ v ∧ ∃ t n t2 n2, hp.1[o.toNat]? = some (t, n) ∧ hp.1[v.toNat]? = some (t2, n2) ∧ ((t = 103 ∧ t2 = 1) ∨ (t = 104 ∧ t2 = 8)) ∧ 0 ≤ i ∧ i < (n : Int) ∧ h' = (hp.1, u2 hp.2 o.toNat i.toNat v) := by
  obtain ⟨q, h1, h2⟩ := bnd_inv h
  obtain ⟨q2, h5, h6⟩ := bnd_inv h2
  obtain ⟨h3, h4⟩ := gS_inv h1
  obtain ⟨h7, h8⟩ := gS_inv h5
  split at h6
  · rename_i g; cases h6; obtain ⟨a1, a2⟩ := q; obtain ⟨b1, b2⟩ := q2; exact ⟨h3, h7, a1, a2, b1, b2, h4, h8, g.1, g.2.1, g.2.2, rfl⟩
  · cases h6
theorem gL_inv {hp : HP} {o v : Int} (h : gL hp o = some v) : 0 ≤ o ∧ ∃ (t n : Nat), hp.1[o.toNat]? = some (t, n) ∧ 100 ≤ t ∧ v = (n : Int) := by
  obtain ⟨q, h1, h2⟩ := bnd_inv h
  obtain ⟨h3, h4⟩ := gS_inv h1
  split at h2
  · rename_i g; cases h2; obtain ⟨q1, q2⟩ := q; exact ⟨h3, q1, q2, h4, g, rfl⟩
  · cases h2
/-- the external cells -/
def xR : List (Nat × Nat) := statA.map (fun q => (110, q.2.length)) ++ strT.flatMap (fun q => [(50, 2), (112, q.length)])
theorem xSh_eq (L : Nat) : xSh L = (98, 0) :: (110, L) :: xR := by simp [xSh, xR]
theorem xR_all : (List.range 27).all (fun j => if j < 3 then decide (xR[j]? = some (110, (stA j).2.length)) else if (j - 3) % 2 = 0 then decide (xR[j]? = some (50, 2)) else decide (xR[j]? = some (112, lens.getD ((j - 3) / 2) 0))) = true := by decide +kernel
theorem xR_ok (j : Nat) (hj : j < 27) : (j < 3 → xR[j]? = some (110, (stA j).2.length)) ∧ (3 ≤ j → (j - 3) % 2 = 0 → xR[j]? = some (50, 2)) ∧ (3 ≤ j → (j - 3) % 2 = 1 → xR[j]? = some (112, lens.getD ((j - 3) / 2) 0)) := by
  have h := List.all_eq_true.mp xR_all j (List.mem_range.mpr hj)
  refine ⟨fun h3 => ?_, fun h3 h4 => ?_, fun h3 h4 => ?_⟩
  · rw [if_pos h3] at h; exact of_decide_eq_true h
  · rw [if_neg (by omega), if_pos h4] at h; exact of_decide_eq_true h
  · rw [if_neg (by omega), if_neg (by omega)] at h; exact of_decide_eq_true h
theorem xSh_len (L : Nat) : (xSh L).length = 29 := by rw [xSh_eq]; have : xR.length = 27 := by decide +kernel
                                                      simp [this]
theorem x_at {L i : Nat} {xs : Nat → Int32} {hp : HP} {q : Nat × Nat} (hw : wfH L xs hp) (hi : i < KX) (h : hp.1[i]? = some q) : (i = 0 ∧ q = (98, 0)) ∨ (i = 1 ∧ q = (110, L)) ∨ (∃ a, a < 3 ∧ i = 2 + a ∧ q = (110, (stA a).2.length)) ∨ (∃ a, a < 12 ∧ i = 5 + 2 * a ∧ q = (50, 2)) ∨ (∃ a, a < 12 ∧ i = 6 + 2 * a ∧ q = (112, lens.getD a 0)) := by
  have h1 : (hp.1.take KX)[i]? = some q := by rw [List.getElem?_take, if_pos hi]; exact h
  rw [hw.2.1, xSh_eq] at h1
  have hi : i < 29 := hi
  match i, h1, hi with
  | 0, h1, _ => simp at h1; exact Or.inl ⟨rfl, h1.symm⟩
  | 1, h1, _ => simp at h1; exact Or.inr (Or.inl ⟨rfl, h1.symm⟩)
  | j + 2, h1, hi =>
    have h1 : xR[j]? = some q := h1
    obtain ⟨g1, g2, g3⟩ := xR_ok j (by omega)
    by_cases h3 : j < 3
    · have e := g1 h3; rw [h1] at e; cases e
      exact Or.inr (Or.inr (Or.inl ⟨j, h3, by omega, rfl⟩))
    · by_cases h4 : (j - 3) % 2 = 0
      · have e := g2 (by omega) h4; rw [h1] at e; cases e
        exact Or.inr (Or.inr (Or.inr (Or.inl ⟨(j - 3) / 2, by omega, by omega, rfl⟩)))
      · have e := g3 (by omega) (by omega); rw [h1] at e; cases e
        exact Or.inr (Or.inr (Or.inr (Or.inr ⟨(j - 3) / 2, by omega, by omega, rfl⟩)))
theorem x_tag {L i : Nat} {xs : Nat → Int32} {hp : HP} {q : Nat × Nat} (hw : wfH L xs hp) (h : hp.1[i]? = some q) (h1 : q.1 ≠ 98) (h2 : q.1 ≠ 110) (h3 : q.1 ≠ 50) (h4 : q.1 ≠ 112) : KX ≤ i := by
  by_cases hi : i < KX
  · rcases x_at hw hi h with ⟨-, rfl⟩ | ⟨-, rfl⟩ | ⟨a, -, -, rfl⟩ | ⟨a, -, -, rfl⟩ | ⟨a, -, -, rfl⟩ <;> simp at h1 h2 h3 h4
  · omega
theorem x_low {L i : Nat} {xs : Nat → Int32} {hp : HP} {q : Nat × Nat} (hw : wfH L xs hp) (h : hp.1[i]? = some q) (h1 : q.1 = 110 ∨ q.1 = 50 ∨ q.1 = 112) : i < KX := by
  by_cases hi : i < KX
  · exact hi
  · have := hw.2.2.2 i q (by omega) h
    unfold okC at this
    omega
theorem inI_getD {l : List Int} (h : l.all (fun z => decide (-2147483648 ≤ z) && decide (z < 2147483648)) = true) (k : Nat) : inI (l.getD k 0) := by
  rw [List.getD_eq_getElem?_getD]
  cases hk : l[k]? with
  | none => exact inI_0
  | some z =>
    have := List.all_eq_true.mp h z (List.mem_of_getElem? hk)
    simp only [Bool.and_eq_true, decide_eq_true_eq] at this
    exact this
theorem stA_in : ∀ a, a < 3 → (stA a).2.all (fun z => decide (-2147483648 ≤ z) && decide (z < 2147483648)) = true := by decide +kernel
theorem stS_in : ∀ a, a < 12 → (byts (stS a)).all (fun z => decide (-2147483648 ≤ z) && decide (z < 2147483648)) = true := by decide +kernel
theorem xCt_1 (xs : Nat → Int32) (k : Nat) : xCt xs 1 k = (xs k).toInt := by simp [xCt]
theorem xCt_A (xs : Nat → Int32) {a : Nat} (ha : a < 3) (k : Nat) : xCt xs (2 + a) k = (stA a).2.getD k 0 := by
  have : statA.length = 3 := rfl
  unfold xCt
  rw [if_neg (by omega), if_pos (by omega), show 2 + a - 2 = a by omega]
theorem xCt_S0 (xs : Nat → Int32) (a : Nat) : xCt xs (5 + 2 * a) 0 = ((6 + 2 * a : Nat) : Int) := by
  have : statA.length = 3 := rfl
  unfold xCt
  rw [if_neg (by omega), if_neg (by omega), if_pos (by omega), if_pos rfl]; omega
theorem xCt_S1 (xs : Nat → Int32) (a : Nat) : xCt xs (5 + 2 * a) 1 = 0 := by
  have : statA.length = 3 := rfl
  unfold xCt
  rw [if_neg (by omega), if_neg (by omega), if_pos (by omega), if_neg (by omega)]
theorem xCt_V (xs : Nat → Int32) (a k : Nat) : xCt xs (6 + 2 * a) k = (byts (stS a)).getD k 0 := by
  have : statA.length = 3 := rfl
  unfold xCt
  rw [if_neg (by omega), if_neg (by omega), if_neg (by omega), show (6 + 2 * a - 2 - statA.length) / 2 = a by omega]
/-- what is held of the classes -/
def kTy (kn : Nat) (ty : FieldType) : Bool := match kn, ty with | 0, .int => true | 3, .boolean => true | 1, .long => true | 2, t => isO t | _, _ => false
def CO (a : Nat) (q : vw_C) : Prop := a < 13 ∧ (∀ w ∈ u_ws q.1 q.2.1 q.2.2, w ∈ gW) ∧ (∃ ty : Nat → FieldType, (∀ k, k < q.2.2 → parseFieldDescriptor (q.2.1 k).2.2.1 = some (ty k)) ∧ ∀ k, k < q.2.2 → kTy (kd a k) (ty k) = true) ∧ (∀ a, a < q.2.2 → ∀ b, b < q.2.2 → a ≠ b → (q.2.1 a).2.1 ≠ (q.2.1 b).2.1) ∧ ∀ k, k < q.2.2 → (q.2.1 k).1 = q.1
theorem u_gw {C : String} {T : u_T} {N : Nat} (h : ∀ w ∈ u_ws C T N, w ∈ lw_tbl) : ∀ w ∈ u_ws C T N, w ∈ gW := by
  intro w hw
  refine List.mem_filter.mpr ⟨h w hw, ?_⟩
  obtain ⟨k, -, rfl⟩ := List.mem_map.mp hw
  unfold u_lay
  split <;> rfl

theorem clsOK : ∀ (a : Nat) (q : vw_C), vwCl[a]? = some q → CO a q
  | 0, q, h => by cases h; exact ⟨by decide, u_gw inX0, ⟨tyX0, tyX0_ok, by decide +kernel⟩, nmX0, by decide +kernel⟩
  | 1, q, h => by cases h; exact ⟨by decide, u_gw inX1, ⟨tyX1, tyX1_ok, by decide +kernel⟩, nmX1, by decide +kernel⟩
  | 2, q, h => by cases h; exact ⟨by decide, u_gw inX2, ⟨tyX2, tyX2_ok, by decide +kernel⟩, nmX2, by decide +kernel⟩
  | 3, q, h => by cases h; exact ⟨by decide, u_gw inX3, ⟨tyX3, tyX3_ok, by decide +kernel⟩, nmX3, by decide +kernel⟩
  | 4, q, h => by cases h; exact ⟨by decide, u_gw inX4, ⟨tyX4, tyX4_ok, by decide +kernel⟩, nmX4, by decide +kernel⟩
  | 5, q, h => by cases h; exact ⟨by decide, u_gw inX5, ⟨tyX5, tyX5_ok, by decide +kernel⟩, nmX5, by decide +kernel⟩
  | 6, q, h => by cases h; exact ⟨by decide, u_gw inX6, ⟨tyX6, tyX6_ok, by decide +kernel⟩, nmX6, by decide +kernel⟩
  | 7, q, h => by cases h; exact ⟨by decide, u_gw inX7, ⟨tyX7, tyX7_ok, by decide +kernel⟩, nmX7, by decide +kernel⟩
  | 8, q, h => by cases h; exact ⟨by decide, u_gw inX8, ⟨tyX8, tyX8_ok, by decide +kernel⟩, nmX8, by decide +kernel⟩
  | 9, q, h => by cases h; exact ⟨by decide, u_gw inX9, ⟨tyX9, tyX9_ok, by decide +kernel⟩, nmX9, by decide +kernel⟩
  | 10, q, h => by cases h; exact ⟨by decide, u_gw inX10, ⟨tyX10, tyX10_ok, by decide +kernel⟩, nmX10, by decide +kernel⟩
  | 11, q, h => by cases h; exact ⟨by decide, u_gw inX11, ⟨tyX11, tyX11_ok, by decide +kernel⟩, nmX11, by decide +kernel⟩
  | 12, q, h => by cases h; exact ⟨by decide, u_gw inX12, ⟨tyX12, tyX12_ok, by decide +kernel⟩, nmX12, by decide +kernel⟩
  | n + 13, q, h => by simp [vwCl] at h

theorem fds_at {P : PB} {c : Nat → Nat → Int} {i t n k : Nat} (h : k < n) : (fds P c i t n)[k]? = some (cvK P (kd t k) (c i k)) := by
  simp [fds, h]
theorem fds_len (P : PB) (c : Nat → Nat → Int) (i t n : Nat) : (fds P c i t n).length = n := by simp [fds]
theorem fds_set {P : PB} {c : Nat → Nat → Int} {i t n k : Nat} (v : Int) (h : k < n) : (fds P c i t n).set k (cvK P (kd t k) v) = fds P (u2 c i k v) i t n := by
  apply List.ext_getElem?
  intro j
  by_cases hj : j = k
  · subst hj
    rw [List.getElem?_set_self (by rw [fds_len]; exact h), fds_at h]; simp [u2]
  · rw [List.getElem?_set_ne (Ne.symm hj)]
    by_cases hn : j < n
    · rw [fds_at hn, fds_at hn]; simp [u2, hj]
    · rw [List.getElem?_eq_none (by rw [fds_len]; omega), List.getElem?_eq_none (by rw [fds_len]; omega)]
theorem entE_o {P : PB} {c : Nat → Nat → Int} {i t n : Nat} (h : t < 13) : entE P c i (t, n) = .inr (t, fds P c i t n) := by simp [entE, h]
theorem okC_o {t n : Nat} {f : Nat → Int} (h : t < 13) (ho : okC (t, n) f) : (∃ q, vwCl[t]? = some q ∧ n = q.2.2) ∧ ∀ k, k < n → wfK (kd t k) (f k) := by
  rcases ho.2 with h1 | h1 | h1 | h1 | h1
  · exact ⟨h1.2.1, h1.2.2⟩
  all_goals (simp only at h1; omega)
theorem lnk {a b : Nat} {q : vw_C} (hc : vwCl[a]? = some q) (ha : a < 13) : ownN a = q.1 ∧ fldN a b = ((q.2.1 b).2.1, (q.2.1 b).2.2.1) := by
  have h50 : ¬ a = 50 := by omega
  constructor
  · simp only [ownN, if_neg h50, clsN, hc]
  · simp only [fldN, if_neg h50, hc]
theorem cvA_ge {P : PB} {o : Int} (h0 : 0 ≤ o) (h : KX ≤ o.toNat) : cvA P o = .ref (ad P o.toNat) := by
  have : KX = 29 := rfl
  exact cvA_pos (by omega) (by omega)
theorem wfH_set {L : Nat} {xs : Nat → Int32} {hp : HP} {i k : Nat} {v : Int} {q : Nat × Nat} (hw : wfH L xs hp) (hi : KX ≤ i) (hq : hp.1[i]? = some q) (ho : okC q (hp.2 i) → okC q (u2 hp.2 i k v i)) : wfH L xs (hp.1, u2 hp.2 i k v) := by
  refine ⟨hw.1, hw.2.1, fun j m hj => ?_, fun j q2 hj hq2 => ?_⟩
  · show u2 hp.2 i k v j m = _
    rw [← hw.2.2.1 j m hj]; simp [u2, show j ≠ i by omega]
  · by_cases h : j = i
    · subst h
      rw [hq] at hq2; cases hq2
      exact ho (hw.2.2.2 _ _ hj hq)
    · have e : u2 hp.2 i k v j = hp.2 j := by funext m; simp [u2, h]
      show okC q2 (u2 hp.2 i k v j)
      rw [e]; exact hw.2.2.2 j q2 hj hq2
theorem cvK_1 (P : PB) (z : Int) : cvK P 1 z = .long (Int64.ofInt z) := rfl
theorem cvK_2 (P : PB) (z : Int) : cvK P 2 z = cvA P z := rfl
theorem cvK_i {P : PB} {kn : Nat} (h1 : kn ≠ 1) (h2 : kn ≠ 2) (z : Int) : cvK P kn z = .int (Int32.ofInt z) := by
  unfold cvK; split
  · exact absurd rfl h1
  · exact absurd rfl h2
  · rfl
theorem wfK_i {kn : Nat} {z : Int} (h1 : kn ≠ 1) (h2 : kn ≠ 2) (h : wfK kn z) : inI z := by
  unfold wfK at h; split at h
  · exact absurd rfl h1
  · exact absurd rfl h2
  · exact h
section SIM
variable {p : Program} {l : Launch} {e : Env} {R : Room} {s : State} {m : MethodId} {args : Array Value} {below : List Frame} {meth : Method} {c : Code} {Q : State → Prop} {P : PB} {y L d n0 z0 : Nat} {xs : Nat → Int32} {r : RT}
/-- a field read: what comes on the stack -/
theorem sim_get (C : CX p R s m args meth c P y L d n0 z0 xs r) {pc a b cc x n : Nat} {z o : Int} {hp : HP} {q : List AV} {H : Heap} {locs : List Loc} {lsr : Array Slot} {cells slots : Nat} (hc : cdAt y pc = some (12, a, b, cc, x, z)) (h0 : 0 ≤ o) (hq : hp.1[o.toNat]? = some (a, n)) (hb2 : b < n) (hw : wfH L xs hp)
    (hP : va_P P.2.2.2.1 vwCl (wsO P hp) H) (hS : va_S (RG P) s.heap H locs) {v : Value} (hv : a < 13 → v = cvK P (kd a b) (hp.2 o.toNat b)) (hv2 : a = 50 → v = (if b = 0 then cvA P (hp.2 o.toNat b) else .int 0))
    (hW : W p l e R s m args below meth c H locs cells slots Q (F0 m (mOff y (pc + 1)) lsr (v :: q.map (cv P)))) : W p l e R s m args below meth c H locs cells slots Q (F0 m (mOff y pc) lsr ((vA o :: q).map (cv P))) := by
  obtain ⟨hx, hb, hml, hown, hts, hWD, hsz, hn0, hmn, hfr, hlo, hce, hsl⟩ := C
  obtain ⟨hd, hok, hwd, hof⟩ := at_ok hc (by simp)
  have hd : decode (mByt y) (mOff y pc) = .ok (.getfield x, 3) := hd
  have hof : mOff y (pc + 1) = mOff y pc + 3 := hof
  obtain ⟨w, hw1, hw2⟩ := hwd rfl
  have hw2 : some (Jvm.Cond.fieldLink (mName y).cls x (ownN a) (fldN a b).1 (fldN a b).2) = some w := hw2
  cases hw2
  have hlk := hts _ (List.mem_filter.mpr ⟨hw1, rfl⟩)
  simp only [okR, Bool.and_eq_true, decide_eq_true_eq] at hok
  rw [hof] at hW
  rw [List.map_cons, show cv P (vA o) = cvA P o from rfl]
  rcases hok.1 with ha | ha
  · have hi : KX ≤ o.toNat := x_tag hw hq (by simp; omega) (by simp; omega) (by simp; omega) (by simp; omega)
    obtain ⟨⟨r0, hr0, hn⟩, -⟩ := okC_o ha (hw.2.2.2 _ _ hi hq)
    obtain ⟨-, hin, -, -, hdc⟩ := clsOK a r0 hr0
    obtain ⟨e1, e2⟩ := lnk (b := b) hr0 ha
    rw [cvA_ge h0 hi]
    rw [hv ha] at hW
    rw [e1, e2] at hlk
    refine va_get (C := r0.1) (T := r0.2.1) (N := r0.2.2) hx hb hts hin hown hWD.2.2.1.1 hP (o.toNat - KX) (by rw [wsO_get hi hq, entE_o ha]) hr0 b (by omega) hlk (fun x hx => ?_) (fds_at hb2) hd hW
    rw [hdc b (by omega)] at hx; exact hx
  · subst ha
    have hi : o.toNat < KX := x_low hw hq (Or.inr (Or.inl rfl))
    rcases x_at hw hi hq with ⟨-, g⟩ | ⟨-, g⟩ | ⟨_, -, -, g⟩ | ⟨j, hj, hj2, g⟩ | ⟨_, -, -, g⟩
    · cases g
    · cases g
    · cases g
    · cases g
      have ho : o = ((5 + 2 * j : Nat) : Int) := by omega
      have e : cvA P o = .ref (P.2.1 (5 + 2 * j)) := by
        rw [cvA_pos (by omega) (by omega)]; simp [ad, hj2, show 5 + 2 * j < KX by show _ < 29; omega]
      rw [e]
      have hS6 := hWD.2.2.1.2.2.2.2.2.1
      have hv2 := hv2 rfl
      have hc0 : hp.2 o.toNat b = xCt xs o.toNat b := hw.2.2.1 _ _ hi
      by_cases hb0 : b = 0
      · subst hb0
        rw [if_pos rfl, hc0, hj2, xCt_S0] at hv2
        have e3 : v = .ref (P.2.1 (6 + 2 * j)) := by
          rw [hv2, cvA_pos (by omega) (by omega), Int.toNat_natCast]; simp [ad, show 6 + 2 * j < KX by show _ < 29; omega]
        rw [e3] at hW
        exact vk_getf hx hb (hS6.1 j hj).2.2.1 hS hown hlk (fun _ h => h) hd hW
      · have hb1 : b = 1 := by omega
        subst hb1
        rw [if_neg (by omega)] at hv2
        rw [hv2] at hW
        exact vk_getf hx hb (hS6.1 j hj).2.1 hS hown hlk (fun _ h => h) hd hW
    · cases g
/-- a field written -/
theorem sim_put (C : CX p R s m args meth c P y L d n0 z0 xs r) {pc a b cc x n : Nat} {z o vz : Int} {hp : HP} {q : List Value} {H : Heap} {locs : List Loc} {lsr : Array Slot} {cells slots : Nat} (hc : cdAt y pc = some (13, a, b, cc, x, z)) (h0 : 0 ≤ o) (hq : hp.1[o.toNat]? = some (a, n)) (hb2 : b < n) (hw : wfH L xs hp)
    (hP : va_P P.2.2.2.1 vwCl (wsO P hp) H) (hS : va_S (RG P) s.heap H locs) {v : Value} (hv : v = cvK P (kd a b) vz) (hfit : ∀ ty, kTy (kd a b) ty = true → narrow ty v = v ∧ fits ty v = true)
    (hW : ∀ H1 locs1, va_P P.2.2.2.1 vwCl (wsO P (hp.1, u2 hp.2 o.toNat b vz)) H1 → va_S (RG P) s.heap H1 locs1 → W p l e R s m args below meth c H1 locs1 cells slots Q (F0 m (mOff y (pc + 1)) lsr q)) : W p l e R s m args below meth c H locs cells slots Q (F0 m (mOff y pc) lsr (v :: cvA P o :: q)) := by
  obtain ⟨hx, hb, hml, hown, hts, hWD, hsz, hn0, hmn, hfr, hlo, hce, hsl⟩ := C
  obtain ⟨hd, hok, hwd, hof⟩ := at_ok hc (by simp)
  have hd : decode (mByt y) (mOff y pc) = .ok (.putfield x, 3) := hd
  have hof : mOff y (pc + 1) = mOff y pc + 3 := hof
  obtain ⟨w, hw1, hw2⟩ := hwd rfl
  have hw2 : some (Jvm.Cond.fieldLink (mName y).cls x (ownN a) (fldN a b).1 (fldN a b).2) = some w := hw2
  cases hw2
  have hlk := hts _ (List.mem_filter.mpr ⟨hw1, rfl⟩)
  simp only [okR, Bool.and_eq_true, decide_eq_true_eq] at hok
  obtain ⟨⟨⟨ha, hkd⟩, hz⟩, hok2⟩ := hok
  have hi : KX ≤ o.toNat := x_tag hw hq (by simp; omega) (by simp; omega) (by simp; omega) (by simp; omega)
  obtain ⟨⟨r0, hr0, hn⟩, -⟩ := okC_o ha (hw.2.2.2 _ _ hi hq)
  obtain ⟨-, hin, ⟨ty, hty, hkt⟩, hnm, hdc⟩ := clsOK a r0 hr0
  obtain ⟨e1, e2⟩ := lnk (b := b) hr0 ha
  have hbN : b < r0.2.2 := by omega
  obtain ⟨hnr, hft⟩ := hfit (ty b) (hkt b hbN)
  rw [cvA_ge h0 hi]
  rw [e1, e2] at hlk
  rw [hr0] at hok2
  simp only [Bool.and_eq_true, decide_eq_true_eq, Bool.or_eq_true, beq_iff_eq] at hok2
  have hsame : ∀ x, s.fieldFound? (r0.2.1 b).1 (r0.2.1 b).2.1 (r0.2.1 b).2.2.1 = some x → s.fieldFound? r0.1 (r0.2.1 b).2.1 (r0.2.1 b).2.2.1 = some x := fun x hx => by rw [hdc b hbN] at hx; exact hx
  have he : (wsO P hp)[o.toNat - KX]? = some (ad P o.toNat, .inr (a, fds P hp.2 o.toNat a n)) := by rw [wsO_get hi hq, entE_o ha]
  have key : ∀ (H1 : Heap) (locs1 : List Loc), va_P P.2.2.2.1 vwCl ((wsO P hp).set (o.toNat - KX) (ad P o.toNat, .inr (a, (fds P hp.2 o.toNat a n).set b v))) H1 → va_D (RG P) ((wsO P hp).set (o.toNat - KX) (ad P o.toNat, .inr (a, (fds P hp.2 o.toNat a n).set b v))) → va_S (RG P) s.heap H1 locs1 → W p l e R s m args below meth c H1 locs1 cells slots Q (F0 m (mOff y pc + 3) lsr q) := by
    intro H1 locs1 g1 _ g3
    rw [hv, fds_set vz hb2] at g1
    have g1 : va_P P.2.2.2.1 vwCl (wsO P (hp.1, u2 hp.2 o.toNat b vz)) H1 := by
      rw [← wsO_u2 hi hq, entE_o ha]; exact g1
    rw [← hof]
    exact hW H1 locs1 g1 g3
  by_cases hf : z = 0
  · subst hf
    exact va_put (C := r0.1) (T := r0.2.1) (N := r0.2.2) (ty := ty b) hx hb hts hin ty hty hnm hown hWD.2.2.1.1 hP (wsO_D P hp) hS (o.toNat - KX) he hr0 b hbN hlk hsame (by rw [hok2.1.1]; rfl) (hty b hbN) hnr hft (by rw [fds_len]; exact hb2) hd key
  · have hz1 : z = 1 := hz.resolve_left hf
    subst hz1
    have hini := hok2.2.resolve_left (by decide)
    exact va_putF (C := r0.1) (T := r0.2.1) (N := r0.2.2) (ty := ty b) hx hb hts hin ty hty hnm hown hWD.2.2.1.1 hP (wsO_D P hp) hS (o.toNat - KX) he hr0 b hbN hlk hsame (by rw [hok2.1.1]; rfl) (hmn.elim (fun h => by rw [h]; exact hini.1) (fun h => absurd (h ▸ hini.1) (by decide +kernel))) (by rw [hdc b hbN]; exact hini.2.symm) (hty b hbN) hnr hft (by rw [fds_len]; exact hb2) hd key

end SIM
