/-! the simulation, second part: locals, the stack, jumps, the ends -/
theorem cvA_two {P : PB} (hq : P.2.2.1 = .null ∨ ∃ t, P.2.2.1 = .ref t) (z : Int) : cvA P z = .null ∨ ∃ t, cvA P z = .ref t := by
  unfold cvA
  split
  · exact Or.inl rfl
  · split
    · exact hq
    · exact Or.inr ⟨_, rfl⟩
theorem cat_cv {P : PB} (hq : P.2.2.1 = .null ∨ ∃ t, P.2.2.1 = .ref t) {v : AV} (h : (cv P v).category = 2) : isLv v := by
  rcases v with z | z | z
  · cases h
  · trivial
  · have h : (cvA P z).category = 2 := h
    rcases cvA_two hq z with e | ⟨t, e⟩ <;> rw [e] at h <;> cases h
theorem cat_I (P : PB) (z : Int) : (cv P (vI z)).category = 1 := rfl
theorem cat_A {P : PB} (hq : P.2.2.1 = .null ∨ ∃ t, P.2.2.1 = .ref t) (z : Int) : (cvA P z).category = 1 := by
  rcases cvA_two hq z with e | ⟨t, e⟩ <;> rw [e] <;> rfl
theorem okLg_y {y : Nat} (hy : y < 303) : okLg y = true ∧ okPl y = true ∧ pwd (sgOf y) ≤ mMl y := by
  have h := List.all_eq_true.mp okAll_ok y (List.mem_range.mpr hy)
  simp only [okAll, Bool.and_eq_true, decide_eq_true_eq] at h
  exact ⟨h.1.1, h.1.2, h.2⟩
theorem cd_mem {y pc : Nat} {ri : RI} (h : cdAt y pc = some ri) : ri ∈ (codeT[y]?).getD [] := List.mem_of_getElem? h
theorem lg_ne {y a : Nat} (h : (!(lgOf y).any (fun q => q + 1 == a)) = true) : ∀ q ∈ lgOf y, q + 1 ≠ a := by
  intro q hq e
  simp only [Bool.not_eq_true', List.any_eq_false] at h
  exact h q hq (by simp [e])
theorem lg8 {y pc a b cc x : Nat} {z : Int} (h : cdAt y pc = some (8, a, b, cc, x, z)) : ∀ q ∈ lgOf y, q + 1 ≠ a := lg_ne (List.all_eq_true.mp (okLg_y (cd_lt h)).1 _ (cd_mem h))
theorem lg10 {y pc a b cc x : Nat} {z : Int} (h : cdAt y pc = some (10, a, b, cc, x, z)) : ∀ q ∈ lgOf y, q + 1 ≠ a := lg_ne (List.all_eq_true.mp (okLg_y (cd_lt h)).1 _ (cd_mem h))
theorem lg11 {y pc a b cc x : Nat} {z : Int} (h : cdAt y pc = some (11, a, b, cc, x, z)) : ∀ q ∈ lgOf y, q + 1 ≠ a := lg_ne (List.all_eq_true.mp (okLg_y (cd_lt h)).1 _ (cd_mem h))
theorem lg9 {y pc a b cc x : Nat} {z : Int} (h : cdAt y pc = some (9, a, b, cc, x, z)) : (∀ q ∈ lgOf y, q + 1 ≠ a) ∧ a ∈ lgOf y := by
  have h1 := List.all_eq_true.mp (okLg_y (cd_lt h)).1 _ (cd_mem h)
  have h1 : ((!(lgOf y).any (fun q => q + 1 == a)) && (lgOf y).any (fun q => q == a)) = true := h1
  rw [Bool.and_eq_true] at h1
  refine ⟨lg_ne h1.1, ?_⟩
  obtain ⟨q, hq, e⟩ := List.any_eq_true.mp h1.2
  have : q = a := by simpa using e
  rw [← this]; exact hq
theorem gl_of {ls : LVs} {i : Nat} {v : AV} (h : ls[i]? = some (some v)) : gl ls i = some v := by simp [gl, h]
theorem gl_set {ls : LVs} {a i : Nat} {w : Option AV} {v : AV} (h : gl (ls.set a w) i = some v) : (i = a ∧ w = some v) ∨ (i ≠ a ∧ gl ls i = some v) := by
  have h := gl_some h
  by_cases hi : i = a
  · subst hi
    have hl : i < ls.length := by
      have := (List.getElem?_eq_some_iff.mp h).1
      simpa using this
    rw [List.getElem?_set_self hl] at h
    exact Or.inl ⟨rfl, Option.some.inj h⟩
  · rw [List.getElem?_set_ne (Ne.symm hi)] at h
    exact Or.inr ⟨hi, gl_of h⟩
theorem LR_set {P : PB} {y a : Nat} {ls : LVs} {ls' : Array Slot} {v : AV} (hq : P.2.2.1 = .null ∨ ∃ t, P.2.2.1 = .ref t) (hlg : ∀ q ∈ lgOf y, q + 1 ≠ a) (hl : ∀ i v, gl ls i = some v → wfv v ∧ (isLv v → i ∈ lgOf y))
    (h : lv_has ls' (mMl y) ((a, cv P v) :: (asL P 0 ls).filter (fun q => !(q.1 == a) && !(q.1 + 1 == a && q.2.category == 2)))) : LR P y (ls.set a (some v)) ls' := by
  refine ⟨h.1, h.2.1, fun q hq2 => h.2.2 q ?_⟩
  obtain ⟨k, w, h1, rfl⟩ := asL_of P _ 0 q hq2
  rw [Nat.zero_add]
  rcases gl_set (gl_of h1) with ⟨rfl, e⟩ | ⟨hk, e⟩
  · cases e; exact List.mem_cons_self
  · refine List.mem_cons_of_mem _ (List.mem_filter.mpr ⟨by have := asL_in P ls 0 k w (gl_some e); rw [Nat.zero_add] at this; exact this, ?_⟩)
    have n2 : ¬ (k + 1 = a ∧ (cv P w).category = 2) := fun g => hlg k ((hl k w e).2 (cat_cv hq g.2)) g.1
    simp [hk]
    by_cases g : k + 1 = a
    · exact Or.inr (fun g2 => n2 ⟨g, g2⟩)
    · exact Or.inl g
theorem LR_set2 {P : PB} {y a : Nat} {ls : LVs} {ls' : Array Slot} {v : AV} (hq : P.2.2.1 = .null ∨ ∃ t, P.2.2.1 = .ref t) (hlg : ∀ q ∈ lgOf y, q + 1 ≠ a) (hl : ∀ i v, gl ls i = some v → wfv v ∧ (isLv v → i ∈ lgOf y))
    (h : lv_has ls' (mMl y) ((a, cv P v) :: (asL P 0 ls).filter (fun q => !(q.1 == a) && (!(q.1 == a + 1) && !(q.1 + 1 == a && q.2.category == 2))))) : LR P y ((ls.set a (some v)).set (a + 1) none) ls' := by
  refine ⟨h.1, h.2.1, fun q hq2 => h.2.2 q ?_⟩
  obtain ⟨k, w, h1, rfl⟩ := asL_of P _ 0 q hq2
  rw [Nat.zero_add]
  rcases gl_set (gl_of h1) with ⟨-, e⟩ | ⟨hk1, e⟩
  · cases e
  rcases gl_set e with ⟨rfl, e2⟩ | ⟨hk, e⟩
  · cases e2; exact List.mem_cons_self
  · refine List.mem_cons_of_mem _ (List.mem_filter.mpr ⟨by have := asL_in P ls 0 k w (gl_some e); rw [Nat.zero_add] at this; exact this, ?_⟩)
    have n2 : ¬ (k + 1 = a ∧ (cv P w).category = 2) := fun g => hlg k ((hl k w e).2 (cat_cv hq g.2)) g.1
    simp [hk, hk1]
    by_cases g : k + 1 = a
    · exact Or.inr (fun g2 => n2 ⟨g, g2⟩)
    · exact Or.inl g
theorem PI_set {ls : LVs} {y a : Nat} {w : AV} (hl : ∀ i v, gl ls i = some v → wfv v ∧ (isLv v → i ∈ lgOf y)) (hw : wfv w) (hlv : isLv w → a ∈ lgOf y) : ∀ i v, gl (ls.set a (some w)) i = some v → wfv v ∧ (isLv v → i ∈ lgOf y) := by
  intro i v h
  rcases gl_set h with ⟨rfl, e⟩ | ⟨hk, e⟩
  · cases e; exact ⟨hw, hlv⟩
  · exact hl i v e
theorem PI_non {ls : LVs} {y a : Nat} (hl : ∀ i v, gl ls i = some v → wfv v ∧ (isLv v → i ∈ lgOf y)) : ∀ i v, gl (ls.set a none) i = some v → wfv v ∧ (isLv v → i ∈ lgOf y) := by
  intro i v h
  rcases gl_set h with ⟨rfl, e⟩ | ⟨hk, e⟩
  · cases e
  · exact hl i v e
theorem f4_v {a b : Nat} (h : b = 0 → a < 4) (hb : b = 0) : ((f4 a : Fin 4) : Nat) = a := Nat.mod_eq_of_lt (h hb)
section SIM
variable {p : Program} {l : Launch} {e : Env} {R : Room} {s : State} {m : MethodId} {args : Array Value} {below : List Frame} {meth : Method} {c : Code} {Q : State → Prop} {P : PB} {y L d n0 z0 : Nat} {xs : Nat → Int32} {r : RT}

set_option maxHeartbeats 4000000 in
theorem sim1 (C : CX p R s m args meth c P y L d n0 z0 xs r) {pc : Nat} {ri : RI} {ls : LVs} {st : List AV} {hp : HP} {k : KT} (hc : cdAt y pc = some ri) (h : sK1 (Cd d) ri pc ls st hp k = some r) (hk : ∀ pc' ls' st' hp', k pc' ls' st' hp' = some r → KJ p l e R s m args below meth c Q P y L n0 z0 xs r pc' ls' st' hp') : KJ p l e R s m args below meth c Q P y L n0 z0 xs r pc ls st hp := by
  obtain ⟨hx, hb, hml, hown, hts, hWD, hsz, hn0, hmn, hfr, hlo, hce, hsl⟩ := C
  have hq := hWD.2.2.2
  unfold sK1 at h
  split at h
  · rename_i a b cc x z
    obtain ⟨hd, hok, hwd, hof⟩ := at_ok hc (by simp)
    obtain ⟨x0, hg, h9⟩ := lI_inv h
    simp only [okR, decide_eq_true_eq] at hok
    intro hI
    obtain ⟨hR, hW⟩ := hk _ _ _ _ h9 ⟨hI.1, hI.2.1, wf_cons (hI.2.1 a _ hg).1 hI.2.2.1, hI.2.2.2⟩
    refine ⟨hR, fun H locs lsr hL hP hS => ?_⟩
    have hl := LR_at hL hg
    cases b with
    | zero =>
      have hd : decode (mByt y) (mOff y pc) = .ok (.iload_n (f4 a), 1) := hd
      have hof : mOff y (pc + 1) = mOff y pc + 1 := hof
      exact lv_iload_n hx hb hd (f4_v hok rfl) hl (W.eq (F0_eq hof.symm rfl) (hW H locs lsr hL hP hS))
    | succ b =>
      have hd : decode (mByt y) (mOff y pc) = .ok (.iload a, 2) := hd
      have hof : mOff y (pc + 1) = mOff y pc + 2 := hof
      exact lv_iload hx hb hd hl (W.eq (F0_eq hof.symm rfl) (hW H locs lsr hL hP hS))
  · rename_i a b cc x z
    obtain ⟨hd, hok, hwd, hof⟩ := at_ok hc (by simp)
    obtain ⟨x0, hg, h9⟩ := lL_inv h
    simp only [okR, decide_eq_true_eq] at hok
    intro hI
    obtain ⟨hR, hW⟩ := hk _ _ _ _ h9 ⟨hI.1, hI.2.1, wf_cons (hI.2.1 a _ hg).1 hI.2.2.1, hI.2.2.2⟩
    refine ⟨hR, fun H locs lsr hL hP hS => ?_⟩
    have hl := LR_at hL hg
    cases b with
    | zero =>
      have hd : decode (mByt y) (mOff y pc) = .ok (.lload_n (f4 a), 1) := hd
      have hof : mOff y (pc + 1) = mOff y pc + 1 := hof
      exact lv_lload_n hx hb hd (f4_v hok rfl) hl (W.eq (F0_eq hof.symm rfl) (hW H locs lsr hL hP hS))
    | succ b =>
      have hd : decode (mByt y) (mOff y pc) = .ok (.lload a, 2) := hd
      have hof : mOff y (pc + 1) = mOff y pc + 2 := hof
      exact lv_lload hx hb hd hl (W.eq (F0_eq hof.symm rfl) (hW H locs lsr hL hP hS))
  · rename_i a b cc x z
    obtain ⟨hd, hok, hwd, hof⟩ := at_ok hc (by simp)
    obtain ⟨x0, hg, h9⟩ := lA_inv h
    simp only [okR, decide_eq_true_eq] at hok
    intro hI
    obtain ⟨hR, hW⟩ := hk _ _ _ _ h9 ⟨hI.1, hI.2.1, wf_cons (hI.2.1 a _ hg).1 hI.2.2.1, hI.2.2.2⟩
    refine ⟨hR, fun H locs lsr hL hP hS => ?_⟩
    have hl := LR_at hL hg
    have hl : lsr[a]? = some (.val (cvA P x0)) := hl
    have hW2 := hW H locs lsr hL hP hS
    rw [List.map_cons, show cv P (vA x0) = cvA P x0 from rfl] at hW2
    cases b with
    | zero =>
      have hd : decode (mByt y) (mOff y pc) = .ok (.aload_n (f4 a), 1) := hd
      have hof : mOff y (pc + 1) = mOff y pc + 1 := hof
      rcases cvA_two hq x0 with e | ⟨t, e⟩
      · rw [e] at hl hW2; exact lv_aload_nN hx hb hd (f4_v hok rfl) hl (W.eq (F0_eq hof.symm rfl) hW2)
      · rw [e] at hl hW2; exact lv_aload_n hx hb hd (f4_v hok rfl) hl (W.eq (F0_eq hof.symm rfl) hW2)
    | succ b =>
      have hd : decode (mByt y) (mOff y pc) = .ok (.aload a, 2) := hd
      have hof : mOff y (pc + 1) = mOff y pc + 2 := hof
      rcases cvA_two hq x0 with e | ⟨t, e⟩
      · rw [e] at hl hW2; exact lv_aloadN hx hb hd hl (W.eq (F0_eq hof.symm rfl) hW2)
      · rw [e] at hl hW2; exact lv_aload hx hb hd hl (W.eq (F0_eq hof.symm rfl) hW2)
  · rename_i a b cc x z
    obtain ⟨hd, hok, hwd, hof⟩ := at_ok hc (by simp)
    obtain ⟨x0, q, rfl, h9⟩ := e1I_inv h
    obtain ⟨ha, h9⟩ := t1_inv h9
    simp only [okR, decide_eq_true_eq] at hok
    intro hI
    have hn : a < mMl y := by rw [← hI.1]; exact ha
    obtain ⟨hR, hW⟩ := hk _ _ _ _ h9 ⟨by rw [List.length_set]; exact hI.1, PI_set hI.2.1 (wf_head hI.2.2.1) (fun g => g.elim), wf_tail hI.2.2.1, hI.2.2.2⟩
    refine ⟨hR, fun H locs lsr hL hP hS => ?_⟩
    cases b with
    | zero =>
      have hd : decode (mByt y) (mOff y pc) = .ok (.istore_n (f4 a), 1) := hd
      have hof : mOff y (pc + 1) = mOff y pc + 1 := hof
      exact lv_istore_n hx hb hd (f4_v hok rfl) hL hn rfl (fun ls' hL' => W.eq (F0_eq hof.symm rfl) (hW H locs ls' (LR_set hq (lg8 hc) hI.2.1 hL') hP hS))
    | succ b =>
      have hd : decode (mByt y) (mOff y pc) = .ok (.istore a, 2) := hd
      have hof : mOff y (pc + 1) = mOff y pc + 2 := hof
      exact lv_istore hx hb hd hL hn rfl (fun ls' hL' => W.eq (F0_eq hof.symm rfl) (hW H locs ls' (LR_set hq (lg8 hc) hI.2.1 hL') hP hS))
  · rename_i a b cc x z
    obtain ⟨hd, hok, hwd, hof⟩ := at_ok hc (by simp)
    obtain ⟨x0, q, rfl, h9⟩ := e1L_inv h
    obtain ⟨ha, h9⟩ := t2_inv h9
    simp only [okR, decide_eq_true_eq] at hok
    intro hI
    have hn : a + 1 < mMl y := by rw [← hI.1]; exact ha
    obtain ⟨hR, hW⟩ := hk _ _ _ _ h9 ⟨by rw [List.length_set, List.length_set]; exact hI.1, PI_non (PI_set hI.2.1 (wf_head hI.2.2.1) (fun _ => (lg9 hc).2)), wf_tail hI.2.2.1, hI.2.2.2⟩
    refine ⟨hR, fun H locs lsr hL hP hS => ?_⟩
    cases b with
    | zero =>
      have hd : decode (mByt y) (mOff y pc) = .ok (.lstore_n (f4 a), 1) := hd
      have hof : mOff y (pc + 1) = mOff y pc + 1 := hof
      exact lv_lstore_n hx hb hd (f4_v hok rfl) hL hn rfl (fun ls' hL' => W.eq (F0_eq hof.symm rfl) (hW H locs ls' (LR_set2 hq (lg9 hc).1 hI.2.1 hL') hP hS))
    | succ b =>
      have hd : decode (mByt y) (mOff y pc) = .ok (.lstore a, 2) := hd
      have hof : mOff y (pc + 1) = mOff y pc + 2 := hof
      exact lv_lstore hx hb hd hL hn rfl (fun ls' hL' => W.eq (F0_eq hof.symm rfl) (hW H locs ls' (LR_set2 hq (lg9 hc).1 hI.2.1 hL') hP hS))
  · rename_i a b cc x z
    obtain ⟨hd, hok, hwd, hof⟩ := at_ok hc (by simp)
    obtain ⟨x0, q, rfl, h9⟩ := e1A_inv h
    obtain ⟨ha, h9⟩ := t1_inv h9
    simp only [okR, decide_eq_true_eq] at hok
    intro hI
    have hn : a < mMl y := by rw [← hI.1]; exact ha
    obtain ⟨hR, hW⟩ := hk _ _ _ _ h9 ⟨by rw [List.length_set]; exact hI.1, PI_set hI.2.1 (wf_head hI.2.2.1) (fun g => g.elim), wf_tail hI.2.2.1, hI.2.2.2⟩
    refine ⟨hR, fun H locs lsr hL hP hS => ?_⟩
    rw [List.map_cons, show cv P (vA x0) = cvA P x0 from rfl]
    have key : ∀ ls', lv_has ls' (mMl y) ((a, cvA P x0) :: (asL P 0 ls).filter (fun q => !(q.1 == a) && !(q.1 + 1 == a && q.2.category == 2))) → LR P y (ls.set a (some (vA x0))) ls' := fun ls' g => LR_set (v := vA x0) hq (lg10 hc) hI.2.1 g
    cases b with
    | zero =>
      have hd : decode (mByt y) (mOff y pc) = .ok (.astore_n (f4 a), 1) := hd
      have hof : mOff y (pc + 1) = mOff y pc + 1 := hof
      rcases cvA_two hq x0 with e | ⟨t, e⟩
      · rw [e] at key ⊢; exact lv_astore_nN hx hb hd (f4_v hok rfl) hL hn rfl (fun ls' hL' => W.eq (F0_eq hof.symm rfl) (hW H locs ls' (key ls' hL') hP hS))
      · rw [e] at key ⊢; exact lv_astore_n hx hb hd (f4_v hok rfl) hL hn rfl (fun ls' hL' => W.eq (F0_eq hof.symm rfl) (hW H locs ls' (key ls' hL') hP hS))
    | succ b =>
      have hd : decode (mByt y) (mOff y pc) = .ok (.astore a, 2) := hd
      have hof : mOff y (pc + 1) = mOff y pc + 2 := hof
      rcases cvA_two hq x0 with e | ⟨t, e⟩
      · rw [e] at key ⊢; exact lv_astoreN hx hb hd hL hn rfl (fun ls' hL' => W.eq (F0_eq hof.symm rfl) (hW H locs ls' (key ls' hL') hP hS))
      · rw [e] at key ⊢; exact lv_astore hx hb hd hL hn rfl (fun ls' hL' => W.eq (F0_eq hof.symm rfl) (hW H locs ls' (key ls' hL') hP hS))
  · rename_i a b cc x z
    obtain ⟨hd, hok, hwd, hof⟩ := at_ok hc (by simp)
    have hd : decode (mByt y) (mOff y pc) = .ok (.iinc a z, 3) := hd
    have hof : mOff y (pc + 1) = mOff y pc + 3 := hof
    obtain ⟨x0, hg, h9⟩ := lI_inv h
    obtain ⟨ha, h9⟩ := t1_inv h9
    intro hI
    have hn : a < mMl y := by rw [← hI.1]; exact ha
    obtain ⟨hR, hW⟩ := hk _ _ _ _ h9 ⟨by rw [List.length_set]; exact hI.1, PI_set hI.2.1 (show inI (w32 (x0 + z)) from inI_t _) (fun g => g.elim), hI.2.2.1, hI.2.2.2⟩
    refine ⟨hR, fun H locs lsr hL hP hS => ?_⟩
    have hm := asL_in P ls 0 a (vI x0) (gl_some hg)
    rw [Nat.zero_add] at hm
    obtain ⟨kk, hkk⟩ := List.getElem?_of_mem hm
    exact lv_iinc (v := Int32.ofInt (w32 (x0 + z))) hx hb hd hL hkk (by rw [i_w, Int32.ofInt_add]) hn rfl (fun ls' hL' => W.eq (F0_eq hof.symm rfl) (hW H locs ls' (LR_set (v := vI (w32 (x0 + z))) hq (lg11 hc) hI.2.1 hL') hP hS))
  · cases h

set_option maxHeartbeats 4000000 in
theorem sim8 (C : CX p R s m args meth c P y L d n0 z0 xs r) {pc : Nat} {ri : RI} {ls : LVs} {st : List AV} {hp : HP} {k : KT} (hc : cdAt y pc = some ri) (h : sK8 (Cd d) ri pc ls st hp k = some r) (hk : ∀ pc' ls' st' hp', k pc' ls' st' hp' = some r → KJ p l e R s m args below meth c Q P y L n0 z0 xs r pc' ls' st' hp') : KJ p l e R s m args below meth c Q P y L n0 z0 xs r pc ls st hp := by
  obtain ⟨hx, hb, hml, hown, hts, hWD, hsz, hn0, hmn, hfr, hlo, hce, hsl⟩ := C
  have hq := hWD.2.2.2
  unfold sK8 at h
  split at h
  · rename_i a b cc x z
    obtain ⟨hd, hok, hwd, hof⟩ := at_ok hc (by simp)
    have hd : decode (mByt y) (mOff y pc) = .ok (.dup, 1) := hd
    have hof : mOff y (pc + 1) = mOff y pc + 1 := hof
    intro hI
    split at h
    · rename_i x0 q
      obtain ⟨hR, hW⟩ := hk _ _ _ _ h ⟨hI.1, hI.2.1, wf_cons (wf_head hI.2.2.1) hI.2.2.1, hI.2.2.2⟩
      exact ⟨hR, fun H locs lsr hL hP hS => lv_dup hx hb hd rfl (W.eq (F0_eq hof.symm rfl) (hW H locs lsr hL hP hS))⟩
    · rename_i x0 q
      obtain ⟨hR, hW⟩ := hk _ _ _ _ h ⟨hI.1, hI.2.1, wf_cons (wf_head hI.2.2.1) hI.2.2.1, hI.2.2.2⟩
      exact ⟨hR, fun H locs lsr hL hP hS => lv_dup hx hb hd (cat_A hq x0) (W.eq (F0_eq hof.symm rfl) (hW H locs lsr hL hP hS))⟩
    · cases h
  · rename_i a b cc x z
    obtain ⟨hd, hok, hwd, hof⟩ := at_ok hc (by simp)
    have hd : decode (mByt y) (mOff y pc) = .ok (.dup2, 1) := hd
    have hof : mOff y (pc + 1) = mOff y pc + 1 := hof
    intro hI
    obtain ⟨x0, x1, q, rfl, h9⟩ := eIA_inv h
    obtain ⟨hR, hW⟩ := hk _ _ _ _ h9 ⟨hI.1, hI.2.1, wf_cons (wf_head hI.2.2.1) (wf_cons (wf_head (wf_tail hI.2.2.1)) hI.2.2.1), hI.2.2.2⟩
    exact ⟨hR, fun H locs lsr hL hP hS => lv_dup2_11 hx hb hd rfl (cat_A hq x0) (W.eq (F0_eq hof.symm rfl) (hW H locs lsr hL hP hS))⟩
  · rename_i a b cc x z
    obtain ⟨hd, hok, hwd, hof⟩ := at_ok hc (by simp)
    have hd : decode (mByt y) (mOff y pc) = .ok (.pop, 1) := hd
    have hof : mOff y (pc + 1) = mOff y pc + 1 := hof
    intro hI
    split at h
    · rename_i x0 q
      obtain ⟨hR, hW⟩ := hk _ _ _ _ h ⟨hI.1, hI.2.1, wf_tail hI.2.2.1, hI.2.2.2⟩
      exact ⟨hR, fun H locs lsr hL hP hS => lv_pop hx hb hd rfl (W.eq (F0_eq hof.symm rfl) (hW H locs lsr hL hP hS))⟩
    · rename_i x0 q
      obtain ⟨hR, hW⟩ := hk _ _ _ _ h ⟨hI.1, hI.2.1, wf_tail hI.2.2.1, hI.2.2.2⟩
      exact ⟨hR, fun H locs lsr hL hP hS => lv_pop hx hb hd (cat_A hq x0) (W.eq (F0_eq hof.symm rfl) (hW H locs lsr hL hP hS))⟩
    · cases h
  · cases h

theorem cvA_neg {P : PB} {z : Int} (h : z < 0) : cvA P z = .null := by simp [cvA, h]
theorem cvA_pos {P : PB} {z : Int} (h0 : ¬ z = 0) (h : ¬ z < 0) : cvA P z = .ref (ad P z.toNat) := by simp [cvA, h0, h]
theorem swi_at {x : Int} {k : Nat → Option RT} {r : RT} : ∀ (l : List (Int × Nat)) (d : Nat), swi x l d k = some r → (∃ (j : Nat) (q : Int × Nat), l[j]? = some q ∧ q.1 = x ∧ (∀ (i : Nat) (q' : Int × Nat), i < j → l[i]? = some q' → q'.1 ≠ x) ∧ k q.2 = some r) ∨ ((∀ q ∈ l, q.1 ≠ x) ∧ k d = some r)
  | [], d, h => Or.inr ⟨fun _ h => absurd h List.not_mem_nil, h⟩
  | q :: l, d, h => by
    rw [swi] at h
    by_cases hx : x = q.1
    · rw [if_pos hx] at h
      exact Or.inl ⟨0, q, rfl, hx.symm, fun i q' hi => by omega, h⟩
    · rw [if_neg hx] at h
      rcases swi_at l d h with ⟨j, q2, h1, h2, h3, h4⟩ | ⟨h1, h2⟩
      · refine Or.inl ⟨j + 1, q2, by rw [List.getElem?_cons_succ]; exact h1, h2, fun i q' hi hq => ?_, h4⟩
        cases i with
        | zero => rw [List.getElem?_cons_zero] at hq; cases hq; exact fun e => hx e.symm
        | succ i => rw [List.getElem?_cons_succ] at hq; exact h3 i q' (by omega) hq
      · refine Or.inr ⟨fun q' hq => ?_, h2⟩
        rcases List.mem_cons.mp hq with rfl | hq
        · exact fun e => hx e.symm
        · exact h1 q' hq
theorem lks_in {x dflt : Int} (f : Nat → Int) : ∀ (l : List (Int × Nat)) (j : Nat) (q : Int × Nat), l[j]? = some q → q.1 = x → (∀ (i : Nat) (q' : Int × Nat), i < j → l[i]? = some q' → q'.1 ≠ x) → Op.lookupswitch.offset (l.map fun q => (q.1, f q.2)) dflt x = f q.2
  | [], j, q, h, _, _ => by simp at h
  | w :: l, j, q, h, hx, hn => by
    cases j with
    | zero => rw [List.getElem?_cons_zero] at h; cases h; simp [Op.lookupswitch.offset, hx]
    | succ j =>
      rw [List.getElem?_cons_succ] at h
      have h0 := hn 0 w (by omega) rfl
      have := lks_in (dflt := dflt) f l j q h hx (fun i q' hi hq => hn (i + 1) q' (by omega) (by rw [List.getElem?_cons_succ]; exact hq))
      simpa [Op.lookupswitch.offset, h0, Ne.symm h0] using this
theorem lks_out {x dflt : Int} (f : Nat → Int) : ∀ (l : List (Int × Nat)), (∀ q ∈ l, q.1 ≠ x) → Op.lookupswitch.offset (l.map fun q => (q.1, f q.2)) dflt x = dflt
  | [], _ => rfl
  | w :: l, h => by
    have h0 := h w List.mem_cons_self
    have := lks_out (dflt := dflt) f l (fun q hq => h q (List.mem_cons_of_mem _ hq))
    simpa [Op.lookupswitch.offset, h0, Ne.symm h0] using this
set_option maxHeartbeats 4000000 in
theorem sim11 (C : CX p R s m args meth c P y L d n0 z0 xs r) {pc : Nat} {ri : RI} {ls : LVs} {st : List AV} {hp : HP} {k : KT} (hc : cdAt y pc = some ri) (h : sK11 (Cd d) ri pc ls st hp k = some r) (hk : ∀ pc' ls' st' hp', k pc' ls' st' hp' = some r → KJ p l e R s m args below meth c Q P y L n0 z0 xs r pc' ls' st' hp') : KJ p l e R s m args below meth c Q P y L n0 z0 xs r pc ls st hp := by
  obtain ⟨hx, hb, hml, hown, hts, hWD, hsz, hn0, hmn, hfr, hlo, hce, hsl⟩ := C
  have hq := hWD.2.2.2
  unfold sK11 at h
  split at h
  · rename_i a b cc x z
    obtain ⟨hd, hok, hwd, hof⟩ := at_ok hc (by simp)
    have hd : decode (mByt y) (mOff y pc) = .ok (.ifnull ((mOff y b : Int) - (mOff y pc : Int)), 3) := hd
    have hof : mOff y (pc + 1) = mOff y pc + 3 := hof
    intro hI
    obtain ⟨x0, q, rfl, h9⟩ := e1A_inv h
    by_cases h0 : x0 = 0
    · rw [if_pos h0] at h9; cases h9
    rw [if_neg h0] at h9
    by_cases hcd : x0 < 0
    · rw [if_pos hcd] at h9
      obtain ⟨hR, hW⟩ := hk _ _ _ _ h9 ⟨hI.1, hI.2.1, wf_tail hI.2.2.1, hI.2.2.2⟩
      refine ⟨hR, fun H locs lsr hL hP hS => ?_⟩
      rw [List.map_cons, show cv P (vA x0) = cvA P x0 from rfl, cvA_neg hcd]
      exact lv_ifnullN (tgt := mOff y b) hx hb hd (by omega) (W.eq (F0_eq rfl rfl) (hW H locs lsr hL hP hS))
    · rw [if_neg hcd] at h9
      obtain ⟨hR, hW⟩ := hk _ _ _ _ h9 ⟨hI.1, hI.2.1, wf_tail hI.2.2.1, hI.2.2.2⟩
      refine ⟨hR, fun H locs lsr hL hP hS => ?_⟩
      rw [List.map_cons, show cv P (vA x0) = cvA P x0 from rfl, cvA_pos h0 hcd]
      exact lv_ifnull hx hb hd (W.eq (F0_eq hof.symm rfl) (hW H locs lsr hL hP hS))
  · rename_i a b cc x z
    obtain ⟨hd, hok, hwd, hof⟩ := at_ok hc (by simp)
    have hd : decode (mByt y) (mOff y pc) = .ok (.ifnonnull ((mOff y b : Int) - (mOff y pc : Int)), 3) := hd
    have hof : mOff y (pc + 1) = mOff y pc + 3 := hof
    intro hI
    obtain ⟨x0, q, rfl, h9⟩ := e1A_inv h
    by_cases h0 : x0 = 0
    · rw [if_pos h0] at h9; cases h9
    rw [if_neg h0] at h9
    by_cases hcd : x0 < 0
    · rw [if_pos hcd] at h9
      obtain ⟨hR, hW⟩ := hk _ _ _ _ h9 ⟨hI.1, hI.2.1, wf_tail hI.2.2.1, hI.2.2.2⟩
      refine ⟨hR, fun H locs lsr hL hP hS => ?_⟩
      rw [List.map_cons, show cv P (vA x0) = cvA P x0 from rfl, cvA_neg hcd]
      exact lv_ifnonnullN hx hb hd (W.eq (F0_eq hof.symm rfl) (hW H locs lsr hL hP hS))
    · rw [if_neg hcd] at h9
      obtain ⟨hR, hW⟩ := hk _ _ _ _ h9 ⟨hI.1, hI.2.1, wf_tail hI.2.2.1, hI.2.2.2⟩
      refine ⟨hR, fun H locs lsr hL hP hS => ?_⟩
      rw [List.map_cons, show cv P (vA x0) = cvA P x0 from rfl, cvA_pos h0 hcd]
      exact lv_ifnonnull (tgt := mOff y b) hx hb hd (by omega) (W.eq (F0_eq rfl rfl) (hW H locs lsr hL hP hS))
  · rename_i a b cc x z
    obtain ⟨hd, hok, hwd, hof⟩ := at_ok hc (by simp)
    have hd : decode (mByt y) (mOff y pc) = .ok (.goto ((mOff y b : Int) - (mOff y pc : Int)), 3) := hd
    intro hI
    obtain ⟨hR, hW⟩ := hk _ _ _ _ h hI
    exact ⟨hR, fun H locs lsr hL hP hS => lv_goto (tgt := mOff y b) hx hb hd (by omega) (hW H locs lsr hL hP hS)⟩
  · rename_i a b cc x z
    obtain ⟨hd, hok, hwd, hof⟩ := at_ok hc (by simp)
    have hd : decode (mByt y) (mOff y pc) = .ok (.tableswitch ((mOff y (swD a) : Int) - (mOff y pc : Int)) ((swT[a]?).getD ([], 0, 0, 0)).2.2.1 ((swT[a]?).getD ([], 0, 0, 0)).2.2.2 ((swP a).map fun q => (mOff y q.2 : Int) - (mOff y pc : Int)).toArray, cc) := hd
    simp only [okR, Bool.and_eq_true, decide_eq_true_eq, beq_iff_eq] at hok
    obtain ⟨hk1, hk2⟩ := hok
    intro hI
    obtain ⟨x0, q, rfl, h9⟩ := e1I_inv h
    have w0 : inI x0 := wf_head hI.2.2.1
    have key : ∀ (j : Nat) (w : Int × Nat), (swP a)[j]? = some w → w.1 = ((swT[a]?).getD ([], 0, 0, 0)).2.2.1 + (j : Int) := by
      intro j w hj
      have h1 : ((swP a).map fun q => q.1)[j]? = some w.1 := by rw [List.getElem?_map, hj]; rfl
      rw [hk1, List.getElem?_map] at h1
      have hjl : j < (swP a).length := (List.getElem?_eq_some_iff.mp hj).1
      rw [List.getElem?_range hjl] at h1
      simp only [Option.map_some, Option.some.injEq] at h1
      exact h1.symm
    rcases swi_at _ _ h9 with ⟨j, w, h1, h2, -, h4⟩ | ⟨h1, h4⟩
    · obtain ⟨hR, hW⟩ := hk _ _ _ _ h4 ⟨hI.1, hI.2.1, wf_tail hI.2.2.1, hI.2.2.2⟩
      refine ⟨hR, fun H locs lsr hL hP hS => ?_⟩
      have hj := key j w h1
      have hjl : j < (swP a).length := (List.getElem?_eq_some_iff.mp h1).1
      refine lv_tableIn (off := (mOff y w.2 : Int) - (mOff y pc : Int)) (tgt := mOff y w.2) hx hb hd (by rw [t_i w0]; omega) (by rw [t_i w0]; omega) ?_ (by omega) (hW H locs lsr hL hP hS)
      rw [t_i w0, show (x0 - ((swT[a]?).getD ([], 0, 0, 0)).2.2.1).toNat = j by omega]
      simp [h1]
    · obtain ⟨hR, hW⟩ := hk _ _ _ _ h4 ⟨hI.1, hI.2.1, wf_tail hI.2.2.1, hI.2.2.2⟩
      refine ⟨hR, fun H locs lsr hL hP hS => ?_⟩
      refine lv_tableOut (tgt := mOff y (swD a)) hx hb hd ?_ (by omega) (hW H locs lsr hL hP hS)
      rw [t_i w0]
      by_cases g1 : x0 < ((swT[a]?).getD ([], 0, 0, 0)).2.2.1
      · exact Or.inl g1
      · refine Or.inr (Int.not_le.mp fun g2 => ?_)
        have hjl : (x0 - ((swT[a]?).getD ([], 0, 0, 0)).2.2.1).toNat < (swP a).length := by omega
        have hj := key _ _ (List.getElem?_eq_getElem hjl)
        exact h1 _ (List.getElem_mem hjl) (by rw [hj]; omega)
  · rename_i a b cc x z
    obtain ⟨hd, hok, hwd, hof⟩ := at_ok hc (by simp)
    have hd : decode (mByt y) (mOff y pc) = .ok (.lookupswitch ((mOff y (swD a) : Int) - (mOff y pc : Int)) ((swP a).map fun q => (q.1, (mOff y q.2 : Int) - (mOff y pc : Int))).toArray, cc) := hd
    have hok : ((swP a).zip ((swP a).drop 1)).all (fun q => decide (q.1.1 < q.2.1)) = true := hok
    intro hI
    obtain ⟨x0, q, rfl, h9⟩ := e1I_inv h
    have w0 : inI x0 := wf_head hI.2.2.1
    have hsrt : ((((swP a).map fun q => (q.1, (mOff y q.2 : Int) - (mOff y pc : Int))).toArray.toList).zip ((((swP a).map fun q => (q.1, (mOff y q.2 : Int) - (mOff y pc : Int))).toArray.toList).drop 1)).all (fun (a, next) => a.1 < next.1) = true := by
      rw [List.all_eq_true] at hok ⊢
      intro w hw
      simp only [List.drop_one] at hw hok
      rw [← List.map_tail, List.zip_map, List.mem_map] at hw
      obtain ⟨w2, hw2, rfl⟩ := hw
      exact hok w2 hw2
    rcases swi_at _ _ h9 with ⟨j, w, h1, h2, h3, h4⟩ | ⟨h1, h4⟩
    · obtain ⟨hR, hW⟩ := hk _ _ _ _ h4 ⟨hI.1, hI.2.1, wf_tail hI.2.2.1, hI.2.2.2⟩
      refine ⟨hR, fun H locs lsr hL hP hS => ?_⟩
      exact lv_lookup (off := (mOff y w.2 : Int) - (mOff y pc : Int)) (tgt := mOff y w.2) hx hb hd hsrt (by rw [t_i w0]; exact lks_in (fun t => (mOff y t : Int) - (mOff y pc : Int)) _ j w h1 h2 h3) (by omega) (hW H locs lsr hL hP hS)
    · obtain ⟨hR, hW⟩ := hk _ _ _ _ h4 ⟨hI.1, hI.2.1, wf_tail hI.2.2.1, hI.2.2.2⟩
      refine ⟨hR, fun H locs lsr hL hP hS => ?_⟩
      exact lv_lookup (off := (mOff y (swD a) : Int) - (mOff y pc : Int)) (tgt := mOff y (swD a)) hx hb hd hsrt (by rw [t_i w0]; exact lks_out (fun t => (mOff y t : Int) - (mOff y pc : Int)) _ h1) (by omega) (hW H locs lsr hL hP hS)
  · cases h

/-- what a method hands back, by its end -/
def retOK (ri : RI) (rs : List AV) : Prop := (ri.1 = 60 ∧ rs = []) ∨ (ri.1 = 61 ∧ ∃ x, rs = [vI x] ∧ inI x) ∨ (ri.1 = 62 ∧ ∃ x, rs = [vI x] ∧ (x = 0 ∨ x = 1)) ∨ (ri.1 = 63 ∧ ∃ x, rs = [vL x] ∧ inL x) ∨ (ri.1 = 64 ∧ ∃ x, rs = [vA x]) ∨ (ri.1 = 65 ∧ ∃ x, rs = [vI x] ∧ 0 ≤ x ∧ x < 65536) ∨ (ri.1 = 66 ∧ ∃ x, rs = [vI x] ∧ -128 ≤ x ∧ x < 128)

set_option maxHeartbeats 4000000 in
theorem sim12 (C : CX p R s m args meth c P y L d n0 z0 xs r) {pc : Nat} {ri : RI} {ls : LVs} {st : List AV} {hp : HP} {k : KT} (hc : cdAt y pc = some ri) (hRet : ∀ (pc : Nat) (ri : RI) (H : Heap) (locs : List Loc) (lsr : Array Slot), cdAt y pc = some ri → retOK ri r.1 → va_P P.2.2.2.1 vwCl (wsO P r.2) H → va_S (RG P) s.heap H locs → W p l e R s m args below meth c H locs (r.2.1.length - n0) (sl r.2.1 - z0) Q (F0 m (mOff y pc) lsr (r.1.map (cv P)))) (h : sK12 (Cd d) ri pc ls st hp k = some r) (hk : ∀ pc' ls' st' hp', k pc' ls' st' hp' = some r → KJ p l e R s m args below meth c Q P y L n0 z0 xs r pc' ls' st' hp') : KJ p l e R s m args below meth c Q P y L n0 z0 xs r pc ls st hp := by
  obtain ⟨hx, hb, hml, hown, hts, hWD, hsz, hn0, hmn, hfr, hlo, hce, hsl⟩ := C
  have hq := hWD.2.2.2
  unfold sK12 at h
  split at h
  · intro hI
    split at h
    · cases h
      exact ⟨⟨hI.2.2.2.1, fun _ h => absurd h List.not_mem_nil⟩, fun H locs lsr hL hP hS => hRet pc _ H locs lsr hc (Or.inl ⟨rfl, rfl⟩) hP hS⟩
    · cases h
  · intro hI
    split at h
    · cases h
      exact ⟨⟨hI.2.2.2.1, hI.2.2.1⟩, fun H locs lsr hL hP hS => hRet pc _ H locs lsr hc (Or.inr (Or.inl ⟨rfl, _, rfl, wf_head hI.2.2.1⟩)) hP hS⟩
    · cases h
  · intro hI
    split at h
    · split at h
      · rename_i hz
        cases h
        exact ⟨⟨hI.2.2.2.1, hI.2.2.1⟩, fun H locs lsr hL hP hS => hRet pc _ H locs lsr hc (Or.inr (Or.inr (Or.inl ⟨rfl, _, rfl, hz⟩))) hP hS⟩
      · cases h
    · cases h
  · intro hI
    split at h
    · cases h
      exact ⟨⟨hI.2.2.2.1, hI.2.2.1⟩, fun H locs lsr hL hP hS => hRet pc _ H locs lsr hc (Or.inr (Or.inr (Or.inr (Or.inl ⟨rfl, _, rfl, wf_head hI.2.2.1⟩)))) hP hS⟩
    · cases h
  · intro hI
    split at h
    · split at h
      · cases h
      · cases h
        exact ⟨⟨hI.2.2.2.1, hI.2.2.1⟩, fun H locs lsr hL hP hS => hRet pc _ H locs lsr hc (Or.inr (Or.inr (Or.inr (Or.inr (Or.inl ⟨rfl, _, rfl⟩))))) hP hS⟩
    · cases h
  · intro hI
    split at h
    · split at h
      · rename_i hz
        cases h
        exact ⟨⟨hI.2.2.2.1, hI.2.2.1⟩, fun H locs lsr hL hP hS => hRet pc _ H locs lsr hc (Or.inr (Or.inr (Or.inr (Or.inr (Or.inr (Or.inl ⟨rfl, _, rfl, hz⟩)))))) hP hS⟩
      · cases h
    · cases h
  · intro hI
    split at h
    · split at h
      · rename_i hz
        cases h
        exact ⟨⟨hI.2.2.2.1, hI.2.2.1⟩, fun H locs lsr hL hP hS => hRet pc _ H locs lsr hc (Or.inr (Or.inr (Or.inr (Or.inr (Or.inr (Or.inr ⟨rfl, _, rfl, hz⟩)))))) hP hS⟩
      · cases h
    · cases h
  · cases h

end SIM
