/-! the simulation, sixth part: new cells, statics, texts, arraycopy -/
theorem W_sized {p : Program} {l : Launch} {e : Env} {R : Room} {s : State} {m : MethodId} {args : Array Value} {below : List Frame} {meth : Method} {c : Code} {H : Heap} {locs : List Loc} {cells slots : Nat} {Q : State → Prop} {g : JFrame} (h : H.size ≤ s.heap.size + cells → W p l e R s m args below meth c H locs cells slots Q g) : W p l e R s m args below meth c H locs cells slots Q g :=
  fun T hT X => h (by rw [← hT]; exact X.heapSize) T hT X
theorem new_addr {P : PB} {hp : HP} {q : Nat} {E : va_E} {H1 : Heap} (hK : KX ≤ hp.1.length) (hP1 : va_P P.2.2.2.1 vwCl (wsO P hp ++ [(q, E)]) H1) (hD1 : va_D (RG P) (wsO P hp ++ [(q, E)])) (hsz : H1.size ≤ P.1 + (hp.1.length - KX) + 1) : q = P.1 + (hp.1.length - KX) := by
  have hl := wsO_len P hp
  have hat : (wsO P hp ++ [(q, E)])[hp.1.length - KX]? = some (q, E) := by
    rw [List.getElem?_append_right (by omega), hl, Nat.sub_self]; rfl
  have h1 : q < H1.size := (hP1 _ _ hat).lt
  have h2 : P.1 ≤ q := hD1.2 _ _ hat
  by_cases h3 : q = P.1 + (hp.1.length - KX)
  · exact h3
  · exfalso
    have hj : KX + (q - P.1) < hp.1.length := by omega
    have hat2 : (wsO P hp ++ [(q, E)])[q - P.1]? = some (P.1 + (q - P.1), entE P hp.2 (KX + (q - P.1)) hp.1[KX + (q - P.1)]) := by
      rw [List.getElem?_append_left (by omega), wsO_at, List.getElem?_eq_getElem hj]; rfl
    have := hD1.1 _ _ _ _ hat2 hat (by show P.1 + (q - P.1) = q; omega)
    omega
theorem sl_app (S : List (Nat × Nat)) (t n : Nat) : sl (S ++ [(t, n)]) = sl S + n := by simp [sl]
theorem Gr_len {h h' : HP} (g : Gr h h') : h.1.length ≤ h'.1.length ∧ sl h.1 ≤ sl h'.1 := by
  obtain ⟨e, he⟩ := g
  rw [he]
  constructor
  · simp
  · simp [sl]
theorem wfH_mk {L t n : Nat} {xs : Nat → Int32} {hp : HP} (hw : wfH L xs hp) (ho : okC (t, n) (dfl t)) : wfH L xs (mk hp t n) := by
  have hK : KX ≤ hp.1.length := hw.1.1
  refine ⟨⟨by show KX ≤ (hp.1 ++ [(t, n)]).length; simp; omega, hw.1.2⟩, ?_, fun i k hi => ?_, fun i q hi hq => ?_⟩
  · show (hp.1 ++ [(t, n)]).take KX = _
    rw [List.take_append_of_le_length hK]; exact hw.2.1
  · show (if i = hp.1.length then dfl t k else hp.2 i k) = _
    rw [if_neg (by omega)]; exact hw.2.2.1 i k hi
  · have hq : (hp.1 ++ [(t, n)])[i]? = some q := hq
    by_cases hl : i < hp.1.length
    · rw [List.getElem?_append_left hl] at hq
      have e : (mk hp t n).2 i = hp.2 i := by funext k; show (if i = hp.1.length then dfl t k else hp.2 i k) = _; rw [if_neg (by omega)]
      rw [e]; exact hw.2.2.2 i q hi hq
    · have hi2 : i = hp.1.length := by
        have := (List.getElem?_eq_some_iff.mp hq).1
        simp at this; omega
      subst hi2
      rw [List.getElem?_append_right (Nat.le_refl _), Nat.sub_self] at hq
      cases hq
      have e : (mk hp t n).2 hp.1.length = dfl t := by funext k; show (if hp.1.length = hp.1.length then dfl t k else _) = _; rw [if_pos rfl]
      rw [e]; exact ho
theorem wsO_upd {P : PB} {hp : HP} {o : Nat} {c' : Nat → Nat → Int} {q : Nat × Nat} (ho : KX ≤ o) (hq : hp.1[o]? = some q) (hc : ∀ i, i ≠ o → ∀ k, c' i k = hp.2 i k) : (wsO P hp).set (o - KX) (ad P o, entE P c' o q) = wsO P (hp.1, c') := by
  apply List.ext_getElem?
  intro j
  have hl : o - KX < (wsO P hp).length := (List.getElem?_eq_some_iff.mp (wsO_get ho hq)).1
  by_cases hj : j = o - KX
  · subst hj
    rw [List.getElem?_set_self hl, wsO_get (hp := (hp.1, c')) ho hq]
  · rw [List.getElem?_set_ne (Ne.symm hj), wsO_at, wsO_at]
    cases hp.1[KX + j]? with
    | none => rfl
    | some a =>
      simp only [Option.map_some]
      have e : ∀ k, c' (KX + j) k = hp.2 (KX + j) k := hc (KX + j) (by omega)
      simp only [entE, fds, e]
theorem acp_inv {hp h' : HP} {so sp d dp n : Int} (h : acp hp so sp d dp n = some h') : 0 ≤ so ∧ 0 ≤ d ∧ ∃ n0 n1, hp.1[so.toNat]? = some (100, n0) ∧ hp.1[d.toNat]? = some (100, n1) ∧ 0 ≤ sp ∧ 0 ≤ dp ∧ 0 ≤ n ∧ sp + n ≤ (n0 : Int) ∧ dp + n ≤ (n1 : Int) ∧ h' = (hp.1, cpy hp.2 so.toNat sp.toNat d.toNat dp.toNat n.toNat) := by
  obtain ⟨q, h1, h2⟩ := bnd_inv h
  obtain ⟨q2, h5, h6⟩ := bnd_inv h2
  obtain ⟨h3, h4⟩ := gS_inv h1
  obtain ⟨h7, h8⟩ := gS_inv h5
  split at h6
  · rename_i g
    cases h6
    obtain ⟨a1, a2⟩ := q; obtain ⟨b1, b2⟩ := q2
    obtain ⟨g1, g2, g3⟩ := g
    simp only at g1 g2
    subst g1; subst g2
    exact ⟨h3, h7, a2, b2, h4, h8, g3.1, g3.2.1, g3.2.2.1, g3.2.2.2.1, g3.2.2.2.2, rfl⟩
  · cases h6
theorem gw_of {w : Jvm.Cond} {i : Nat} (h : lw_tbl[i]? = some w) (hg : goodWord w = true) : w ∈ gW := List.mem_filter.mpr ⟨List.mem_of_getElem? h, hg⟩
theorem gw_d {w : Jvm.Cond} (h : w ∈ lw_tbl) (hg : goodWord w = true) : w ∈ gW := List.mem_filter.mpr ⟨h, hg⟩
theorem w_ai : Jvm.Cond.arrayClass .int ∈ gW := gw_d (by decide +kernel) rfl
theorem w_al : Jvm.Cond.arrayClass .long ∈ gW := gw_d (by decide +kernel) rfl
theorem w_az : Jvm.Cond.arrayClass .boolean ∈ gW := gw_d (by decide +kernel) rfl
theorem w_nat : Jvm.Cond.native arraycopyName ∈ gW := gw_d (by decide +kernel) rfl
theorem w_sta : Jvm.Cond.static arraycopyName ∈ gW := gw_d (by decide +kernel) rfl
theorem w_sys : Jvm.Cond.initialized "java/lang/System" ∈ gW := gw_d (by decide +kernel) rfl
theorem w_oin : Jvm.Cond.instanceMethod objectInit ∈ gW := gw_d (by decide +kernel) rfl
theorem w_oco : Jvm.Cond.code objectInit ⟨#[0xb1]⟩ 1 none ∈ gW := gw_d (by decide +kernel) rfl

theorem clsNew : ∀ (a : Nat) (q : vw_C), vwCl[a]? = some q → Jvm.Cond.instantiable q.1 q.2.2 ∈ gW ∧ Jvm.Cond.initialized q.1 ∈ gW ∧ q.2.2 ≤ 100
  | 0, q, h => by cases h; exact ⟨gw_d (by decide +kernel) rfl, gw_d (by decide +kernel) rfl, by decide⟩
  | 1, q, h => by cases h; exact ⟨gw_d (by decide +kernel) rfl, gw_d (by decide +kernel) rfl, by decide⟩
  | 2, q, h => by cases h; exact ⟨gw_d (by decide +kernel) rfl, gw_d (by decide +kernel) rfl, by decide⟩
  | 3, q, h => by cases h; exact ⟨gw_d (by decide +kernel) rfl, gw_d (by decide +kernel) rfl, by decide⟩
  | 4, q, h => by cases h; exact ⟨gw_d (by decide +kernel) rfl, gw_d (by decide +kernel) rfl, by decide⟩
  | 5, q, h => by cases h; exact ⟨gw_d (by decide +kernel) rfl, gw_d (by decide +kernel) rfl, by decide⟩
  | 6, q, h => by cases h; exact ⟨gw_d (by decide +kernel) rfl, gw_d (by decide +kernel) rfl, by decide⟩
  | 7, q, h => by cases h; exact ⟨gw_d (by decide +kernel) rfl, gw_d (by decide +kernel) rfl, by decide⟩
  | 8, q, h => by cases h; exact ⟨gw_d (by decide +kernel) rfl, gw_d (by decide +kernel) rfl, by decide⟩
  | 9, q, h => by cases h; exact ⟨gw_d (by decide +kernel) rfl, gw_d (by decide +kernel) rfl, by decide⟩
  | 10, q, h => by cases h; exact ⟨gw_d (by decide +kernel) rfl, gw_d (by decide +kernel) rfl, by decide⟩
  | 11, q, h => by cases h; exact ⟨gw_d (by decide +kernel) rfl, gw_d (by decide +kernel) rfl, by decide⟩
  | 12, q, h => by cases h; exact ⟨gw_d (by decide +kernel) rfl, gw_d (by decide +kernel) rfl, by decide⟩
  | n + 13, q, h => by simp [vwCl] at h

theorem dfl_wf (t k : Nat) : wfK (kd t k) (dfl t k) := by
  unfold dfl
  rcases kd_4 t k with h | h | h | h <;> rw [h]
  · exact inI_0
  · exact inL_0
  · exact trivial
  · exact inI_0
theorem dfl_val {P : PB} {t k : Nat} {ty : FieldType} (h : kTy (kd t k) ty = true) : defaultValue ty = cvK P (kd t k) (dfl t k) := by
  unfold dfl
  rcases kd_4 t k with g | g | g | g <;> rw [g] at h ⊢ <;> cases ty <;> simp [kTy, isO] at h <;> rfl
theorem dfl_0 {t : Nat} (h : t = 100 ∨ t = 101 ∨ t = 102) (k : Nat) : dfl t k = 0 := by
  rcases h with rfl | rfl | rfl <;> rfl
theorem dfl_r {t : Nat} (h : t = 103 ∨ t = 104) (k : Nat) : dfl t k = -1 := by
  rcases h with rfl | rfl <;> rfl
theorem mk_at (hp : HP) (t n k : Nat) : (mk hp t n).2 hp.1.length k = dfl t k := by
  show (if hp.1.length = hp.1.length then dfl t k else _) = _; rw [if_pos rfl]
theorem wid_eq {P : PB} (hq : P.2.2.1 = .null ∨ ∃ t, P.2.2.1 = .ref t) : ∀ (st : List AV), ((st.map (cv P)).map fun v => v.category).sum = wid st
  | [] => rfl
  | .inl z :: r => by have := wid_eq hq r; simp only [List.map_cons, List.sum_cons, wid, cat_I]; omega
  | .inr (.inl z) :: r => by have := wid_eq hq r; simp only [List.map_cons, List.sum_cons, wid]; show 2 + _ = _; omega
  | .inr (.inr z) :: r => by
    have := wid_eq hq r
    have h1 : (cv P (.inr (.inr z))).category = 1 := cat_A hq z
    simp only [List.map_cons, List.sum_cons, wid, h1]; omega
section SIM
variable {p : Program} {l : Launch} {e : Env} {R : Room} {s : State} {m : MethodId} {args : Array Value} {below : List Frame} {meth : Method} {c : Code} {Q : State → Prop} {P : PB} {y L d n0 z0 : Nat} {xs : Nat → Int32} {r : RT}

set_option maxHeartbeats 4000000 in
theorem sim14 (C : CX p R s m args meth c P y L d n0 z0 xs r) {pc : Nat} {ri : RI} {ls : LVs} {st : List AV} {hp : HP} {k : KT} (hc : cdAt y pc = some ri) (hgk : ∀ pc' ls' st' hp', k pc' ls' st' hp' = some r → Gr hp' r.2) (h : sK14 (Cd d) ri pc ls st hp k = some r) (hk : ∀ pc' ls' st' hp', k pc' ls' st' hp' = some r → KJ p l e R s m args below meth c Q P y L n0 z0 xs r pc' ls' st' hp') : KJ p l e R s m args below meth c Q P y L n0 z0 xs r pc ls st hp := by
  obtain ⟨hx, hb, hml, hown, hts, hWD, hsz, hn0, hmn, hfr, hlo, hce, hsl⟩ := C
  have hq := hWD.2.2.2
  have hKK := hWD.2.2.1.1
  have hKX : KX = 29 := rfl
  unfold sK14 at h
  split at h
  · rename_i a b cc x z
    obtain ⟨hd, hok, hwd, hof⟩ := at_ok hc (by simp)
    have hd : decode (mByt y) (mOff y pc) = .ok (.new x, 3) := hd
    have hof : mOff y (pc + 1) = mOff y pc + 3 := hof
    intro hI
    have hw := hI.2.2.2.1
    obtain ⟨w, hw1, hw2⟩ := hwd rfl
    have hw2 : some (Jvm.Cond.classLink (mName y).cls x (clsN a)) = some w := hw2
    cases hw2
    have hlk := hts _ (List.mem_filter.mpr ⟨hw1, rfl⟩)
    have hok : (match vwCl[a]? with | some q => decide (b = q.2.2) | none => false) = true := hok
    cases hr0 : vwCl[a]? with
    | none => rw [hr0] at hok; cases hok
    | some r0 =>
    rw [hr0] at hok
    have hbN : b = r0.2.2 := of_decide_eq_true hok
    subst hbN
    obtain ⟨ha, hin, ⟨ty, hty, hkt⟩, hnm, hdc⟩ := clsOK a r0 hr0
    obtain ⟨n1, n2, n3⟩ := clsNew a r0 hr0
    rw [show clsN a = r0.1 by simp only [clsN, hr0]] at hlk
    have h9 := h
    have hgl := Gr_len (hgk _ _ _ _ h9)
    have hm1 : (mk hp a r0.2.2).1.length = hp.1.length + 1 := by show (hp.1 ++ [(a, r0.2.2)]).length = _; simp
    have hm2 : sl (mk hp a r0.2.2).1 = sl hp.1 + r0.2.2 := sl_app _ _ _
    rw [hm1, hm2] at hgl
    have hg1 := hI.2.2.2.2.1
    have hg2 := hI.2.2.2.2.2
    obtain ⟨hR, hW⟩ := hk _ _ _ _ h9 ⟨hI.1, hI.2.1, wf_cons trivial hI.2.2.1, wfH_mk hw ⟨by show r0.2.2 ≤ 100000; omega, Or.inl ⟨ha, ⟨r0, hr0, rfl⟩, fun k _ => dfl_wf a k⟩⟩, by omega, by omega⟩
    refine ⟨hR, fun H locs lsr hL hP hS => ?_⟩
    refine va_new (C := r0.1) (T := r0.2.1) (N := r0.2.2) (fs := fds P (mk hp a r0.2.2).2 hp.1.length a r0.2.2) hx hb hts hin ty hty hown hlk (hts _ n1) (hts _ n2) hKK hP (wsO_D P hp) hS (fun q hq2 => by show P.1 ≤ q; rw [hsz] at hq2; omega) hr0 (fun j hj => ?_) (by omega) (by omega) hd (fun q H1 g1 g2 g3 => ?_)
    · rw [dfl_val (P := P) (hkt j hj)]
      simp only [vp_V, List.getD_eq_getElem?_getD, fds_at hj, Option.getD_some, mk_at]
    · skip
      refine W_sized fun hz => ?_
      have hqa := new_addr hw.1.1 g1 g2 (by rw [hsz] at hz; omega)
      subst hqa
      have hW := hW H1 locs lsr hL (by rw [← wsO_mk a r0.2.2 hw.1.1]; exact (by rw [entE_o ha]; exact g1)) g3
      rw [hm1, hm2] at hW
      refine W.eq (F0_eq hof.symm ?_) (W.cs (by omega) (by omega) hW)
      rw [List.map_cons, show cv P (vA (hp.1.length : Int)) = cvA P (hp.1.length : Int) from rfl, cvA_ge (by omega) (by rw [Int.toNat_natCast]; exact hw.1.1), Int.toNat_natCast, ad, if_neg (by have := hw.1.1; omega)]
  · rename_i a b cc x z
    obtain ⟨hd, hok, hwd, hof⟩ := at_ok hc (by simp)
    have hok : decide (a = 100 ∨ a = 101 ∨ a = 102) = true := hok
    have hok := of_decide_eq_true hok
    intro hI
    have hw := hI.2.2.2.1
    obtain ⟨nz, q, rfl, h9⟩ := e1I_inv h
    by_cases hnz : 0 ≤ nz ∧ nz ≤ 100000
    case neg => rw [if_neg hnz] at h9; cases h9
    rw [if_pos hnz] at h9
    have wi : inI nz := wf_head hI.2.2.1
    have hoC : okC (a, nz.toNat) (dfl a) := by
      refine ⟨by show nz.toNat ≤ 100000; omega, ?_⟩
      rcases hok with rfl | rfl | rfl
      · exact Or.inr (Or.inl ⟨rfl, fun k _ => inI_0⟩)
      · exact Or.inr (Or.inr (Or.inl ⟨rfl, fun k _ => inL_0⟩))
      · exact Or.inr (Or.inr (Or.inr (Or.inl ⟨rfl, fun k _ => Or.inl rfl⟩)))
    have hgl := Gr_len (hgk _ _ _ _ h9)
    have hm1 : (mk hp a nz.toNat).1.length = hp.1.length + 1 := by show (hp.1 ++ [(a, nz.toNat)]).length = _; simp
    have hm2 : sl (mk hp a nz.toNat).1 = sl hp.1 + nz.toNat := sl_app _ _ _
    rw [hm1, hm2] at hgl
    have hg1 := hI.2.2.2.2.1
    have hg2 := hI.2.2.2.2.2
    obtain ⟨hR, hW⟩ := hk _ _ _ _ h9 ⟨hI.1, hI.2.1, wf_cons trivial (wf_tail hI.2.2.1), wfH_mk hw hoC, by omega, by omega⟩
    refine ⟨hR, fun H locs lsr hL hP hS => ?_⟩
    have hn0' : ¬ Int32.ofInt nz < 0 := fun g => by have := (i_lt wi inI_0).mp g; omega
    have hA : ∀ q, s.heap.size ≤ q → RG P q := fun q hq2 => by show P.1 ≤ q; rw [hsz] at hq2; omega
    rcases hok with rfl | rfl | rfl
    · have hd : decode (mByt y) (mOff y pc) = .ok (.newarray .int, 2) := hd
      have hof : mOff y (pc + 1) = mOff y pc + 2 := hof
      refine va_newa (atype := .int) (ty := .int) (a0 := (nz.toNat, .inl fun _ => 0)) hx hb (hts _ w_ai) rfl hKK hP (wsO_D P hp) hS hA (fun _ => rfl) hn0' (i_nat wi hnz.1) (by show nz.toNat * _ ≤ _; simp [componentBytes]; omega) (by omega) (by omega) hd (fun q cA H1 g0 g1 g2 g3 => ?_)
      have hcA : cA = P.2.2.2.2 0 := Option.some.inj ((g0.2 5 _ rfl).2.symm.trans (hKK.2 0 _ rfl).2)
      subst hcA
      refine W_sized fun hz => ?_
      have hqa := new_addr hw.1.1 g1 g2 (by rw [hsz] at hz; omega)
      subst hqa
      have hW := hW H1 locs lsr hL (by rw [← wsO_mk 100 nz.toNat hw.1.1]; exact (by rw [entE_100, show (fun k => Int32.ofInt ((mk hp 100 nz.toNat).2 hp.1.length k)) = (fun _ => 0) from funext fun k => by rw [mk_at]; rfl]; exact g1)) g3
      rw [hm1, hm2] at hW
      refine W.eq (F0_eq hof.symm ?_) (W.cs (by omega) (by omega) hW)
      rw [List.map_cons, show cv P (vA (hp.1.length : Int)) = cvA P (hp.1.length : Int) from rfl, cvA_ge (by omega) (by rw [Int.toNat_natCast]; exact hw.1.1), Int.toNat_natCast, ad, if_neg (by have := hw.1.1; omega)]
    · have hd : decode (mByt y) (mOff y pc) = .ok (.newarray .long, 2) := hd
      have hof : mOff y (pc + 1) = mOff y pc + 2 := hof
      refine va_newa (atype := .long) (ty := .long) (a0 := (nz.toNat, .inr (.inl fun _ => 0))) hx hb (hts _ w_al) rfl hKK hP (wsO_D P hp) hS hA (fun _ => rfl) hn0' (i_nat wi hnz.1) (by show nz.toNat * _ ≤ _; simp [componentBytes]; omega) (by omega) (by omega) hd (fun q cA H1 g0 g1 g2 g3 => ?_)
      have hcA : cA = P.2.2.2.2 1 := Option.some.inj ((g0.2 5 _ rfl).2.symm.trans (hKK.2 1 _ rfl).2)
      subst hcA
      refine W_sized fun hz => ?_
      have hqa := new_addr hw.1.1 g1 g2 (by rw [hsz] at hz; omega)
      subst hqa
      have hW := hW H1 locs lsr hL (by rw [← wsO_mk 101 nz.toNat hw.1.1]; exact (by rw [entE_101, show (fun k => Int64.ofInt ((mk hp 101 nz.toNat).2 hp.1.length k)) = (fun _ => 0) from funext fun k => by rw [mk_at]; rfl]; exact g1)) g3
      rw [hm1, hm2] at hW
      refine W.eq (F0_eq hof.symm ?_) (W.cs (by omega) (by omega) hW)
      rw [List.map_cons, show cv P (vA (hp.1.length : Int)) = cvA P (hp.1.length : Int) from rfl, cvA_ge (by omega) (by rw [Int.toNat_natCast]; exact hw.1.1), Int.toNat_natCast, ad, if_neg (by have := hw.1.1; omega)]
    · have hd : decode (mByt y) (mOff y pc) = .ok (.newarray .boolean, 2) := hd
      have hof : mOff y (pc + 1) = mOff y pc + 2 := hof
      refine va_newa (atype := .boolean) (ty := .boolean) (a0 := (nz.toNat, .inl fun _ => 0)) hx hb (hts _ w_az) rfl hKK hP (wsO_D P hp) hS hA (fun _ => rfl) hn0' (i_nat wi hnz.1) (by show nz.toNat * _ ≤ _; simp [componentBytes]; omega) (by omega) (by omega) hd (fun q cA H1 g0 g1 g2 g3 => ?_)
      have hcA : cA = P.2.2.2.2 2 := Option.some.inj ((g0.2 5 _ rfl).2.symm.trans (hKK.2 2 _ rfl).2)
      subst hcA
      refine W_sized fun hz => ?_
      have hqa := new_addr hw.1.1 g1 g2 (by rw [hsz] at hz; omega)
      subst hqa
      have hW := hW H1 locs lsr hL (by rw [← wsO_mk 102 nz.toNat hw.1.1]; exact (by rw [entE_102, show (fun k => Int32.ofInt ((mk hp 102 nz.toNat).2 hp.1.length k)) = (fun _ => 0) from funext fun k => by rw [mk_at]; rfl]; exact g1)) g3
      rw [hm1, hm2] at hW
      refine W.eq (F0_eq hof.symm ?_) (W.cs (by omega) (by omega) hW)
      rw [List.map_cons, show cv P (vA (hp.1.length : Int)) = cvA P (hp.1.length : Int) from rfl, cvA_ge (by omega) (by rw [Int.toNat_natCast]; exact hw.1.1), Int.toNat_natCast, ad, if_neg (by have := hw.1.1; omega)]
  · rename_i a b cc x z
    obtain ⟨hd, hok, hwd, hof⟩ := at_ok hc (by simp)
    have hd : decode (mByt y) (mOff y pc) = .ok (.anewarray x, 3) := hd
    have hof : mOff y (pc + 1) = mOff y pc + 3 := hof
    have hok : decide (a = 103 ∨ a = 104) = true := hok
    have hok := of_decide_eq_true hok
    intro hI
    have hw := hI.2.2.2.1
    obtain ⟨nz, q, rfl, h9⟩ := e1I_inv h
    by_cases hnz : 0 ≤ nz ∧ nz ≤ 100000
    case neg => rw [if_neg hnz] at h9; cases h9
    rw [if_pos hnz] at h9
    have wi : inI nz := wf_head hI.2.2.1
    obtain ⟨w, hw1, hw2⟩ := hwd (by rcases hok with rfl | rfl <;> rfl)
    have hgl := Gr_len (hgk _ _ _ _ h9)
    have hm1 : (mk hp a nz.toNat).1.length = hp.1.length + 1 := by show (hp.1 ++ [(a, nz.toNat)]).length = _; simp
    have hm2 : sl (mk hp a nz.toNat).1 = sl hp.1 + nz.toNat := sl_app _ _ _
    rw [hm1, hm2] at hgl
    have hg1 := hI.2.2.2.2.1
    have hg2 := hI.2.2.2.2.2
    obtain ⟨hR, hW⟩ := hk _ _ _ _ h9 ⟨hI.1, hI.2.1, wf_cons trivial (wf_tail hI.2.2.1), wfH_mk hw ⟨by show nz.toNat ≤ 100000; omega, Or.inr (Or.inr (Or.inr (Or.inr ⟨hok, fun k _ => by rw [dfl_r hok]; decide⟩)))⟩, by omega, by omega⟩
    refine ⟨hR, fun H locs lsr hL hP hS => ?_⟩
    have hn0' : ¬ Int32.ofInt nz < 0 := fun g => by have := (i_lt wi inI_0).mp g; omega
    have hA : ∀ q, s.heap.size ≤ q → RG P q := fun q hq2 => by show P.1 ≤ q; rw [hsz] at hq2; omega
    rcases hok with rfl | rfl
    · have hw2 : some (Jvm.Cond.classLink (mName y).cls x "ShownNot$Chart") = some w := hw2
      cases hw2
      refine va_newq (C := "ShownNot$Chart") hx hb hown (hts _ (List.mem_filter.mpr ⟨hw1, rfl⟩)) hWD.2.2.1.2.2.2.2.2.2.1 hKK hP (wsO_D P hp) hS hA hn0' (i_nat wi hnz.1) (by omega) (by omega) (by omega) hd (fun q cA H1 g0 g1 g2 g3 => ?_)
      have hcA : cA = P.2.2.2.2 3 := by
        obtain ⟨_, _, -, -, -, k1⟩ := (g0.2 5 _ rfl).2
        obtain ⟨_, _, -, -, -, k2⟩ := (hKK.2 3 _ rfl).2
        exact Option.some.inj (k1.symm.trans k2)
      subst hcA
      refine W_sized fun hz => ?_
      have hqa := new_addr hw.1.1 g1 g2 (by rw [hsz] at hz; omega)
      subst hqa
      have hW := hW H1 locs lsr hL (by rw [← wsO_mk 103 nz.toNat hw.1.1]; exact (by rw [entE_103, show (fun k => rfo P ((mk hp 103 nz.toNat).2 hp.1.length k)) = (fun _ => none) from funext fun k => by rw [mk_at]; rfl]; exact g1)) g3
      rw [hm1, hm2] at hW
      refine W.eq (F0_eq hof.symm ?_) (W.cs (by omega) (by omega) hW)
      rw [List.map_cons, show cv P (vA (hp.1.length : Int)) = cvA P (hp.1.length : Int) from rfl, cvA_ge (by omega) (by rw [Int.toNat_natCast]; exact hw.1.1), Int.toNat_natCast, ad, if_neg (by have := hw.1.1; omega)]
    · have hw2 : some (Jvm.Cond.classLink (mName y).cls x "ShownNot$Showing") = some w := hw2
      cases hw2
      refine va_newq (C := "ShownNot$Showing") hx hb hown (hts _ (List.mem_filter.mpr ⟨hw1, rfl⟩)) hWD.2.2.1.2.2.2.2.2.2.2 hKK hP (wsO_D P hp) hS hA hn0' (i_nat wi hnz.1) (by omega) (by omega) (by omega) hd (fun q cA H1 g0 g1 g2 g3 => ?_)
      have hcA : cA = P.2.2.2.2 4 := by
        obtain ⟨_, _, -, -, -, k1⟩ := (g0.2 5 _ rfl).2
        obtain ⟨_, _, -, -, -, k2⟩ := (hKK.2 4 _ rfl).2
        exact Option.some.inj (k1.symm.trans k2)
      subst hcA
      refine W_sized fun hz => ?_
      have hqa := new_addr hw.1.1 g1 g2 (by rw [hsz] at hz; omega)
      subst hqa
      have hW := hW H1 locs lsr hL (by rw [← wsO_mk 104 nz.toNat hw.1.1]; exact (by rw [entE_104, show (fun k => rfo P ((mk hp 104 nz.toNat).2 hp.1.length k)) = (fun _ => none) from funext fun k => by rw [mk_at]; rfl]; exact g1)) g3
      rw [hm1, hm2] at hW
      refine W.eq (F0_eq hof.symm ?_) (W.cs (by omega) (by omega) hW)
      rw [List.map_cons, show cv P (vA (hp.1.length : Int)) = cvA P (hp.1.length : Int) from rfl, cvA_ge (by omega) (by rw [Int.toNat_natCast]; exact hw.1.1), Int.toNat_natCast, ad, if_neg (by have := hw.1.1; omega)]
  · rename_i a b x z
    obtain ⟨hd, hok, hwd, hof⟩ := at_ok hc (by simp)
    have hd : decode (mByt y) (mOff y pc) = .ok (.getstatic x, 3) := hd
    have hof : mOff y (pc + 1) = mOff y pc + 3 := hof
    simp only [okR, Bool.and_eq_true, Bool.or_eq_true, decide_eq_true_eq] at hok
    have hok : b = 0 ∧ z = (stN a).2.2.2 ∧ a < statN.length ∧ -2147483648 ≤ z ∧ z < 2147483648 := by
      rcases hok with (g | g) | g
      · exact ⟨g.1.1.1.1.2, g.1.1.1.2, g.1.1.2, g.1.2, g.2⟩
      · exact absurd g.1.1 (by decide)
      · exact absurd g.1 (by decide)
    obtain ⟨rfl, hz, ha, hz1, hz2⟩ := hok
    obtain ⟨w, hw1, hw2⟩ := hwd rfl
    have hw2 : some (Jvm.Cond.fieldLink (mName y).cls x (stN a).1 (stN a).2.1 (stN a).2.2.1) = some w := hw2
    cases hw2
    intro hI
    obtain ⟨hR, hW⟩ := hk _ _ _ _ h ⟨hI.1, hI.2.1, wf_cons (show inI z from ⟨hz1, hz2⟩) hI.2.2.1, hI.2.2.2⟩
    refine ⟨hR, fun H locs lsr hL hP hS => ?_⟩
    refine va_gets hx hb (hWD.2.2.1.2.2.2.1 a ha) hS hown (hts _ (List.mem_filter.mpr ⟨hw1, rfl⟩)) (fun _ g => g) hd ?_
    exact W.eq (F0_eq hof.symm (by rw [← hz]; rfl)) (hW H locs lsr hL hP hS)
  · rename_i a b cc x z g0
    have hcc : cc ≠ 0 := g0
    obtain ⟨hd, hok, hwd, hof⟩ := at_ok hc (by simp)
    have hd : decode (mByt y) (mOff y pc) = .ok (.getstatic x, 3) := hd
    have hof : mOff y (pc + 1) = mOff y pc + 3 := hof
    simp only [okR, Bool.and_eq_true, Bool.or_eq_true, decide_eq_true_eq] at hok
    intro hI
    obtain ⟨hR, hW⟩ := hk _ _ _ _ h ⟨hI.1, hI.2.1, wf_cons trivial hI.2.2.1, hI.2.2.2⟩
    refine ⟨hR, fun H locs lsr hL hP hS => ?_⟩
    have hW := hW H locs lsr hL hP hS
    rcases hok with (g | ⟨⟨rfl, ha⟩, rfl⟩) | ⟨rfl, rfl⟩
    · exact absurd g.1.1.1.1.1 hcc
    · have ha3 : a < 3 := ha
      have e : cvA P (2 + (a : Int)) = .ref (P.2.1 (2 + a)) := by
        rw [cvA_pos (by omega) (by omega), show (2 + (a : Int)).toNat = 2 + a by omega, ad, if_pos (by omega)]
      cases b with
      | zero =>
        obtain ⟨w, hw1, hw2⟩ := hwd rfl
        have hw2 : some (Jvm.Cond.fieldLink (mName y).cls x "ShownNot" (stA a).1 "[I") = some w := hw2
        cases hw2
        refine va_gets hx hb (hWD.2.2.1.2.2.1 a ha).2 hS hown (hts _ (List.mem_filter.mpr ⟨hw1, rfl⟩)) (fun _ g => g) hd ?_
        exact W.eq (F0_eq hof.symm (by rw [List.map_cons]; show _ = cvA P (2 + (a : Int)) :: _; rw [e])) hW
      | succ b =>
        obtain ⟨w, hw1, hw2⟩ := hwd rfl
        have hw2 : some (Jvm.Cond.fieldLinkNest (mName y).cls x "ShownNot" (stA a).1 "[I" "ShownNot") = some w := hw2
        cases hw2
        refine va_getsN hx hb (hWD.2.2.1.2.2.1 a ha).2 hS hown (va_Nw.use rfl (hWD.1 _ hw1 rfl)) (fun _ g => g) hd ?_
        exact W.eq (F0_eq hof.symm (by rw [List.map_cons]; show _ = cvA P (2 + (a : Int)) :: _; rw [e])) hW
    · obtain ⟨w, hw1, hw2⟩ := hwd (by cases b <;> rfl)
      have hw2 : some (Jvm.Cond.fieldLink (mName y).cls x "jdk/internal/util/Preconditions" "SIOOBE_FORMATTER" "Ljava/util/function/BiFunction;") = some w := by cases b <;> exact hw2
      cases hw2
      refine va_gets hx hb hWD.2.2.1.2.2.2.2.1 hS hown (hts _ (List.mem_filter.mpr ⟨hw1, rfl⟩)) (fun _ g => g) hd ?_
      exact W.eq (F0_eq hof.symm rfl) hW
  · rename_i a b cc x z
    obtain ⟨hd, hok, hwd, hof⟩ := at_ok hc (by simp)
    have hd : decode (mByt y) (mOff y pc) = .ok (.aconst_null, 1) := hd
    have hof : mOff y (pc + 1) = mOff y pc + 1 := hof
    intro hI
    have hw := hI.2.2.2.1
    obtain ⟨hR, hW⟩ := hk _ _ _ _ h ⟨hI.1, hI.2.1, wf_cons trivial hI.2.2.1, hI.2.2.2⟩
    exact ⟨hR, fun H locs lsr hL hP hS => lv_null hx hb hd (W.eq (F0_eq hof.symm rfl) (hW H locs lsr hL hP hS))⟩
  · rename_i a b cc x z
    obtain ⟨hd, hok, hwd, hof⟩ := at_ok hc (by simp)
    have hd : decode (mByt y) (mOff y pc) = .ok (.ldc x, 2) := hd
    have hof : mOff y (pc + 1) = mOff y pc + 2 := hof
    intro hI
    have hw := hI.2.2.2.1
    simp only [okR, Bool.and_eq_true, decide_eq_true_eq] at hok
    obtain ⟨ha, rfl⟩ := hok
    obtain ⟨w, hw1, hw2⟩ := hwd rfl
    have hw2 : some (Jvm.Cond.stringRef (mName y).cls x (stS a)) = some w := hw2
    cases hw2
    have ha12 : a < 12 := ha
    obtain ⟨hR, hW⟩ := hk _ _ _ _ h ⟨hI.1, hI.2.1, wf_cons trivial hI.2.2.1, hI.2.2.2⟩
    refine ⟨hR, fun H locs lsr hL hP hS => ?_⟩
    have e : cvA P (5 + 2 * (a : Int)) = .ref (P.2.1 (5 + 2 * a)) := by
      rw [cvA_pos (by omega) (by omega), show (5 + 2 * (a : Int)).toNat = 5 + 2 * a by omega, ad, if_pos (by omega)]
    refine va_ldcS hx hb hown (hWD.2.1 _ x a ha hw1) hd ?_
    exact W.eq (F0_eq hof.symm (by rw [List.map_cons]; show _ = cvA P (5 + 2 * (a : Int)) :: _; rw [e])) (hW H locs lsr hL hP hS)
  · rename_i a b cc x z
    obtain ⟨hd, hok, hwd, hof⟩ := at_ok hc (by simp)
    have hd : decode (mByt y) (mOff y pc) = .ok (.invokestatic x, 3) := hd
    have hof : mOff y (pc + 1) = mOff y pc + 3 := hof
    intro hI
    have hw := hI.2.2.2.1
    obtain ⟨w, hw1, hw2⟩ := hwd rfl
    have hw2 : some (Jvm.Cond.methodLink (mName y).cls x arraycopyName) = some w := hw2
    cases hw2
    obtain ⟨so, sp, dd, dp, nz, q, rfl, h9⟩ := eCP_inv h
    by_cases hwd2 : wid q ≤ 8
    case neg => rw [if_neg hwd2] at h9; cases h9
    rw [if_pos hwd2] at h9
    obtain ⟨h2, hg, h9⟩ := bnd_inv h9
    obtain ⟨hso, hdd, m0, m1, hq0, hq1, hsp, hdp, hnz, hb1, hb2, rfl⟩ := acp_inv hg
    have hI2 := hI.2.2.1
    have wn : inI nz := wf_head hI2
    have wdp : inI dp := wf_head (wf_tail hI2)
    have wsp : inI sp := wf_head (wf_tail (wf_tail (wf_tail hI2)))
    have hi0 : KX ≤ so.toNat := x_tag hw hq0 (by simp) (by simp) (by simp) (by simp)
    have hi1 : KX ≤ dd.toNat := x_tag hw hq1 (by simp) (by simp) (by simp) (by simp)
    have hc2 : ∀ i, i ≠ dd.toNat → ∀ k, cpy hp.2 so.toNat sp.toNat dd.toNat dp.toNat nz.toNat i k = hp.2 i k := fun i hi k => by simp [cpy, hi]
    have hin0 := (okC_t (hw.2.2.2 _ _ hi0 hq0)).1 rfl
    have hin1 := (okC_t (hw.2.2.2 _ _ hi1 hq1)).1 rfl
    have hw2 : wfH L xs (hp.1, cpy hp.2 so.toNat sp.toNat dd.toNat dp.toNat nz.toNat) := by
      refine ⟨hw.1, hw.2.1, fun i k hi => ?_, fun i q2 hi hq2 => ?_⟩
      · show cpy _ _ _ _ _ _ i k = _
        rw [hc2 i (by omega)]; exact hw.2.2.1 i k hi
      · by_cases g : i = dd.toNat
        · subst g
          have hq2 : hp.1[dd.toNat]? = some q2 := hq2
          rw [hq1] at hq2; cases hq2
          refine ⟨(hw.2.2.2 _ _ hi1 hq1).1, Or.inr (Or.inl ⟨rfl, fun k hk3 => ?_⟩)⟩
          show inI (cpy _ _ _ _ _ _ _ k)
          unfold cpy
          split
          · exact hin0 _ (by omega)
          · exact hin1 k hk3
        · have e : (cpy hp.2 so.toNat sp.toNat dd.toNat dp.toNat nz.toNat) i = hp.2 i := funext fun k => hc2 i g k
          show okC q2 ((cpy hp.2 so.toNat sp.toNat dd.toNat dp.toNat nz.toNat) i)
          rw [e]; exact hw.2.2.2 i q2 hi hq2
    obtain ⟨hR, hW⟩ := hk _ _ _ _ h9 ⟨hI.1, hI.2.1, wf_tail (wf_tail (wf_tail (wf_tail (wf_tail hI2)))), hw2, hI.2.2.2.2⟩
    refine ⟨hR, fun H locs lsr hL hP hS => ?_⟩
    simp only [List.map_cons]
    rw [show cv P (vA so) = cvA P so from rfl, show cv P (vA dd) = cvA P dd from rfl, cvA_ge hso hi0, cvA_ge hdd hi1]
    refine va_copyi (ty := .int) hx hb (by rw [hml]; exact hL.1.symm) hown (hts _ (List.mem_filter.mpr ⟨hw1, rfl⟩)) (hts _ w_nat) (hts _ w_sta) (hts _ w_sys) hKK hP (wsO_D P hp) hS (so.toNat - KX) (dd.toNat - KX) 0 0 (by rw [wsO_get hi0 hq0, entE_100]) (by rw [wsO_get hi1 hq1, entE_100]) rfl rfl rfl (fun g => by have := (i_lt wsp inI_0).mp g; omega) (fun g => by have := (i_lt wdp inI_0).mp g; omega) (fun g => by have := (i_lt wn inI_0).mp g; omega) (by rw [i_nat wsp hsp, i_nat wn hnz]; omega) (by rw [i_nat wdp hdp, i_nat wn hnz]; omega) (fun _ _ => rfl) (by omega) (by rw [wid_eq hq, show nativeFrameWords "java/lang/System" "arraycopy" 5 = 7 from rfl]; omega) hd (fun H1 locs1 g1 _ g3 => ?_)
    rw [i_nat wsp hsp, i_nat wdp hdp, i_nat wn hnz, show va_cpy (fun k => Int32.ofInt (hp.2 so.toNat k)) (fun k => Int32.ofInt (hp.2 dd.toNat k)) sp.toNat dp.toNat nz.toNat = (fun k => Int32.ofInt (cpy hp.2 so.toNat sp.toNat dd.toNat dp.toNat nz.toNat dd.toNat k)) from funext fun k => by simp only [va_cpy, cpy, true_and]; split <;> rfl, ← entE_100, wsO_upd hi1 hq1 hc2] at g1
    exact W.eq (F0_eq hof.symm rfl) (hW H1 locs1 lsr hL g1 g3)
  · rename_i a b cc x z
    obtain ⟨hd, hok, hwd, hof⟩ := at_ok hc (by simp)
    have hd : decode (mByt y) (mOff y pc) = .ok (.invokespecial x, 3) := hd
    have hof : mOff y (pc + 1) = mOff y pc + 3 := hof
    intro hI
    have hw := hI.2.2.2.1
    obtain ⟨w, hw1, hw2⟩ := hwd rfl
    have hw2 : some (Jvm.Cond.methodLink (mName y).cls x objectInit) = some w := hw2
    cases hw2
    obtain ⟨x0, q, rfl, h9⟩ := e1A_inv h
    by_cases hx0 : 0 < x0 ∧ wid q ≤ 8
    case neg => rw [if_neg hx0] at h9; cases h9
    rw [if_pos hx0] at h9
    obtain ⟨hR, hW⟩ := hk _ _ _ _ h9 ⟨hI.1, hI.2.1, wf_tail hI.2.2.1, hI.2.2.2⟩
    refine ⟨hR, fun H locs lsr hL hP hS => ?_⟩
    rw [List.map_cons, show cv P (vA x0) = cvA P x0 from rfl, cvA_pos (by omega) (by omega)]
    refine W.objInit hx hb hown (hts _ (List.mem_filter.mpr ⟨hw1, rfl⟩)) (hts _ w_oin) (hts _ w_oco) rfl (by rw [hml]; exact hL.1) rfl hd (by omega) (by show 2 * 0 + _ + 12 ≤ _; rw [wid_eq hq]; omega) ?_
    exact W.eq (F0_eq hof.symm rfl) (hW H locs lsr hL hP hS)
  · rename_i a b cc x z
    obtain ⟨hd, hok, hwd, hof⟩ := at_ok hc (by simp)
    have hd : decode (mByt y) (mOff y pc) = .ok (.i2b, 1) := hd
    have hof : mOff y (pc + 1) = mOff y pc + 1 := hof
    intro hI
    have hw := hI.2.2.2.1
    obtain ⟨x0, q, rfl, h9⟩ := e1I_inv h
    obtain ⟨hR, hW⟩ := hk _ _ _ _ h9 ⟨hI.1, hI.2.1, wf_cons (show inI (i2b x0) from inI_t _) (wf_tail hI.2.2.1), hI.2.2.2⟩
    refine ⟨hR, fun H locs lsr hL hP hS => ?_⟩
    refine lv_i2b hx hb hd rfl ?_
    exact W.eq (F0_eq hof.symm (by simp only [List.map_cons, cv, i2b, Int32.ofInt_toInt])) (hW H locs lsr hL hP hS)
  · intro _; cases h

end SIM
