def lw_P (b : Addr) (xs : List Int32) (args : Array Value) (s : State) : Prop := args = #[.ref b] ∧ s.IntsAt b xs ∧ xs.length ≤ 3072 ∧ (Jvm.Cond.and given_1 narrow_1).before args s = true
def lw_Q (_ : Array Value) (s : State) (o : Outcome) (t : State) : Prop := o = .returned (some (.int 1)) ∧ Framed s o t [] 600000 7302250
def lw_Z (below : List Frame) (a : Array Value) (s : State) : State → Prop := fun t => ∃ o, t.status = .running ∧ Ended t below o ∧ lw_Q a s o t
/-- the law's own end, with 1 on the stack, nothing written that was there before, its room as the claim has it -/
theorem lw_ret {p : Program} {l : Launch} {e : Env} {s : State} {m : MethodId} {below : List Frame} {meth : Method} {c : Code} {b : Nat} (hx : p.tables.exec = Jvm.exec) (hb : c.code = code) (hr : meth.sig.returnType = ret) (hlocks : meth.locks = false) {pc : Nat} {H : Heap} {ls : Array Slot} (hdg : decode code pc = .ok (.ireturn, 1)) : W p l e room_1 s m #[Value.ref b] below meth c H [] 600000 7302250 (lw_Z below #[Value.ref b] s) (F0 m pc ls [.int 1]) := by
  intro T hT X
  obtain ⟨fs, hret, hrun, hended, hW, hframe⟩ := X.leave (v := some (.int 1)) (hlocks := hlocks) (fun h => by rw [hr] at h; cases h)
  have hmeth' : T.vm.method? m = some meth := X.method'
  refine ⟨T.setFrames fs, ?_, .returned (some (.int 1)), hrun, hended, rfl, ⟨_, rfl⟩, hW, hframe⟩
  jvm_step X.here [X.here.top, hx, hb, hdg, hmeth', hr, ret, narrow_b1]
  (try refine ⟨rfl, ?_⟩); (try refine ⟨rfl, ?_⟩)
  first | (intro acts; rw [hret _ acts rfl rfl rfl]) | rw [hret _ _ rfl rfl rfl]
  exact Steps.refl _
/-- what holds at the law's entry: the machine, the code, the tables' words (any of lw_tbl by 'hts w (by decide +kernel)'), the script of L ints xs at the cell b, what the Statement gives of the start (any of its parts by flat_of_before) -/
def lw_At (p : Program) (s : State) (m : MethodId) (meth : Method) (c : Code) (b L : Nat) (xs : Nat → Int32) : Prop :=
  p.tables.exec = Jvm.exec ∧ c.code = code ∧ meth.sig.returnType = ret ∧ c.maxLocals = 4 ∧ s.vm.findClass R_law = some m.cls ∧ (∀ w ∈ lw_tbl, w.before #[Value.ref b] s = true) ∧ va_X b L xs s s.heap ∧ b < s.heap.size ∧ meth.locks = false ∧ (Jvm.Cond.and given_1 narrow_1).before #[Value.ref b] s = true
/-! the law's start: the world that the Statement gives -/
def strIx : List Nat := [162, 164, 170, 172, 174, 175, 176, 178, 179, 181, 183, 146]
def strTm (i : Nat) : Term := .string "ShownNot$Reader" (strIx.getD i 0)
def gvL : List Jvm.Cond := flatC (Jvm.Cond.and given_1 narrow_1)
def inG (w : Jvm.Cond) : Bool := decide (w ∈ gvL)
def allN (n : Nat) (f : Nat → Bool) : Bool := (List.range n).all f
theorem allN_at {n : Nat} {f : Nat → Bool} (h : allN n f = true) {i : Nat} (hi : i < n) : f i = true := List.all_eq_true.mp h i (List.mem_range.mpr hi)
theorem inG_of {w : Jvm.Cond} (h : inG w = true) : w ∈ gvL := of_decide_eq_true h
set_option maxRecDepth 100000 in
theorem g_ex : allN 12 (fun i => inG (.exactly (strTm i) "java/lang/String")) = true := by decide +kernel
set_option maxRecDepth 100000 in
theorem g_co : allN 12 (fun i => inG (.eq (.field (strTm i) "java/lang/String" "coder" "B") (.int 0))) = true := by decide +kernel
set_option maxRecDepth 100000 in
theorem g_ar : allN 12 (fun i => inG (.arrayOf (.field (strTm i) "java/lang/String" "value" "[B") .byte)) = true := by decide +kernel
set_option maxRecDepth 100000 in
theorem g_le : allN 12 (fun i => inG (.eq (.length (.field (strTm i) "java/lang/String" "value" "[B")) (.int (Int32.ofNat (lens.getD i 0))))) = true := by decide +kernel
set_option maxRecDepth 100000 in
theorem g_el : allN 12 (fun i => allN (lens.getD i 0) fun j => inG (.eq (.elem (.field (strTm i) "java/lang/String" "value" "[B") (.int (Int32.ofNat j))) (.int ((bytL.getD i []).getD j 0)))) = true := by decide +kernel
set_option maxRecDepth 100000 in
theorem g_ne : allN 12 (fun i => allN 12 fun j => i == j || inG (.not (.eq (strTm i) (strTm j))) || inG (.not (.eq (strTm j) (strTm i)))) = true := by decide +kernel
set_option maxRecDepth 100000 in
theorem g_sa : allN 3 (fun a => inG (.arrayOf (.static "ShownNot" (stA a).1 "[I") .int)) = true := by decide +kernel
set_option maxRecDepth 100000 in
theorem g_sl : allN 3 (fun a => inG (.eq (.length (.static "ShownNot" (stA a).1 "[I")) (.int (Int32.ofNat (stA a).2.length)))) = true := by decide +kernel
set_option maxRecDepth 100000 in
theorem g_se : allN 3 (fun a => allN (stA a).2.length fun j => inG (.eq (.elem (.static "ShownNot" (stA a).1 "[I") (.int (Int32.ofNat j))) (.int (Int32.ofInt ((stA a).2.getD j 0))))) = true := by decide +kernel
set_option maxRecDepth 100000 in
theorem g_sn : allN 4 (fun a => inG (.eq (.static (stN a).1 (stN a).2.1 (stN a).2.2.1) (.int (Int32.ofInt (stN a).2.2.2)))) = true := by decide +kernel
set_option maxRecDepth 100000 in
theorem g_pf : inG (.isRef (.static "jdk/internal/util/Preconditions" "SIOOBE_FORMATTER" "Ljava/util/function/BiFunction;")) = true := by decide +kernel
def inL2 (w : Jvm.Cond) : Bool := decide (w ∈ lw_tbl)
theorem inL2_of {w : Jvm.Cond} (h : inL2 w = true) : w ∈ lw_tbl := of_decide_eq_true h
set_option maxRecDepth 100000 in
theorem l_sa : allN 3 (fun a => inL2 (.laysStatic "ShownNot" (stA a).1 "[I")) = true := by decide +kernel
set_option maxRecDepth 100000 in
theorem l_sn : allN 4 (fun a => inL2 (.laysStatic (stN a).1 (stN a).2.1 (stN a).2.2.1) && inL2 (.initialized (stN a).1)) = true := by decide +kernel
set_option maxRecDepth 100000 in
theorem l_pf : (inL2 (.laysStatic "jdk/internal/util/Preconditions" "SIOOBE_FORMATTER" "Ljava/util/function/BiFunction;") && inL2 (.initialized "jdk/internal/util/Preconditions") && inL2 (.initialized "ShownNot")) = true := by decide +kernel
set_option maxRecDepth 100000 in
theorem l_ao : (inL2 (.arrayOver (.object "ShownNot$Chart")) && inL2 (.arrayOver (.object "ShownNot$Showing"))) = true := by decide +kernel
def chkS (w : Jvm.Cond) : Bool := match w with | .stringRef own x t => own == "ShownNot$Reader" && allN 12 (fun a => !(stS a == t) || x == strIx.getD a 0) | _ => true
set_option maxRecDepth 100000 in
theorem l_st : lw_tbl.all chkS = true := by decide +kernel
def xAd (b : Nat) (tA adK adV : Nat → Nat) (i : Nat) : Nat := if i = 1 then b else if i < 5 then tA (i - 2) else if (i - 5) % 2 = 0 then adK ((i - 5) / 2) else adV ((i - 6) / 2)
theorem xAd_1 (b : Nat) (tA adK adV : Nat → Nat) : xAd b tA adK adV 1 = b := rfl
theorem xAd_A (b : Nat) (tA adK adV : Nat → Nat) {a : Nat} (h : a < 3) : xAd b tA adK adV (2 + a) = tA a := by
  unfold xAd; rw [if_neg (by omega), if_pos (by omega), show 2 + a - 2 = a by omega]
theorem xAd_K (b : Nat) (tA adK adV : Nat → Nat) (a : Nat) : xAd b tA adK adV (5 + 2 * a) = adK a := by
  unfold xAd; rw [if_neg (by omega), if_neg (by omega), if_pos (by omega), show (5 + 2 * a - 5) / 2 = a by omega]
theorem xAd_V (b : Nat) (tA adK adV : Nat → Nat) (a : Nat) : xAd b tA adK adV (6 + 2 * a) = adV a := by
  unfold xAd; rw [if_neg (by omega), if_neg (by omega), if_neg (by omega), show (6 + 2 * a - 6) / 2 = a by omega]
set_option maxHeartbeats 4000000 in
theorem WD_start {p : Program} {s : State} {m : MethodId} {meth : Method} {c : Code} {b L : Nat} {xs : Nat → Int32} (C0 : lw_At p s m meth c b L xs) : ∃ P : PB, P.1 = s.heap.size ∧ P.2.1 1 = b ∧ WD P L xs s := by
  obtain ⟨hx, hb, hr, hml, hown, hts, hX, hbl, hlocks, hgv⟩ := C0
  have hG : ∀ w, inG w = true → w.before #[Value.ref b] s = true := fun w h => flat_of_before _ hgv w (inG_of h)
  have hL2 : ∀ w, inL2 w = true → w.before #[Value.ref b] s = true := fun w h => hts w (inL2_of h)
  let A : Nat → Prop := fun q => s.heap.size ≤ q
  have hA : ∀ a : Nat, a < s.heap.size → ¬ A a := fun a h g => by have g : s.heap.size ≤ a := g; omega
  -- texts
  obtain ⟨adK, adV, hvS, hev⟩ := vk_Sof (args := #[Value.ref b]) (s := s) (N := 12) (tm := strTm) (len := lens) (byt := bytL) (A := A) (by decide +kernel) (fun i hi => hG _ (allN_at g_ex hi)) (fun i hi => hG _ (allN_at g_co hi)) (fun i hi => hG _ (allN_at g_ar hi)) (fun i hi => hG _ (allN_at g_le hi)) (fun i hi j hj => hG _ (allN_at (allN_at g_el hi) hj)) (fun i j hi hj hij => by
    have h := allN_at (allN_at g_ne hi) hj
    simp only [Bool.or_eq_true, beq_iff_eq] at h
    rcases h with (h | h) | h
    · exact absurd h hij
    · exact Or.inl (hG _ h)
    · exact Or.inr (hG _ h)) hA
  -- statics
  have hst : ∀ a : Nat, ∃ t : Nat, a < 3 → va_T .int t (stA a).2.length (fun j => .int (Int32.ofInt ((stA a).2.getD j 0))) A s s.heap ∧ va_Z "ShownNot" (stA a).1 "[I" (.ref t) A s s.heap := by
    intro a
    by_cases ha : a < 3
    · have hlt : (stA a).2.length < 2 ^ 31 := by
        have : ∀ a, a < 3 → (stA a).2.length < 2 ^ 31 := by decide +kernel
        exact this a ha
      obtain ⟨t, h1, h2⟩ := va_Tof (tm := .static "ShownNot" (stA a).1 "[I") (f := fun j => .int (Int32.ofInt ((stA a).2.getD j 0))) (A := A) hlt (hG _ (allN_at g_sa ha)) (va_eqt (hG _ (allN_at g_sl ha))) (fun j hj => va_eqt (hG _ (allN_at (allN_at g_se ha) hj))) hA
      have hp := l_pf
      simp only [Bool.and_eq_true] at hp
      exact ⟨t, fun _ => ⟨h2, va_Zref (hL2 _ (allN_at l_sa ha)) (hL2 _ hp.2) h1 hA⟩⟩
    · exact ⟨0, fun h => absurd h ha⟩
  obtain ⟨tA, htA⟩ := Classical.axiomOfChoice hst
  have hnm : ∀ a, a < 4 → va_Z (stN a).1 (stN a).2.1 (stN a).2.2.1 (.int (Int32.ofInt (stN a).2.2.2)) A s s.heap := fun a ha => by
    have h := allN_at l_sn ha
    simp only [Bool.and_eq_true] at h
    exact va_Zof (hL2 _ h.1) (hL2 _ h.2) (va_eqt (hG _ (allN_at g_sn ha))) hA
  have hpf : ∃ v : Value, va_Z "jdk/internal/util/Preconditions" "SIOOBE_FORMATTER" "Ljava/util/function/BiFunction;" v A s s.heap ∧ (v = .null ∨ ∃ t, v = .ref t) := by
    have hp := l_pf
    simp only [Bool.and_eq_true] at hp
    rcases va_Zqof (hL2 _ hp.1.1) (hL2 _ hp.1.2) (hG _ g_pf) hA with h | ⟨t, h⟩
    · exact ⟨_, h, Or.inl rfl⟩
    · exact ⟨_, h, Or.inr ⟨t, rfl⟩⟩
  obtain ⟨qv, hqZ, hqv⟩ := hpf
  -- kinds
  have hkn : ∀ k : Nat, ∃ pr : ClassId × (Nat → Nat), ∀ q, vwCl[k]? = some q → u_Kn s q.1 q.2.1 q.2.2 pr.1 pr.2 := by
    intro k
    cases hk : vwCl[k]? with
    | none => exact ⟨(0, fun _ => 0), fun q h => by cases h⟩
    | some q =>
      obtain ⟨-, h1, -⟩ := clsOK k q hk
      obtain ⟨h2, -, -⟩ := clsNew k q hk
      obtain ⟨cC, iS, h3⟩ := u_known (ws := gW) (fun w hw => hts w (List.mem_filter.mp hw).1) h1 (hts _ (List.mem_filter.mp h2).1)
      exact ⟨(cC, iS), fun q' h => by cases h; exact h3⟩
  obtain ⟨kn, hkn⟩ := Classical.axiomOfChoice hkn
  obtain ⟨c0, k0, m0, a1, a2, a3⟩ := Cond.arrayClass_spec (hts _ (List.mem_filter.mp w_ai).1)
  obtain ⟨c1, k1, m1, b1, b2, b3⟩ := Cond.arrayClass_spec (hts _ (List.mem_filter.mp w_al).1)
  obtain ⟨c2, k2, m2, d1, d2, d3⟩ := Cond.arrayClass_spec (hts _ (List.mem_filter.mp w_az).1)
  have hao := l_ao
  simp only [Bool.and_eq_true] at hao
  obtain ⟨m3, c3, k3, e1, -, e2, e3, e4⟩ := Cond.arrayOver_spec (hL2 _ hao.1)
  obtain ⟨m4, c4, k4, f1, -, f2, f3, f4⟩ := Cond.arrayOver_spec (hL2 _ hao.2)
  let P : PB := (s.heap.size, xAd b tA adK adV, qv, (fun k => (kn k).1, fun k => (kn k).2), fun j => if j = 0 then c0 else if j = 1 then c1 else if j = 2 then c2 else if j = 3 then c3 else c4)
  refine ⟨P, rfl, rfl, fun w hw hn => ?_, fun own x a ha hw => ?_, ⟨⟨fun k q hk => hkn k q hk, fun k q hk => ?_⟩, ?_, fun a ha => ?_, hnm, hqZ, ?_, va_AO.of (hL2 _ hao.1), va_AO.of (hL2 _ hao.2)⟩, hqv⟩
  · cases w with
    | methodLinkNest => exact va_Nw.of rfl (hts _ hw)
    | fieldLinkNest => exact va_Nw.of rfl (hts _ hw)
    | _ => cases hn
  · have h := List.all_eq_true.mp l_st _ hw
    simp only [chkS, Bool.and_eq_true, beq_iff_eq] at h
    obtain ⟨h1, h2⟩ := h
    have h3 := allN_at h2 (show a < 12 from ha)
    simp only [beq_self_eq_true, Bool.not_true, Bool.false_or, beq_iff_eq] at h3
    subst h1; subst h3
    show vk_R _ _ _ (xAd b tA adK adV (5 + 2 * a)) s
    rw [xAd_K]
    exact vk_R.of (hts _ hw) (hev a ha)
  · match k, hk with
    | 0, hk => cases hk; exact ⟨fun n z => ⟨(fun k h => by cases h), k0, a2, m0, a3⟩, a1⟩
    | 1, hk => cases hk; exact ⟨fun n z => ⟨(fun k h => by cases h), k1, b2, m1, b3⟩, b1⟩
    | 2, hk => cases hk; exact ⟨fun n z => ⟨(fun k h => by cases h), k2, d2, m2, d3⟩, d1⟩
    | 3, hk => cases hk; exact ⟨fun n z => ⟨(fun k h => by cases h), k3, e2, m3, e3⟩, k3, m3, e2, e3, e1, e4⟩
    | 4, hk => cases hk; exact ⟨fun n z => ⟨(fun k h => by cases h), k4, f2, m4, f3⟩, k4, m4, f2, f3, f1, f4⟩
    | n + 5, hk => simp [tysO] at hk
  · obtain ⟨scr, h1, h2, h3, h4, h5⟩ := hX
    exact ⟨scr, h1, h2, h3, by omega, by rw [h4], h5, hA b hbl⟩
  · have h := htA a ha
    rw [show P.2.1 (2 + a) = tA a from xAd_A b tA adK adV ha]
    exact h
  · have e1 : (fun i => P.2.1 (5 + 2 * i)) = adK := funext fun i => xAd_K b tA adK adV i
    have e2 : (fun i => P.2.1 (6 + 2 * i)) = adV := funext fun i => xAd_V b tA adK adV i
    rw [e1, e2]
    exact hvS
theorem x_wf {L : Nat} (hL : L ≤ 3072) (xs : Nat → Int32) : wfH L xs (xSh L, xCt xs) := by
  have hl := xSh_len L
  refine ⟨⟨by show KX ≤ (xSh L).length; rw [hl]; exact Nat.le_refl _, hL⟩, ?_, fun i k _ => rfl, fun i q hi hq => ?_⟩
  · show (xSh L).take KX = xSh L
    rw [List.take_of_length_le (by rw [hl]; exact Nat.le_refl _)]
  · have : i < (xSh L).length := (List.getElem?_eq_some_iff.mp hq).1
    rw [hl] at this
    have h2 : 29 ≤ i := hi
    omega
/-- the law's claim, in the machine of numbers -/
def LawOK : Prop := ∀ (L : Nat) (xs : Nat → Int32), L ≤ 3072 → ∃ hp' : HP, Cd 1000 302 [vA 1] (xSh L, xCt xs) = some ([vI 1], hp') ∧ hp'.1.length ≤ 600029 ∧ sl hp'.1 ≤ 7302250
theorem start_of (hlaw : LawOK) {p : Program} {e : Env} {s : State} {m : MethodId} {below : List Frame} {meth : Method} {c : Code} (l : Launch) {b L : Nat} {xs : Nat → Int32} (hL : L ≤ 3072) (C0 : lw_At p s m meth c b L xs) : W p l e room_1 s m #[Value.ref b] below meth c s.heap [] 0 0 (lw_Z below #[Value.ref b] s) (entryFrame m ([Value.ref b] : List Value).toArray 4) := by
  obtain ⟨P, hP1, hPb, hWD⟩ := WD_start C0
  obtain ⟨hx, hb, hr, hml, hown, hts, hX, hbl, hlocks, hgv⟩ := C0
  obtain ⟨hp', hcd, hlen, hsl⟩ := hlaw L xs hL
  obtain ⟨d', hd', hkn, hrc, n, hn⟩ := Cd_inv hcd
  have hd' : d' = 999 := by omega
  subst hd'
  have hw := x_wf hL xs
  have hq := hWD.2.2.2
  have e1 : ([vA 1] : List AV).map (cv P) = [Value.ref b] := by
    rw [List.map_cons, List.map_nil, show cv P (vA 1) = cvA P 1 from rfl, cvA_pos (by decide) (by decide), show ad P (1 : Int).toNat = P.2.1 1 from rfl, hPb]
  have C : CX p room_1 s m #[Value.ref b] meth c P 302 L 999 29 (sl (xSh L)) xs ([vI 1], hp') := ⟨hx, hb, hml, hown, fun w h => hts w (List.mem_filter.mp h).1, hWD, by rw [hP1]; rfl, Nat.le_refl _, Or.inr rfl, by decide, by decide, by show hp'.1.length - 29 ≤ 600000; omega, by show sl hp'.1 - sl (xSh L) ≤ 7302250; omega⟩
  have K := core (l := l) (e := e) (below := below) (Q := lw_Z below #[Value.ref b] s) (bothOK l 999).1 (bothOK l 999).2 C (fun pc ri H locs lsr hc hret hP2 hS2 => ?_) n 0 _ _ _ hn
  · obtain ⟨-, hW⟩ := K ⟨ent_len (by omega) hkn, ent_at (by omega) hkn (fun v hv => by rw [List.mem_singleton.mp hv]; trivial), fun _ h => absurd h List.not_mem_nil, hw, by show 29 ≤ (xSh L).length; rw [xSh_len]; exact Nat.le_refl _, Nat.le_refl _⟩
    have hW := hW s.heap [] _ (LR_ent hq (by omega) hkn) (fun k q hk => by
      rw [wsO_at] at hk
      have h0 : (xSh L)[KX + k]? = none := List.getElem?_eq_none (by rw [xSh_len]; show 29 ≤ 29 + k; omega)
      rw [show (xSh L, xCt xs).1[KX + k]? = (xSh L)[KX + k]? from rfl, h0] at hk
      cases hk) va_S.rf
    rw [show mOff 302 0 = 0 from rfl, e1] at hW
    rw [lg_entry_eq]
    exact W.cs (by show 0 = (xSh L).length - 29; rw [xSh_len]) (by show 0 = sl (xSh L) - sl (xSh L); omega) hW
  · have hd : decode code (mOff 302 pc) = .ok (.ireturn, 1) := by
      rcases hret with ⟨h1, h2⟩ | ⟨h1, x0, h2, h3⟩ | ⟨h1, x0, h2, h3⟩ | ⟨h1, x0, h2, h3⟩ | ⟨h1, x0, h2⟩ | ⟨h1, x0, h2, h3⟩ | ⟨h1, x0, h2, h3⟩
      · cases h2
      case inr.inr.inr.inl => cases h2
      case inr.inr.inr.inr.inl => cases h2
      all_goals
        obtain ⟨o, a, b', cc, x, zz⟩ := ri
        simp only at h1
        subst h1
        exact (at_ok hc (by simp)).1
    exact va_forget (fun q hq2 => by have h : P.1 ≤ q.base := hS2.2.2 q hq2; rw [hP1] at h; exact h) (W.widen (by show hp'.1.length - 29 ≤ 600000; omega) (by show sl hp'.1 - sl (xSh L) ≤ 7302250; omega) (lw_ret hx hb hr hlocks hd))
