/-! the simulation, last part: calls -/
def rmO (d : Nat) (hp hp' : HP) : Room := { frames := d, cells := hp'.1.length - hp.1.length, slots := sl hp'.1 - sl hp.1, locals := 64 * d }
def PcO (P : PB) (L : Nat) (xs : Nat → Int32) (av : List AV) (hp : HP) : Array Value → State → Prop := fun v U => v = (av.map (cv P)).toArray ∧ WD P L xs U ∧ U.heap.size = P.1 + (hp.1.length - KX) ∧ va_P P.2.2.2.1 vwCl (wsO P hp) U.heap
def QcO (P : PB) (r : RT) : Array Value → State → Outcome → State → Prop := fun _ st oc t => oc = .returned ((r.1.map (cv P)).head?) ∧ va_P P.2.2.2.1 vwCl (wsO P r.2) t.heap ∧ va_F (RG P) st t
def wsM (z : Nat) : List Jvm.Cond := Jvm.Cond.code (mName z) (mByt z) (mMl z) (mRet z) :: gW
def MetOK (l : Launch) (d : Nat) : Prop := ∀ (z : Nat) (av : List AV) (hp : HP) (r : RT) (P : PB) (L : Nat) (xs : Nat → Int32), z < 302 → Cd d z av hp = some r → wfH L xs hp → (∀ v ∈ av, wfv v) → Met l (mName z) (wsM z) (rmO d hp r.2) (PcO P L xs av hp) (QcO P r) (r.2.1.length - hp.1.length) (sl r.2.1 - sl hp.1) (RG P)
def WfOK (d : Nat) : Prop := ∀ (p : Program) (e : Env) (s : State) (args : Array Value) (below : List Frame) (meth : Method) (c : Code) (P : PB) (L n0 : Nat) (xs : Nat → Int32), p.tables.exec = Jvm.exec → (∀ w ∈ gW, w.before args s = true) → WD P L xs s → s.heap.size = P.1 + (n0 - KX) → KX ≤ n0 → ∀ (z : Nat) (av : List AV) (hp : HP) (r : RT), z < 302 → Cd d z av hp = some r → wfH L xs hp → n0 ≤ hp.1.length → (∀ v ∈ av, wfv v) → wfR L xs r
theorem knd_len : ∀ (av : List AV) (sg : List Nat), knd av sg = true → av.length = sg.length
  | [], [], _ => rfl
  | [], _ :: _, h => by simp [knd] at h
  | .inl _ :: r, q, h => by
    cases q with
    | nil => simp [knd] at h
    | cons a q =>
      match a, h with
      | 0, h => simp only [knd] at h; simp [knd_len r q h]
      | n + 1, h => simp [knd] at h
  | .inr (.inl _) :: r, q, h => by
    cases q with
    | nil => simp [knd] at h
    | cons a q =>
      match a, h with
      | 0, h => simp [knd] at h
      | 1, h => simp only [knd] at h; simp [knd_len r q h]
      | n + 2, h => simp [knd] at h
  | .inr (.inr _) :: r, q, h => by
    cases q with
    | nil => simp [knd] at h
    | cons a q =>
      match a, h with
      | 0, h => simp [knd] at h
      | 1, h => simp [knd] at h
      | 2, h => simp only [knd] at h; simp [knd_len r q h]
      | n + 3, h => simp [knd] at h
theorem Cd_inv {d z : Nat} {av : List AV} {hp : HP} {r : RT} (h : Cd d z av hp = some r) : ∃ d', d = d' + 1 ∧ knd av (sgOf z) = true ∧ rcv z av hp = true ∧ ∃ n, inn (Cd d') z n 0 (ent (mMl z) av) [] hp = some r := by
  cases d with
  | zero => simp [Cd] at h
  | succ d' =>
    rw [Cd_succ] at h
    split at h
    · rename_i g
      simp only [Bool.and_eq_true] at g
      rw [Rr_iff] at h
      exact ⟨d', rfl, g.1, g.2, h⟩
    · cases h
theorem gW_good : GoodIn gW gW := fun w hw => ⟨hw, good_of_word (List.mem_filter.mp hw).2⟩
theorem wsM_good {z : Nat} (hz : z < 302) : GoodIn gW (wsM z) := fun w hw => by
  rcases List.mem_cons.mp hw with rfl | hw
  · exact gW_good _ (mw_ok hz).1.1
  · exact gW_good _ hw
theorem PcO_blind (P : PB) (L : Nat) (xs : Nat → Int32) (av : List AV) (hp : HP) : FrameBlind (PcO P L xs av hp) := fun a U g mk h => ⟨h.1, WD_same (U := U) (T := U.calling g mk a) rfl rfl h.2.1, h.2.2.1, h.2.2.2⟩
theorem wsO_size {P : PB} {hp : HP} {H : Heap} (hK : KX ≤ hp.1.length) (hP : va_P P.2.2.2.1 vwCl (wsO P hp) H) (h0 : P.1 ≤ H.size) : P.1 + (hp.1.length - KX) ≤ H.size := by
  have hl := wsO_len P hp
  by_cases h : hp.1.length - KX = 0
  · omega
  · have hj : KX + (hp.1.length - KX - 1) < hp.1.length := by omega
    have hat : (wsO P hp)[hp.1.length - KX - 1]? = some (P.1 + (hp.1.length - KX - 1), entE P hp.2 (KX + (hp.1.length - KX - 1)) hp.1[KX + (hp.1.length - KX - 1)]) := by
      rw [wsO_at, List.getElem?_eq_getElem hj]; rfl
    have h1 : P.1 + (hp.1.length - KX - 1) < H.size := (hP _ _ hat).lt
    omega
theorem rcv_inv {z : Nat} {av : List AV} {hp : HP} (h : rcv z av hp = true) (hs : (skT[z]?).getD 9 ≠ 0) (hz : z < 302) : ∃ o q av', av = vA o :: av' ∧ gS hp o = some q ∧ q.1 = (tgT[z]?).getD 999 := by
  unfold rcv at h
  have hl : skT[z]? = some ((skT[z]?).getD 9) := by
    cases g : skT[z]? with
    | none =>
      exfalso
      have h1 := List.getElem?_eq_none_iff.mp g
      have h2 : skT.length = 303 := by decide +kernel
      omega
    | some a => rfl
  rw [hl] at h
  simp only [Option.getD_some] at h
  generalize hk : (skT[z]?).getD 9 = kk at h hs
  cases kk with
  | zero => exact absurd rfl hs
  | succ n =>
    match av, h with
    | .inr (.inr o) :: av', h =>
      simp only at h
      cases hq : gS hp o with
      | none => rw [hq] at h; cases h
      | some q => rw [hq] at h; exact ⟨o, q, av', rfl, hq, Nat.eq_of_beq_eq_true h⟩
    | [], h => cases h
    | .inl _ :: _, h => cases h
    | .inr (.inl _) :: _, h => cases h
section SIM
variable {p : Program} {l : Launch} {e : Env} {R : Room} {s : State} {m : MethodId} {args : Array Value} {below : List Frame} {meth : Method} {c : Code} {Q : State → Prop} {P : PB} {y L d n0 z0 : Nat} {xs : Nat → Int32} {r : RT}
theorem call_go {H : Heap} {locs : List Loc} {cells slots mc ms pc : Nat} {ls : Array Slot} {rest st0 : List Value} {a : Array Value} {rr : RT} (hr : va_Run p l e R s m args below meth c H locs cells slots mc ms (F0 m pc ls st0) rest (QcO P rr a) (RG P)) (hS : va_S (RG P) s.heap H locs)
    (kk : ∀ (H1 : Heap) (locs1 : List Loc), va_P P.2.2.2.1 vwCl (wsO P rr.2) H1 → va_S (RG P) s.heap H1 locs1 → W p l e R s m args below meth c H1 locs1 (cells + mc) (slots + ms) Q (F0 m (pc + 3) ls ((rr.1.map (cv P)).head?.toList ++ rest))) : W p l e R s m args below meth c H locs cells slots Q (F0 m pc ls st0) := by
  intro T hT X
  obtain ⟨v, st₀, t, T', L, h0, X', hL, e1, e2, ⟨hv, hp, hz, hk⟩, st⟩ := hr T hT X
  cases hv
  rw [h0] at hz hk
  obtain ⟨t2, a1, b1⟩ := kk T'.heap (locs ++ L) (by rw [e1]; exact hp)
    ⟨Nat.le_trans hS.1 (by rw [e1]; exact hz), fun q h1 h2 => by rw [e1, hk q (Nat.lt_of_lt_of_le h1 hS.1) h2]; exact hS.2.1 q h1 h2, fun q hq => by
      rcases List.mem_append.mp hq with h | h
      · exact hS.2.2 q h
      · exact hL q h⟩ T' rfl X'
  exact ⟨t2, st t2 a1, b1⟩
/-- a call with more below it on the stack than eight words -/
theorem wrunV {H : Heap} {locs : List Loc} {cells slots : Nat} {yn : MethodName} {bytes cc : ByteArray} {maxL nL mc ms n index : Nat} {ret : Option FieldType} {ws : List Jvm.Cond} {rm : Room} {Pc : Array Value → State → Prop} {Qc : Array Value → State → Outcome → State → Prop} {free : Addr → Prop} {Ts : List Jvm.Cond} {own Cn : String} {b : Addr} {As rest : List Value} {g : JFrame} {Wd : Nat}
    (S : CallFix p m c cc nL s args Ts own) (hM : Met l yn ws rm Pc Qc mc ms free) (cw : CallW R s args own Cn index yn bytes maxL ret ws rm mc ms n) (hlo : Wd + (maxL + 11) + rm.locals ≤ R.locals) (hp : PreV s H Cn b Pc As)
    (hg : g.method = m) (hn : As.length = n) (hsize : g.locals.size = nL) (hstack : g.stack = As.reverse ++ .ref b :: rest) (hW : 2 * g.monitorRoom + (rest.map fun v => v.category).sum ≤ Wd) (hdg : decode cc g.pc = .ok (.invokevirtual index, 3)) (hf : cells + mc ≤ R.cells ∧ slots + ms ≤ R.slots) :
    va_Run p l e R s m args below meth c H locs cells slots mc ms g rest (Qc (Value.ref b :: As).toArray) free := by
  obtain ⟨⟨c1, c2, c3, -, c5, c6, hcode, hini, hy, hlen, hl⟩, hin, hse⟩ := cw
  have hK : Back l R p e below s args yn 3 Wd (PreOf R mc ms Pc) (PostOf Qc mc ms free) := back_of (bytes := bytes) (maxL := maxL) (ret := ret) hM hp.1 c1 c2 c3 hlo c5 c6 (fun a' U hW => word_at hW (Or.inl (by first | rfl | simp [Cond.onTables, Cond.keeps, Cond.steady])) hini)
  obtain ⟨hx, hb, hml, ho, -⟩ := S
  obtain ⟨-, ⟨cellB, hcB, hoB, hclB⟩, hPc⟩ := hp
  intro T hT X
  obtain ⟨v, vm₁, ⟨U', l2, c2, s2⟩, hW₁, X', ⟨g', mk, t, L, e1, e2, hq, h1, hL, h2, h3⟩, st⟩ := callV X hx (C := Cn) (bytes := bytes) (maxL := maxL) (ret := ret) ho hl hin hse hcode hy hK (by rw [hT]; exact hcB) hoB hclB hg (hsize.trans hml.symm) (argsL := As) (rest := rest) (fun sig h => hn.trans (hlen sig h)) hstack hW (by rw [hb]; exact hdg)
    (fun vm₁ hW₁ => ⟨hf.1, hf.2, hPc (T.setVm vm₁) hT hW₁⟩)
  dsimp only [Pt.U, Pt.locs, Pt.cells, Pt.slots] at X' e1 e2 h1 h2 h3 st
  subst h1; subst h2; subst h3
  exact ⟨v, (T.setVm vm₁).calling g' mk (Value.ref b :: As).toArray, t, U', L, hT, X', hL, e1, e2, hq, st⟩
theorem head_1 {rs : List AV} (h : rs.length ≤ 1) (P : PB) : (rs.map (cv P)).head?.toList = rs.map (cv P) := by
  match rs, h with
  | [], _ => rfl
  | [_], _ => rfl
  | _ :: _ :: _, h => simp at h
set_option maxHeartbeats 4000000 in
theorem sim_call (C : CX p R s m args meth c P y L d n0 z0 xs r) (hM : MetOK l d) (hF : WfOK d) {pc a b cc x : Nat} {z : Int} {ls : LVs} {st : List AV} {hp : HP} {rr : RT} (hc : cdAt y pc = some (67, a, b, cc, x, z)) (hwid : wid (st.drop b) ≤ wlim z) (hcd : Cd d a (st.take b).reverse hp = some rr) (hr1 : rr.1.length ≤ 1) (hgr : Gr rr.2 r.2)
    (hk : KJ p l e R s m args below meth c Q P y L n0 z0 xs r (pc + 1) ls (rr.1 ++ st.drop b) rr.2) : KJ p l e R s m args below meth c Q P y L n0 z0 xs r pc ls st hp := by
  obtain ⟨hx, hb, hml, hown, hts, hWD, hsz, hn0, hmn, hfr, hlo, hce, hsl⟩ := C
  have hq := hWD.2.2.2
  have hKK := hWD.2.2.1.1
  intro hI
  have hw := hI.2.2.2.1
  obtain ⟨hd, hok, hwd, hof⟩ := at_ok hc (by simp)
  simp only [okR, Bool.and_eq_true, decide_eq_true_eq] at hok
  obtain ⟨⟨⟨⟨ha, hz0, hz6⟩, hbn⟩, hsk⟩, -⟩ := hok
  obtain ⟨⟨k1, k2, k3⟩, ⟨k4, k5, k6, k7, k8⟩, k9⟩ := mw_ok ha
  obtain ⟨d', rfl, hkn, hrc, -⟩ := Cd_inv hcd
  have hlen : (st.take b).reverse.length = (sgOf a).length := knd_len _ _ hkn
  have hgr0 := Gr_len (Cd_gr _ _ _ _ _ hcd)
  have hgr1 := Gr_len hgr
  have hg1 := hI.2.2.2.2.1
  have hg2 := hI.2.2.2.2.2
  have hwa : ∀ v ∈ (st.take b).reverse, wfv v := fun v hv => hI.2.2.1 v (List.mem_of_mem_take (List.mem_reverse.mp hv))
  have hwR := hF p e s args below meth c P L n0 xs hx hts hWD hsz hn0 a _ hp rr ha hcd hw hg1 hwa
  obtain ⟨hR, hW⟩ := hk ⟨hI.1, hI.2.1, fun v hv => (List.mem_append.mp hv).elim (hwR.2 v) (fun h => hI.2.2.1 v (List.mem_of_mem_drop h)), hwR.1, by omega, by omega⟩
  refine ⟨hR, fun H locs lsr hL hP hS => W_sized fun hHs => ?_⟩
  have hHsz : H.size = P.1 + (hp.1.length - KX) := by
    have h1 := wsO_size hw.1.1 hP (by have := hS.1; omega)
    omega
  have hMet := hM a _ hp rr P L xs ha hcd hw hwa
  have hPre : ∀ U : State, U.heap = H → s.WarmedH U.vm → PcO P L xs (st.take b).reverse hp (((st.take b).reverse.map (cv P)).toArray) U := fun U hU hWm => ⟨rfl, WD_mv hWm (fun q h1 h2 => by rw [hU]; exact hS.2.1 q h1 h2) hWD, by rw [hU]; exact hHsz, by rw [hU]; exact hP⟩
  have S : CallFix p m c (mByt y) (mMl y) s args gW (mName y).cls := ⟨hx, hb, hml, hown, hts⟩
  have hWd : 2 * (F0 m (mOff y pc) lsr (st.map (cv P))).monitorRoom + (((st.drop b).map (cv P)).map fun v => v.category).sum ≤ wlim z := by
    show 2 * 0 + _ ≤ wlim z
    rw [wid_eq hq]; omega
  have hroom : (rmO (d' + 1) hp rr.2).frames + 1 ≤ R.frames ∧ 8 + (mMl a + 11) + (rmO (d' + 1) hp rr.2).locals ≤ R.locals := ⟨hfr, by show 8 + (mMl a + 11) + 64 * (d' + 1) ≤ _; omega⟩
  have hf : (hp.1.length - n0) + (rr.2.1.length - hp.1.length) ≤ R.cells ∧ (sl hp.1 - z0) + (sl rr.2.1 - sl hp.1) ≤ R.slots := ⟨by omega, by omega⟩
  have kk : ∀ (H1 : Heap) (locs1 : List Loc), va_P P.2.2.2.1 vwCl (wsO P rr.2) H1 → va_S (RG P) s.heap H1 locs1 → mOff y (pc + 1) = mOff y pc + 3 → W p l e R s m args below meth c H1 locs1 ((hp.1.length - n0) + (rr.2.1.length - hp.1.length)) ((sl hp.1 - z0) + (sl rr.2.1 - sl hp.1)) Q (F0 m (mOff y pc + 3) lsr ((rr.1.map (cv P)).head?.toList ++ (st.drop b).map (cv P))) := fun H1 locs1 g1 g2 g3 =>
    W.eq (F0_eq g3.symm (by rw [head_1 hr1, List.map_append])) (W.cs (by omega) (by omega) (hW H1 locs1 lsr hL g1 g2))
  have hstk : ∀ (av : List AV), (st.take b).reverse = av → st.map (cv P) = (av.map (cv P)).reverse ++ (st.drop b).map (cv P) := fun av hav => by
    rw [← hav, ← List.map_reverse, List.reverse_reverse, ← List.map_append, List.take_append_drop]
  have hrecv : (skT[a]?).getD 9 ≠ 0 → ((tgT[a]?).getD 999 < 13 ∨ (tgT[a]?).getD 999 = 50) → ∃ (o : Int) (av' : List AV), (st.take b).reverse = vA o :: av' ∧ cvA P o = .ref (ad P o.toNat) ∧ (ownN ((tgT[a]?).getD 999) = (mName a).cls → ∃ cellB : Cell, H[ad P o.toNat]? = some cellB ∧ cellB.vm.isStatics = false ∧ s.vm.findClass (mName a).cls = some cellB.cls) := by
    intro h0 ht
    obtain ⟨o, ⟨t, n⟩, av', e1, e2, e3⟩ := rcv_inv hrc h0 ha
    obtain ⟨g1, g2⟩ := gS_inv e2
    have e3 : t = (tgT[a]?).getD 999 := e3
    rw [← e3] at ht ⊢
    by_cases hi : KX ≤ o.toNat
    · refine ⟨o, av', e1, cvA_ge g1 hi, fun hn => ?_⟩
      have hoc := hw.2.2.2 _ _ hi g2
      have ht13 : t < 13 := by rcases okC_tags hoc with h | h | h | h | h | h <;> omega
      obtain ⟨⟨r0, hr0, -⟩, -⟩ := okC_o ht13 hoc
      have hnm : r0.1 = (mName a).cls := by rw [← hn]; simp only [ownN, if_neg (show ¬ t = 50 by omega), clsN, hr0]
      rw [← hnm]
      exact va_recv hKK hP hr0 (q0 := o.toNat - KX) (by rw [wsO_get hi g2, entE_o ht13])
    · have ht50 : ∃ a', a' < 12 ∧ o.toNat = 5 + 2 * a' ∧ t = 50 := by
        rcases x_at hw (by omega) g2 with ⟨-, h⟩ | ⟨-, h⟩ | ⟨a', -, -, h⟩ | ⟨a', h1, h2, h⟩ | ⟨a', -, -, h⟩ <;> cases h
        · omega
        · omega
        · omega
        · exact ⟨a', h1, h2, rfl⟩
        · omega
      obtain ⟨a', h1, h2, h3⟩ := ht50
      refine ⟨o, av', e1, cvA_pos (by omega) (by omega), fun hn => ?_⟩
      have hnm : (mName a).cls = "java/lang/String" := by rw [← hn, h3]; rfl
      rw [hnm, show ad P o.toNat = P.2.1 (5 + 2 * a') by rw [h2, ad, if_pos (by omega)]]
      exact va_Orecv (hWD.2.2.1.2.2.2.2.2.1.1 a' h1).1 hS
  have hlk : ∀ {w : Jvm.Cond}, w ∈ lw_tbl → goodWord w = true → w.before args s = true := fun h1 h2 => hts _ (List.mem_filter.mpr ⟨h1, h2⟩)
  have hdd : (mName a).cls ≠ "java/lang/invoke/MethodHandle" ∧ (mName a).cls ≠ "java/lang/invoke/VarHandle" ∧ (parseMethodDescriptor (mName a).desc).map (fun d => d.parameters.length) = some ((npT[a]?).getD 0) := ⟨k4.1, k4.2, k5⟩
  rcases (show z = 0 ∨ z = 1 ∨ z = 2 ∨ z = 3 ∨ z = 4 ∨ z = 5 by omega) with rfl | rfl | rfl | rfl | rfl | rfl
  · have hd : decode (mByt y) (mOff y pc) = .ok (.invokevirtual x, 3) := hd
    have hof : mOff y (pc + 1) = mOff y pc + 3 := hof
    obtain ⟨w, hw1, hw2⟩ := hwd rfl
    have hw2 : some (Jvm.Cond.methodLink (mName y).cls x (mName a)) = some w := hw2
    cases hw2
    have hsk : (skT[a]?).getD 9 = 1 := hsk
    rcases k9 with ⟨g, -⟩ | ⟨-, i1, i2, i3, i4⟩ | ⟨g, -⟩
    case inl => omega
    case inr.inr => omega
    obtain ⟨o, av', e1, e2, e3⟩ := hrecv (by omega) i4
    have hnn : (av'.map (cv P)).length = (npT[a]?).getD 0 := by rw [e1] at hlen; rw [List.length_map]; rw [k8, if_neg (by omega)] at hlen; simp at hlen; omega
    have hst : st.map (cv P) = (av'.map (cv P)).reverse ++ .ref (ad P o.toNat) :: (st.drop b).map (cv P) := by rw [hstk _ e1, List.map_cons, show cv P (vA o) = cvA P o from rfl, e2]; simp
    have hPr : ∀ U : State, U.heap = H → s.WarmedH U.vm → PcO P L xs (st.take b).reverse hp (Value.ref (ad P o.toNat) :: av'.map (cv P)).toArray U := fun U hU hWm => by
      rw [show (Value.ref (ad P o.toNat) :: av'.map (cv P)).toArray = ((st.take b).reverse.map (cv P)).toArray from by rw [e1, List.map_cons, show cv P (vA o) = cvA P o from rfl, e2]]; exact hPre U hU hWm
    exact call_go (rest := (st.drop b).map (cv P)) (wrunV (Wd := 16) (As := av'.map (cv P)) (b := ad P o.toNat) (g := F0 m (mOff y pc) lsr (st.map (cv P))) S hMet ⟨callB_of ((npT[a]?).getD 0) hts (wsM_good ha) rfl rfl rfl (hts _ k2) (hlk hw1 rfl) hdd hroom, hts _ i1, hts _ i2⟩ (by show 16 + (mMl a + 11) + 64 * (d' + 1) ≤ _; omega) ⟨PcO_blind P L xs _ hp, e3 i3, hPr⟩ rfl hnn hL.1 hst hWd hd hf) hS (fun H1 locs1 g1 g2 => kk H1 locs1 g1 g2 hof)
  · have hd : decode (mByt y) (mOff y pc) = .ok (.invokestatic x, 3) := hd
    have hof : mOff y (pc + 1) = mOff y pc + 3 := hof
    obtain ⟨w, hw1, hw2⟩ := hwd rfl
    have hw2 : some (Jvm.Cond.methodLink (mName y).cls x (mName a)) = some w := hw2
    cases hw2
    have hsk : (skT[a]?).getD 9 = 0 := hsk
    rcases k9 with ⟨-, i1⟩ | ⟨g, -⟩ | ⟨g, -⟩
    case inr.inl => omega
    case inr.inr => omega
    have hnn : ((st.take b).reverse.map (cv P)).length = (npT[a]?).getD 0 := by rw [List.length_map, hlen, k8, if_pos hsk]; omega
    exact call_go (rest := (st.drop b).map (cv P)) (va_runS (As := (st.take b).reverse.map (cv P)) (g := F0 m (mOff y pc) lsr (st.map (cv P))) S hMet ⟨callB_of ((npT[a]?).getD 0) hts (wsM_good ha) rfl rfl rfl (hts _ k2) (hlk hw1 rfl) hdd hroom, hts _ i1⟩ ⟨PcO_blind P L xs _ hp, hPre⟩ rfl hnn hL.1 (hstk _ rfl) hWd hd hf) hS (fun H1 locs1 g1 g2 => kk H1 locs1 g1 g2 hof)
  · have hd : decode (mByt y) (mOff y pc) = .ok (.invokespecial x, 3) := hd
    have hof : mOff y (pc + 1) = mOff y pc + 3 := hof
    obtain ⟨w, hw1, hw2⟩ := hwd rfl
    have hw2 : some (Jvm.Cond.methodLink (mName y).cls x (mName a)) = some w := hw2
    cases hw2
    have hsk : (skT[a]?).getD 9 = 2 := hsk
    rcases k9 with ⟨g, -⟩ | ⟨g, -⟩ | ⟨-, i1, i2, i3, i4⟩
    case inl => omega
    case inr.inl => omega
    obtain ⟨o, av', e1, e2, -⟩ := hrecv (by omega) (Or.inl i4)
    have hnn : (av'.map (cv P)).length = (npT[a]?).getD 0 := by rw [e1] at hlen; rw [List.length_map]; rw [k8, if_neg (by omega)] at hlen; simp at hlen; omega
    have hst : st.map (cv P) = (av'.map (cv P)).reverse ++ .ref (ad P o.toNat) :: (st.drop b).map (cv P) := by rw [hstk _ e1, List.map_cons, show cv P (vA o) = cvA P o from rfl, e2]; simp
    have hPr : ∀ U : State, U.heap = H → s.WarmedH U.vm → PcO P L xs (st.take b).reverse hp (Value.ref (ad P o.toNat) :: av'.map (cv P)).toArray U := fun U hU hWm => by
      rw [show (Value.ref (ad P o.toNat) :: av'.map (cv P)).toArray = ((st.take b).reverse.map (cv P)).toArray from by rw [e1, List.map_cons, show cv P (vA o) = cvA P o from rfl, e2]]; exact hPre U hU hWm
    exact call_go (rest := (st.drop b).map (cv P)) (va_runI (As := av'.map (cv P)) (b := ad P o.toNat) (g := F0 m (mOff y pc) lsr (st.map (cv P))) S hMet ⟨callB_of ((npT[a]?).getD 0) hts (wsM_good ha) (by unfold wsM; rw [i3]) rfl rfl (hts _ k2) (hlk hw1 rfl) hdd hroom, i2, hts _ i1⟩ ⟨PcO_blind P L xs _ hp, hPr⟩ rfl hnn hL.1 hst hWd hd hf) hS (fun H1 locs1 g1 g2 => kk H1 locs1 g1 g2 hof)
  · have hd : decode (mByt y) (mOff y pc) = .ok (.invokevirtual x, 3) := hd
    have hof : mOff y (pc + 1) = mOff y pc + 3 := hof
    obtain ⟨w, hw1, hw2⟩ := hwd rfl
    have hw2 : some (Jvm.Cond.methodLinkNest (mName y).cls x (mName a) "ShownNot") = some w := hw2
    cases hw2
    have hsk : (skT[a]?).getD 9 = 1 := hsk
    rcases k9 with ⟨g, -⟩ | ⟨-, i1, i2, i3, i4⟩ | ⟨g, -⟩
    case inl => omega
    case inr.inr => omega
    obtain ⟨o, av', e1, e2, e3⟩ := hrecv (by omega) i4
    have hnn : (av'.map (cv P)).length = (npT[a]?).getD 0 := by rw [e1] at hlen; rw [List.length_map]; rw [k8, if_neg (by omega)] at hlen; simp at hlen; omega
    have hst : st.map (cv P) = (av'.map (cv P)).reverse ++ .ref (ad P o.toNat) :: (st.drop b).map (cv P) := by rw [hstk _ e1, List.map_cons, show cv P (vA o) = cvA P o from rfl, e2]; simp
    have hPr : ∀ U : State, U.heap = H → s.WarmedH U.vm → PcO P L xs (st.take b).reverse hp (Value.ref (ad P o.toNat) :: av'.map (cv P)).toArray U := fun U hU hWm => by
      rw [show (Value.ref (ad P o.toNat) :: av'.map (cv P)).toArray = ((st.take b).reverse.map (cv P)).toArray from by rw [e1, List.map_cons, show cv P (vA o) = cvA P o from rfl, e2]]; exact hPre U hU hWm
    exact call_go (rest := (st.drop b).map (cv P)) (va_runVN (As := av'.map (cv P)) (b := ad P o.toNat) (g := F0 m (mOff y pc) lsr (st.map (cv P))) S hMet ⟨va_cnB ((npT[a]?).getD 0) hts (wsM_good ha) rfl rfl rfl (hWD.1 _ hw1 rfl) (hts _ k2) hdd hroom, hts _ i1, hts _ i2⟩ ⟨PcO_blind P L xs _ hp, e3 i3, hPr⟩ rfl hnn hL.1 hst hWd hd hf) hS (fun H1 locs1 g1 g2 => kk H1 locs1 g1 g2 hof)
  · have hd : decode (mByt y) (mOff y pc) = .ok (.invokestatic x, 3) := hd
    have hof : mOff y (pc + 1) = mOff y pc + 3 := hof
    obtain ⟨w, hw1, hw2⟩ := hwd rfl
    have hw2 : some (Jvm.Cond.methodLinkNest (mName y).cls x (mName a) "ShownNot") = some w := hw2
    cases hw2
    have hsk : (skT[a]?).getD 9 = 0 := hsk
    rcases k9 with ⟨-, i1⟩ | ⟨g, -⟩ | ⟨g, -⟩
    case inr.inl => omega
    case inr.inr => omega
    have hnn : ((st.take b).reverse.map (cv P)).length = (npT[a]?).getD 0 := by rw [List.length_map, hlen, k8, if_pos hsk]; omega
    exact call_go (rest := (st.drop b).map (cv P)) (va_runSN (As := (st.take b).reverse.map (cv P)) (g := F0 m (mOff y pc) lsr (st.map (cv P))) S hMet ⟨va_cnB ((npT[a]?).getD 0) hts (wsM_good ha) rfl rfl rfl (hWD.1 _ hw1 rfl) (hts _ k2) hdd hroom, hts _ i1, trivial⟩ ⟨PcO_blind P L xs _ hp, hPre⟩ rfl hnn hL.1 (hstk _ rfl) hWd hd hf) hS (fun H1 locs1 g1 g2 => kk H1 locs1 g1 g2 hof)
  · have hd : decode (mByt y) (mOff y pc) = .ok (.invokespecial x, 3) := hd
    have hof : mOff y (pc + 1) = mOff y pc + 3 := hof
    obtain ⟨w, hw1, hw2⟩ := hwd rfl
    have hw2 : some (Jvm.Cond.methodLinkNest (mName y).cls x (mName a) "ShownNot") = some w := hw2
    cases hw2
    have hsk : (skT[a]?).getD 9 = 2 := hsk
    rcases k9 with ⟨g, -⟩ | ⟨g, -⟩ | ⟨-, i1, i2, i3, i4⟩
    case inl => omega
    case inr.inl => omega
    obtain ⟨o, av', e1, e2, -⟩ := hrecv (by omega) (Or.inl i4)
    have hnn : (av'.map (cv P)).length = (npT[a]?).getD 0 := by rw [e1] at hlen; rw [List.length_map]; rw [k8, if_neg (by omega)] at hlen; simp at hlen; omega
    have hst : st.map (cv P) = (av'.map (cv P)).reverse ++ .ref (ad P o.toNat) :: (st.drop b).map (cv P) := by rw [hstk _ e1, List.map_cons, show cv P (vA o) = cvA P o from rfl, e2]; simp
    have hPr : ∀ U : State, U.heap = H → s.WarmedH U.vm → PcO P L xs (st.take b).reverse hp (Value.ref (ad P o.toNat) :: av'.map (cv P)).toArray U := fun U hU hWm => by
      rw [show (Value.ref (ad P o.toNat) :: av'.map (cv P)).toArray = ((st.take b).reverse.map (cv P)).toArray from by rw [e1, List.map_cons, show cv P (vA o) = cvA P o from rfl, e2]]; exact hPre U hU hWm
    exact call_go (rest := (st.drop b).map (cv P)) (va_runIN (As := av'.map (cv P)) (b := ad P o.toNat) (g := F0 m (mOff y pc) lsr (st.map (cv P))) S hMet ⟨va_cnB ((npT[a]?).getD 0) hts (wsM_good ha) (by unfold wsM; rw [i3]) rfl rfl (hWD.1 _ hw1 rfl) (hts _ k2) hdd hroom, i2, hts _ i1⟩ ⟨PcO_blind P L xs _ hp, hPr⟩ rfl hnn hL.1 hst hWd hd hf) hS (fun H1 locs1 g1 g2 => kk H1 locs1 g1 g2 hof)
set_option maxHeartbeats 4000000 in
theorem sim13 (C : CX p R s m args meth c P y L d n0 z0 xs r) (hM : MetOK l d) (hF : WfOK d) {pc : Nat} {ri : RI} {ls : LVs} {st : List AV} {hp : HP} {k : KT} (hc : cdAt y pc = some ri) (hgk : ∀ pc' ls' st' hp', k pc' ls' st' hp' = some r → Gr hp' r.2) (h : sK13 (Cd d) ri pc ls st hp k = some r) (hk : ∀ pc' ls' st' hp', k pc' ls' st' hp' = some r → KJ p l e R s m args below meth c Q P y L n0 z0 xs r pc' ls' st' hp') : KJ p l e R s m args below meth c Q P y L n0 z0 xs r pc ls st hp := by
  unfold sK13 at h
  split at h
  · split at h
    case isFalse => cases h
    rename_i hwd
    obtain ⟨q, h1, h2⟩ := bnd_inv h
    obtain ⟨rr, h3, h4⟩ := bnd_inv h1
    obtain ⟨rs, hp2⟩ := rr
    have h5 : rs = [] ∧ q = hp2 := by
      unfold toV at h4
      split at h4
      · rename_i g; cases h4; exact ⟨g, rfl⟩
      · cases h4
    obtain ⟨rfl, rfl⟩ := h5
    exact sim_call C hM hF hc hwd h3 (by simp) (hgk _ _ _ _ h2) (hk _ _ _ _ h2)
  · split at h
    case isFalse => cases h
    rename_i hwd
    obtain ⟨q, h1, h2⟩ := bnd_inv h
    obtain ⟨rr, h3, h4⟩ := bnd_inv h1
    obtain ⟨rs, hp2⟩ := rr
    have h5 : rs = [vI q.1] ∧ q.2 = hp2 := by
      unfold toI at h4
      split at h4
      · rename_i g; cases h4; exact ⟨g, rfl⟩
      · cases h4
    obtain ⟨rfl, rfl⟩ := h5
    exact sim_call C hM hF hc hwd h3 (by simp) (hgk _ _ _ _ h2) (hk _ _ _ _ h2)
  · split at h
    case isFalse => cases h
    rename_i hwd
    obtain ⟨q, h1, h2⟩ := bnd_inv h
    obtain ⟨rr, h3, h4⟩ := bnd_inv h1
    obtain ⟨rs, hp2⟩ := rr
    have h5 : rs = [vL q.1] ∧ q.2 = hp2 := by
      unfold toL at h4
      split at h4
      · rename_i g; cases h4; exact ⟨g, rfl⟩
      · cases h4
    obtain ⟨rfl, rfl⟩ := h5
    exact sim_call C hM hF hc hwd h3 (by simp) (hgk _ _ _ _ h2) (hk _ _ _ _ h2)
  · split at h
    case isFalse => cases h
    rename_i hwd
    obtain ⟨q, h1, h2⟩ := bnd_inv h
    obtain ⟨rr, h3, h4⟩ := bnd_inv h1
    obtain ⟨rs, hp2⟩ := rr
    have h5 : rs = [vA q.1] ∧ q.2 = hp2 := by
      unfold toA at h4
      split at h4
      · rename_i g; cases h4; exact ⟨g, rfl⟩
      · cases h4
    obtain ⟨rfl, rfl⟩ := h5
    exact sim_call C hM hF hc hwd h3 (by simp) (hgk _ _ _ _ h2) (hk _ _ _ _ h2)
  · cases h
end SIM
