/-! the machine of numbers is sound: what ends there ends so on the real machine -/
theorem entL_len : ∀ (av : List AV) (sg : List Nat), knd av sg = true → (entL av).length = pwd sg
  | [], [], _ => rfl
  | [], _ :: _, h => by simp [knd] at h
  | .inl _ :: r, q, h => by
    cases q with
    | nil => simp [knd] at h
    | cons a q =>
      match a, h with
      | 0, h => simp only [knd] at h; have := entL_len r q h; simp only [entL, List.length_cons, pwd]; omega
      | n + 1, h => simp [knd] at h
  | .inr (.inl _) :: r, q, h => by
    cases q with
    | nil => simp [knd] at h
    | cons a q =>
      match a, h with
      | 0, h => simp [knd] at h
      | 1, h => simp only [knd] at h; have := entL_len r q h; simp only [entL, List.length_cons, pwd]; omega
      | n + 2, h => simp [knd] at h
  | .inr (.inr _) :: r, q, h => by
    cases q with
    | nil => simp [knd] at h
    | cons a q =>
      match a, h with
      | 0, h => simp [knd] at h
      | 1, h => simp [knd] at h
      | 2, h => simp only [knd] at h; have := entL_len r q h; simp only [entL, List.length_cons, pwd]; omega
      | n + 3, h => simp [knd] at h
theorem entL_at : ∀ (av : List AV) (sg : List Nat) (i0 k : Nat) (v : AV), knd av sg = true → (entL av)[k]? = some (some v) → v ∈ av ∧ (isLv v → i0 + k ∈ plg i0 sg)
  | [], [], i0, k, v, _, hk => by simp [entL] at hk
  | [], _ :: _, i0, k, v, h, hk => by simp [knd] at h
  | .inl x :: r, q, i0, k, v, h, hk => by
    cases q with
    | nil => simp [knd] at h
    | cons a q =>
      match a, h with
      | 0, h =>
        simp only [knd] at h
        simp only [entL] at hk
        cases k with
        | zero => simp at hk; subst hk; exact ⟨List.mem_cons_self, fun g => absurd g id⟩
        | succ k =>
          rw [List.getElem?_cons_succ] at hk
          obtain ⟨h1, h2⟩ := entL_at r q (i0 + 1) k v h hk
          exact ⟨List.mem_cons_of_mem _ h1, fun g => by have := h2 g; rw [show i0 + 1 + k = i0 + (k + 1) by omega] at this; exact this⟩
      | n + 1, h => simp [knd] at h
  | .inr (.inl x) :: r, q, i0, k, v, h, hk => by
    cases q with
    | nil => simp [knd] at h
    | cons a q =>
      match a, h with
      | 0, h => simp [knd] at h
      | 1, h =>
        simp only [knd] at h
        simp only [entL] at hk
        match k, hk with
        | 0, hk => simp at hk; subst hk; exact ⟨List.mem_cons_self, fun _ => List.mem_cons_self⟩
        | 1, hk => simp at hk
        | k + 2, hk =>
          rw [List.getElem?_cons_succ, List.getElem?_cons_succ] at hk
          obtain ⟨h1, h2⟩ := entL_at r q (i0 + 2) k v h hk
          exact ⟨List.mem_cons_of_mem _ h1, fun g => by have := h2 g; rw [show i0 + 2 + k = i0 + (k + 2) by omega] at this; exact List.mem_cons_of_mem _ this⟩
      | n + 2, h => simp [knd] at h
  | .inr (.inr x) :: r, q, i0, k, v, h, hk => by
    cases q with
    | nil => simp [knd] at h
    | cons a q =>
      match a, h with
      | 0, h => simp [knd] at h
      | 1, h => simp [knd] at h
      | 2, h =>
        simp only [knd] at h
        simp only [entL] at hk
        cases k with
        | zero => simp at hk; subst hk; exact ⟨List.mem_cons_self, fun g => absurd g id⟩
        | succ k =>
          rw [List.getElem?_cons_succ] at hk
          obtain ⟨h1, h2⟩ := entL_at r q (i0 + 1) k v h hk
          exact ⟨List.mem_cons_of_mem _ h1, fun g => by have := h2 g; rw [show i0 + 1 + k = i0 + (k + 1) by omega] at this; exact this⟩
      | n + 3, h => simp [knd] at h
theorem ent_len {z : Nat} {av : List AV} (hz : z < 303) (h : knd av (sgOf z) = true) : (ent (mMl z) av).length = mMl z := by
  have h1 := (okLg_y hz).2.2
  have h2 := entL_len av _ h
  simp only [ent, List.length_append, List.length_replicate]
  omega
theorem ent_at {z : Nat} {av : List AV} (hz : z < 303) (h : knd av (sgOf z) = true) (hw : ∀ v ∈ av, wfv v) : ∀ i v, gl (ent (mMl z) av) i = some v → wfv v ∧ (isLv v → i ∈ lgOf z) := by
  intro i v hv
  have h1 := gl_some hv
  unfold ent at h1
  by_cases hi : i < (entL av).length
  · rw [List.getElem?_append_left hi] at h1
    obtain ⟨h2, h3⟩ := entL_at av (sgOf z) 0 i v h h1
    refine ⟨hw v h2, fun g => ?_⟩
    have h4 := h3 g
    rw [Nat.zero_add] at h4
    have h5 := List.all_eq_true.mp (okLg_y hz).2.1 i h4
    obtain ⟨q, hq1, hq2⟩ := List.any_eq_true.mp h5
    have : q = i := by simpa using hq2
    rw [← this]; exact hq1
  · rw [List.getElem?_append_right (by omega), List.getElem?_replicate] at h1
    split at h1 <;> simp at h1
theorem asL_none (P : PB) : ∀ (n i : Nat), asL P i (List.replicate n none) = []
  | 0, i => rfl
  | n + 1, i => by rw [List.replicate_succ]; exact asL_none P n (i + 1)
theorem asL_ent {P : PB} (hq : P.2.2.1 = .null ∨ ∃ t, P.2.2.1 = .ref t) (n : Nat) : ∀ (av : List AV) (i : Nat), asL P i (entL av ++ List.replicate n none) = lv_args i (av.map (cv P))
  | [], i => asL_none P n i
  | .inl z :: r, i => by
    have := asL_ent hq n r (i + 1)
    simp only [entL, List.cons_append, asL, List.map_cons, lv_args]
    rw [if_neg (show ¬ (cv P (.inl z)).category = 2 by rw [show (cv P (.inl z)).category = 1 from rfl]; decide), this]
  | .inr (.inl z) :: r, i => by
    have := asL_ent hq n r (i + 2)
    simp only [entL, List.cons_append, asL, List.map_cons, lv_args]
    rw [if_pos (show (cv P (.inr (.inl z))).category = 2 from rfl), ← this]
  | .inr (.inr z) :: r, i => by
    have := asL_ent hq n r (i + 1)
    simp only [entL, List.cons_append, asL, List.map_cons, lv_args]
    rw [if_neg (show ¬ (cv P (.inr (.inr z))).category = 2 by rw [show (cv P (.inr (.inr z))).category = 1 from cat_A hq z]; decide), this]
theorem lg_sl_len {P : PB} (hq : P.2.2.1 = .null ∨ ∃ t, P.2.2.1 = .ref t) : ∀ (av : List AV), (lg_sl (av.map (cv P))).length = (entL av).length
  | [] => rfl
  | .inl z :: r => by
    have := lg_sl_len hq r
    simp only [lg_sl, List.map_cons, List.flatMap_cons, List.length_append, entL, List.length_cons] at this ⊢
    rw [if_neg (show ¬ (cv P (.inl z)).category = 2 by rw [show (cv P (.inl z)).category = 1 from rfl]; decide), this]
    simp; omega
  | .inr (.inl z) :: r => by
    have := lg_sl_len hq r
    simp only [lg_sl, List.map_cons, List.flatMap_cons, List.length_append, entL, List.length_cons] at this ⊢
    rw [if_pos (show (cv P (.inr (.inl z))).category = 2 from rfl), this]
    simp; omega
  | .inr (.inr z) :: r => by
    have := lg_sl_len hq r
    simp only [lg_sl, List.map_cons, List.flatMap_cons, List.length_append, entL, List.length_cons] at this ⊢
    rw [if_neg (show ¬ (cv P (.inr (.inr z))).category = 2 by rw [show (cv P (.inr (.inr z))).category = 1 from cat_A hq z]; decide), this]
    simp; omega
theorem LR_ent {P : PB} {z : Nat} {av : List AV} (hq : P.2.2.1 = .null ∨ ∃ t, P.2.2.1 = .ref t) (hz : z < 303) (h : knd av (sgOf z) = true) : LR P z (ent (mMl z) av) ((lg_sl (av.map (cv P)) ++ List.replicate (mMl z - (lg_sl (av.map (cv P))).length) Slot.unset).toArray) := by
  have h1 := (okLg_y hz).2.2
  have h2 := entL_len av _ h
  have h3 := lg_sl_len hq av
  unfold LR ent
  rw [asL_ent hq]
  exact lv_entry _ (by omega)
def RetOK (p : Program) (l : Launch) (e : Env) (R : Room) (s : State) (m : MethodId) (args : Array Value) (below : List Frame) (meth : Method) (c : Code) (Q : State → Prop) (P : PB) (y n0 z0 : Nat) (r : RT) : Prop :=
  ∀ (pc : Nat) (ri : RI) (H : Heap) (locs : List Loc) (lsr : Array Slot), cdAt y pc = some ri → retOK ri r.1 → va_P P.2.2.2.1 vwCl (wsO P r.2) H → va_S (RG P) s.heap H locs → W p l e R s m args below meth c H locs (r.2.1.length - n0) (sl r.2.1 - z0) Q (F0 m (mOff y pc) lsr (r.1.map (cv P)))
theorem core {l : Launch} {d : Nat} (hM : MetOK l d) (hF : WfOK d) {p : Program} {e : Env} {R : Room} {s : State} {m : MethodId} {args : Array Value} {below : List Frame} {meth : Method} {c : Code} {Q : State → Prop} {P : PB} {y L n0 z0 : Nat} {xs : Nat → Int32} {r : RT} (C : CX p R s m args meth c P y L d n0 z0 xs r)
    (hRet : RetOK p l e R s m args below meth c Q P y n0 z0 r) : ∀ (n pc : Nat) (ls : LVs) (st : List AV) (hp : HP), inn (Cd d) y n pc ls st hp = some r → KJ p l e R s m args below meth c Q P y L n0 z0 xs r pc ls st hp
  | 0, pc, ls, st, hp, h => by simp [inn] at h
  | n + 1, pc, ls, st, hp, h => by
    have ih := core hM hF C hRet n
    have hgk : ∀ pc' ls' st' hp', inn (Cd d) y n pc' ls' st' hp' = some r → Gr hp' r.2 := fun pc' ls' st' hp' h => inn_gr (Cd d) (Cd_gr d) y n _ _ _ _ _ h
    rw [inn_succ] at h
    cases hc : cdAt y pc with
    | none => rw [hc] at h; cases h
    | some ri =>
      rw [hc] at h
      simp only at h
      unfold stp at h
      cases g0 : Nat.ble ri.1 4 with
      | true => rw [g0] at h; exact sim0 C hc h ih
      | false =>
      rw [g0] at h
      simp only at h
      cases g1 : Nat.ble ri.1 11 with
      | true => rw [g1] at h; exact sim1 C hc h ih
      | false =>
      rw [g1] at h
      simp only at h
      cases g2 : Nat.ble ri.1 13 with
      | true => rw [g2] at h; exact sim2 C hc h ih
      | false =>
      rw [g2] at h
      simp only at h
      cases g3 : Nat.ble ri.1 22 with
      | true => rw [g3] at h; exact sim3 C hc h ih
      | false =>
      rw [g3] at h
      simp only at h
      cases g4 : Nat.ble ri.1 28 with
      | true => rw [g4] at h; exact sim4 C hc h ih
      | false =>
      rw [g4] at h
      simp only at h
      cases g5 : Nat.ble ri.1 34 with
      | true => rw [g5] at h; exact sim5 C hc h ih
      | false =>
      rw [g5] at h
      simp only at h
      cases g6 : Nat.ble ri.1 42 with
      | true => rw [g6] at h; exact sim6 C hc h ih
      | false =>
      rw [g6] at h
      simp only at h
      cases g7 : Nat.ble ri.1 49 with
      | true => rw [g7] at h; exact sim7 C hc h ih
      | false =>
      rw [g7] at h
      simp only at h
      cases g8 : Nat.ble ri.1 52 with
      | true => rw [g8] at h; exact sim8 C hc h ih
      | false =>
      rw [g8] at h
      simp only at h
      cases g9 : Nat.ble ri.1 53 with
      | true => rw [g9] at h; exact sim9 C hc h ih
      | false =>
      rw [g9] at h
      simp only at h
      cases g10 : Nat.ble ri.1 54 with
      | true => rw [g10] at h; exact sim10 C hc h ih
      | false =>
      rw [g10] at h
      simp only at h
      cases g11 : Nat.ble ri.1 59 with
      | true => rw [g11] at h; exact sim11 C hc h ih
      | false =>
      rw [g11] at h
      simp only at h
      cases g12 : Nat.ble ri.1 66 with
      | true => rw [g12] at h; exact sim12 C hc hRet h ih
      | false =>
      rw [g12] at h
      simp only at h
      cases g13 : Nat.ble ri.1 67 with
      | true => rw [g13] at h; exact sim13 C hM hF hc hgk h ih
      | false =>
      rw [g13] at h
      simp only at h
      exact sim14 C hc hgk h ih
theorem nar_c {x : Int} (h1 : 0 ≤ x) (h2 : x < 65536) : narrow .char (.int (Int32.ofInt x)) = .int (Int32.ofInt x) := by
  have e : (Int32.ofInt x).toInt = x := t_i ⟨by omega, by omega⟩
  show Value.int _ = Value.int _
  rw [lg_i2c_small (by rw [e]; exact h1) (by rw [e]; exact h2)]
theorem nar_b {x : Int} (h1 : -128 ≤ x) (h2 : x < 128) : narrow .byte (.int (Int32.ofInt x)) = .int (Int32.ofInt x) := by
  have e : (Int32.ofInt x).toInt = x := t_i ⟨by omega, by omega⟩
  have e2 : (Int32.ofInt x).toInt8.toInt32 = Int32.ofInt x := by
    rw [← Int32.toInt_inj, Int8.toInt_toInt32, Int32.toInt_toInt8, e]
    unfold Int.bmod
    simp only
    split <;> omega
  show Value.int _ = Value.int _
  rw [e2]
theorem WfOK_succ {l : Launch} {d : Nat} (hM : MetOK l d) (hF : WfOK d) : WfOK (d + 1) := by
  intro p e s args below meth c P L n0 xs hx hts hWD hsz hn0 z av hp r hz hcd hw hn1 hwa
  obtain ⟨d', hd', hkn, hrc, n, hn⟩ := Cd_inv hcd
  cases hd'
  obtain ⟨⟨k1, k2, k3⟩, ⟨k4, k5, k6, k7, k8⟩, k9⟩ := mw_ok hz
  obtain ⟨mk, hnamed⟩ := Cond.code_named (hts _ k1)
  have hown := findClass_of_methodNamed hnamed
  have C : CX p { frames := d + 1, cells := r.2.1.length, slots := sl r.2.1, locals := 64 * (d + 1) } s mk args { meth with name := (mName z).name } { c with code := mByt z, maxLocals := mMl z } P z L d n0 0 xs r := ⟨hx, rfl, rfl, hown, hts, hWD, hsz, hn0, Or.inl rfl, Nat.le_refl _, Nat.le_refl _, Nat.sub_le _ _, Nat.sub_le _ _⟩
  have K := core (l := l) (e := e) (below := below) (Q := fun _ => True) hM hF C (fun _ _ _ _ _ _ _ _ _ T _ _ => ⟨_, Steps.refl _, trivial⟩) n 0 _ _ _ hn
  exact (K ⟨ent_len (by omega) hkn, ent_at (by omega) hkn hwa, fun _ h => absurd h List.not_mem_nil, hw, hn1, Nat.zero_le _⟩).1
theorem Met_ofF {l : Launch} {y : MethodName} {ws ws' : List Jvm.Cond} {rm : Room} {Pc : Array Value → State → Prop} {Qc : Array Value → State → Outcome → State → Prop} {mc ms : Nat} {free : Addr → Prop} {cc : ByteArray} {maxL : Nat} {ret : Option FieldType}
    (hy : plainFor y = true) (hw : ws = Jvm.Cond.code y cc maxL ret :: ws')
    (body : ∀ p e s m args below meth c s₁, BodyLoose p l y (headSpec ws rm) cc maxL ret e s m args below meth c s₁ → c.maxLocals = maxL → Pc args s →
      W p l e (headSpec ws rm).room s m args below meth c s.heap [] 0 0 (MQ below Qc args s mc ms free) (entryFrame m args maxL)) : Met l y ws rm Pc Qc mc ms free := by
  refine MetFree.of_bodySF (code := cc) (maxLocals := maxL) (ret := ret) hy ?_ ?_
  · intro args s m h hn
    obtain ⟨meth, c, h1, h2, h3, h4, h5, h6, -, -⟩ := Cond.code_spec hn (atoms_spec (ws := ws) h _ (by rw [hw]; exact List.mem_cons_self))
    exact ⟨meth, c, h1, h2, h3, h4, h5, h6⟩
  · intro p e s m args below meth c s₁ B hml hP _
    have hh0 : s₁.heap = s.heap := by rw [B.state]; rfl
    obtain ⟨t, a1, o, b1, b2, b3⟩ := body p e s m args below meth c s₁ B hml hP s₁ hh0 (Stand.of_body B)
    exact ⟨t, o, a1, b1, b2, ⟨b3.1, b3.2⟩⟩
set_option maxHeartbeats 1000000 in
theorem MetOK_succ {l : Launch} {d : Nat} (hM : MetOK l d) (hF : WfOK d) : MetOK l (d + 1) := by
  intro z av hp r P L xs hz hcd hw hwa
  have hgr := Gr_len (Cd_gr _ _ _ _ _ hcd)
  obtain ⟨d', hd', hkn, hrc, n, hn⟩ := Cd_inv hcd
  cases hd'
  obtain ⟨⟨k1, k2, k3⟩, ⟨k4, k5, k6, k7, k8⟩, k9⟩ := mw_ok hz
  refine Met_ofF (cc := mByt z) (maxL := mMl z) (ret := mRet z) k3 rfl ?_
  intro p e s m args below meth c s₁ B hml hPc
  obtain ⟨rfl, hWD, hsz, hP⟩ := hPc
  have hx := B.exec
  have hb := B.bytes
  have hr := B.returns
  have hts : ∀ w ∈ gW, w.before ((av.map (cv P)).toArray) s = true := fun w h => atoms_spec (ws := wsM z) B.pre w (List.mem_cons_of_mem _ h)
  have hown : s.vm.findClass (mName z).cls = some m.cls := findClass_of_methodNamed B.named
  have hlocks := B.notSynchronized
  have hnm : meth.name = (mName z).name := (name_of_methodNamed B.named B.method).1
  have hq := hWD.2.2.2
  have C : CX p (headSpec (wsM z) (rmO (d + 1) hp r.2)).room s m (av.map (cv P)).toArray meth c P z L d hp.1.length (sl hp.1) xs r := ⟨hx, hb, hml, hown, hts, hWD, hsz, hw.1.1, Or.inl hnm, Nat.le_refl _, Nat.le_refl _, Nat.le_refl _, Nat.le_refl _⟩
  have K := core (l := l) (e := e) (below := below) (Q := MQ below (QcO P r) (av.map (cv P)).toArray s (r.2.1.length - hp.1.length) (sl r.2.1 - sl hp.1) (RG P)) hM hF C (fun pc ri H locs lsr hc hret hP2 hS2 => ?_) n 0 _ _ _ hn
  · obtain ⟨-, hW⟩ := K ⟨ent_len (by omega) hkn, ent_at (by omega) hkn hwa, fun _ h => absurd h List.not_mem_nil, hw, Nat.le_refl _, Nat.le_refl _⟩
    have hW := hW s.heap [] _ (LR_ent hq (by omega) hkn) hP va_S.rf
    rw [k7] at hW
    rw [lg_entry_eq]
    exact W.cs (by omega) (by omega) hW
  · have hqc : ∀ t : State, t.heap = H → s.WarmedH t.vm → QcO P r (av.map (cv P)).toArray s (.returned ((r.1.map (cv P)).head?)) t := fun t ht hWm => ⟨rfl, by rw [ht]; exact hP2, hS2.F ht⟩
    rcases hret with ⟨h1, h2⟩ | ⟨h1, x0, h2, h3⟩ | ⟨h1, x0, h2, h3⟩ | ⟨h1, x0, h2, h3⟩ | ⟨h1, x0, h2⟩ | ⟨h1, x0, h2, h3⟩ | ⟨h1, x0, h2, h3⟩
    all_goals
      obtain ⟨o, a, b, cc, x, zz⟩ := ri
      simp only at h1
      subst h1
      obtain ⟨hd, hok, -, -⟩ := at_ok hc (by simp)
      rw [h2] at hqc ⊢
    · have hok : mRet z = none := of_decide_eq_true hok
      exact W.vret hx hb (hr.trans hok) hqc hS2.2.2 hd
    · have hok : mRet z = some .int := of_decide_eq_true hok
      exact W.iret hx hb (hr.trans hok) hqc hS2.2.2 hd
    · have hok : mRet z = some .boolean := of_decide_eq_true hok
      exact W.zret hx hb (hr.trans hok) (by rcases h3 with rfl | rfl <;> rfl) hqc hS2.2.2 hd
    · have hok : mRet z = some .long := of_decide_eq_true hok
      exact W.lret hx hb (hr.trans hok) hqc hS2.2.2 hd
    · have hok : (match mRet z with | some t => isO t | none => false) = true := hok
      cases hm : mRet z with
      | none => rw [hm] at hok; cases hok
      | some t =>
        rw [hm] at hok
        exact W.aret hx hb (hr.trans hm) (by cases t <;> simp [isO] at hok <;> first | exact Or.inl ⟨_, rfl⟩ | exact Or.inr ⟨_, rfl⟩) (cvA_two hq x0) hqc hS2.2.2 hd
    · have hok : mRet z = some .char := of_decide_eq_true hok
      exact W.zret hx hb (hr.trans hok) (nar_c h3.1 h3.2) hqc hS2.2.2 hd
    · have hok : mRet z = some .byte := of_decide_eq_true hok
      exact W.zret hx hb (hr.trans hok) (nar_b h3.1 h3.2) hqc hS2.2.2 hd
theorem MetOK_0 (l : Launch) : MetOK l 0 := by
  intro z av hp r P L xs hz hcd
  simp [Cd] at hcd
theorem WfOK_0 : WfOK 0 := by
  intro p e s args below meth c P L n0 xs hx hts hWD hsz hn0 z av hp r hz hcd
  simp [Cd] at hcd
theorem bothOK (l : Launch) : ∀ d, MetOK l d ∧ WfOK d
  | 0 => ⟨MetOK_0 l, WfOK_0⟩
  | d + 1 => ⟨MetOK_succ (bothOK l d).1 (bothOK l d).2, WfOK_succ (bothOK l d).1 (bothOK l d).2⟩
