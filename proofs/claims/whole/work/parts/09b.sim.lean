/-! the simulation: what holds while a method runs, and the groups of instructions one by one -/
def isNs (w : Jvm.Cond) : Bool := match w with | .methodLinkNest .. => true | .fieldLinkNest .. => true | _ => false
def tysO (P : PB) : List (ClassId × FieldType) := [(P.2.2.2.2 0, .int), (P.2.2.2.2 1, .long), (P.2.2.2.2 2, .boolean), (P.2.2.2.2 3, .object "ShownNot$Chart"), (P.2.2.2.2 4, .object "ShownNot$Showing")]
def lens : List Nat := strT.map String.length
def bytL : List (List Int32) := strT.map fun t => (byts t).map Int32.ofInt
abbrev stA (a : Nat) : String × List Int := (statA[a]?).getD ("", [])
abbrev stN (a : Nat) : String × String × String × Int := (statN[a]?).getD ("", "", "", 0)
abbrev stS (a : Nat) : String := (strT[a]?).getD ""
def fixW (P : PB) (L : Nat) (xs : Nat → Int32) (U : State) (H : Heap) : Prop :=
  va_K P.2.2.2.1 vwCl (tysO P) U ∧ va_T .int (P.2.1 1) L (fun j => .int (xs j)) (RG P) U H ∧
  (∀ a, a < statA.length → va_T .int (P.2.1 (2 + a)) (stA a).2.length (fun j => .int (Int32.ofInt ((stA a).2.getD j 0))) (RG P) U H ∧ va_Z "ShownNot" (stA a).1 "[I" (.ref (P.2.1 (2 + a))) (RG P) U H) ∧
  (∀ a, a < statN.length → va_Z (stN a).1 (stN a).2.1 (stN a).2.2.1 (.int (Int32.ofInt (stN a).2.2.2)) (RG P) U H) ∧
  va_Z "jdk/internal/util/Preconditions" "SIOOBE_FORMATTER" "Ljava/util/function/BiFunction;" P.2.2.1 (RG P) U H ∧
  vk_S 12 lens bytL (fun i => P.2.1 (5 + 2 * i)) (fun i => P.2.1 (6 + 2 * i)) (RG P) U H ∧ va_AO "ShownNot$Chart" U ∧ va_AO "ShownNot$Showing" U
def WD (P : PB) (L : Nat) (xs : Nat → Int32) (U : State) : Prop :=
  (∀ w ∈ lw_tbl, isNs w = true → va_Nw w U) ∧ (∀ (own : String) (x a : Nat), a < strT.length → Jvm.Cond.stringRef own x (stS a) ∈ lw_tbl → vk_R own x (stS a) (P.2.1 (5 + 2 * a)) U) ∧ fixW P L xs U U.heap ∧ (P.2.2.1 = .null ∨ ∃ t, P.2.2.1 = .ref t)
theorem fixW_mv {P : PB} {L : Nat} {xs : Nat → Int32} {U T : State} {H H1 : Heap} (hvm : U.vm.Alike T.vm) (hq : ∀ a : Nat, a < H.size → ¬ RG P a → H1[a]? = H[a]?) (h : fixW P L xs U H) : fixW P L xs T H1 := by
  obtain ⟨h1, h2, h3, h4, h5, h6, h7, h8⟩ := h
  exact ⟨va_K.moved hvm h1, (va_T.moved hvm h2).kept hq, fun a ha => ⟨(va_T.moved hvm (h3 a ha).1).kept hq, (va_Z.moved hvm (h3 a ha).2).kept hq⟩, fun a ha => (va_Z.moved hvm (h4 a ha)).kept hq, (va_Z.moved hvm h5).kept hq, (vk_S.moved hvm h6).kept hq, va_AO.moved hvm h7, va_AO.moved hvm h8⟩
theorem WD_mv {P : PB} {L : Nat} {xs : Nat → Int32} {U T : State} (hW : U.WarmedH T.vm) (hq : ∀ a : Nat, a < U.heap.size → ¬ RG P a → T.heap[a]? = U.heap[a]?) (h : WD P L xs U) : WD P L xs T := by
  refine ⟨fun w hw hn => ?_, fun own x a ha hs => vk_R.warm hW (h.2.1 own x a ha hs), fixW_mv hW.alike hq h.2.2.1, h.2.2.2⟩
  have h0 := h.1 w hw hn
  cases w with
  | methodLinkNest a i x hst => exact va_Nw.warmM hW h0
  | fieldLinkNest a i b n d hst => exact va_Nw.warmF hW h0
  | _ => cases hn
theorem WD_same {P : PB} {L : Nat} {xs : Nat → Int32} {U T : State} (hv : T.vm = U.vm) (hh : T.heap = U.heap) (h : WD P L xs U) : WD P L xs T := by
  have ha : U.vm.Alike T.vm := by rw [hv]; exact Vm.Alike.refl _
  refine ⟨fun w hw hn => ?_, fun own x a ha hs => vk_R.same hv (h.2.1 own x a ha hs), by rw [hh]; exact fixW_mv ha (fun _ _ _ => rfl) h.2.2.1, h.2.2.2⟩
  have h0 := h.1 w hw hn
  cases w with
  | methodLinkNest a i x hst => exact va_Nw.same rfl hv.symm h0
  | fieldLinkNest a i b n d hst => exact va_Nw.same rfl hv.symm h0
  | _ => cases hn
def asL (P : PB) : Nat → LVs → List (Nat × Value)
  | _, [] => []
  | i, none :: r => asL P (i + 1) r
  | i, some v :: r => (i, cv P v) :: asL P (i + 1) r
theorem asL_in (P : PB) : ∀ (ls : LVs) (i k : Nat) (v : AV), ls[k]? = some (some v) → (i + k, cv P v) ∈ asL P i ls
  | [], i, k, v, h => by simp at h
  | none :: r, i, k, v, h => by
    cases k with
    | zero => simp at h
    | succ k =>
      rw [List.getElem?_cons_succ] at h
      have := asL_in P r (i + 1) k v h
      rw [show i + 1 + k = i + (k + 1) by omega] at this
      exact this
  | some w :: r, i, k, v, h => by
    cases k with
    | zero => simp at h; subst h; exact List.mem_cons_self
    | succ k =>
      rw [List.getElem?_cons_succ] at h
      have := asL_in P r (i + 1) k v h
      rw [show i + 1 + k = i + (k + 1) by omega] at this
      exact List.mem_cons_of_mem _ this
theorem asL_of (P : PB) : ∀ (ls : LVs) (i : Nat) (q : Nat × Value), q ∈ asL P i ls → ∃ k v, ls[k]? = some (some v) ∧ q = (i + k, cv P v)
  | [], i, q, h => by cases h
  | none :: r, i, q, h => by
    obtain ⟨k, v, h1, h2⟩ := asL_of P r (i + 1) q h
    exact ⟨k + 1, v, by rw [List.getElem?_cons_succ]; exact h1, by rw [h2, show i + 1 + k = i + (k + 1) by omega]⟩
  | some w :: r, i, q, h => by
    rcases List.mem_cons.mp h with rfl | h
    · exact ⟨0, w, rfl, rfl⟩
    · obtain ⟨k, v, h1, h2⟩ := asL_of P r (i + 1) q h
      exact ⟨k + 1, v, by rw [List.getElem?_cons_succ]; exact h1, by rw [h2, show i + 1 + k = i + (k + 1) by omega]⟩
theorem gl_some {ls : LVs} {i : Nat} {v : AV} (h : gl ls i = some v) : ls[i]? = some (some v) := by
  unfold gl at h
  cases hi : ls[i]? with
  | none => rw [hi] at h; cases h
  | some q => rw [hi] at h; simp at h; rw [h]
def LR (P : PB) (y : Nat) (ls : LVs) (lsr : Array Slot) : Prop := lv_has lsr (mMl y) (asL P 0 ls)
theorem LR_at {P : PB} {y : Nat} {ls : LVs} {lsr : Array Slot} {i : Nat} {v : AV} (h : LR P y ls lsr) (hv : gl ls i = some v) : lsr[i]? = some (.val (cv P v)) := by
  have := asL_in P ls 0 i v (gl_some hv)
  rw [Nat.zero_add] at this
  exact h.2.2 _ this
def wfR (L : Nat) (xs : Nat → Int32) (r : RT) : Prop := wfH L xs r.2 ∧ ∀ v ∈ r.1, wfv v
def isLv (v : AV) : Prop := match v with | .inr (.inl _) => True | _ => False
def sl (S : List (Nat × Nat)) : Nat := (S.map fun q => q.2).sum
def PI (y L n0 z0 : Nat) (xs : Nat → Int32) (ls : LVs) (st : List AV) (hp : HP) : Prop := ls.length = mMl y ∧ (∀ i v, gl ls i = some v → wfv v ∧ (isLv v → i ∈ lgOf y)) ∧ (∀ v ∈ st, wfv v) ∧ (wfH L xs hp ∧ n0 ≤ hp.1.length ∧ z0 ≤ sl hp.1)
def gW : List Jvm.Cond := lw_tbl.filter goodWord
theorem rem32 (x y : Int32) : x - x / y * y = x % y := by
  have a := (x % y).toInt_lt; have b := (x % y).le_toInt
  rw [Int32.toInt_mod] at a b
  rw [← Int32.toInt_inj, Int32.toInt_sub, Int32.toInt_mul, Int32.toInt_div, Int.bmod_mul_bmod, Int.sub_bmod_bmod, Int.mul_comm, ← Int.tmod_def, Int32.toInt_mod]
  exact Jvm.Kit.bmod32 b a
theorem rem64 (x y : Int64) : x - x / y * y = x % y := by
  rw [← Int64.toInt_inj, Jvm.Kit.i64_rem, Int64.toInt_mod]
section SIM
variable {p : Program} {l : Launch} {e : Env} {R : Room} {s : State} {m : MethodId} {args : Array Value} {below : List Frame} {meth : Method} {c : Code} {Q : State → Prop} {P : PB} {y L d n0 z0 : Nat} {xs : Nat → Int32} {r : RT}
/-- what holds of the method throughout -/
def CX (p : Program) (R : Room) (s : State) (m : MethodId) (args : Array Value) (meth : Method) (c : Code) (P : PB) (y L d n0 z0 : Nat) (xs : Nat → Int32) (r : RT) : Prop :=
  p.tables.exec = Jvm.exec ∧ c.code = mByt y ∧ c.maxLocals = mMl y ∧ s.vm.findClass (mName y).cls = some m.cls ∧ (∀ w ∈ gW, w.before args s = true) ∧ WD P L xs s ∧ s.heap.size = P.1 + (n0 - KX) ∧ KX ≤ n0 ∧ (meth.name = (mName y).name ∨ y = 302) ∧ d + 1 ≤ R.frames ∧ 64 * (d + 1) ≤ R.locals ∧ r.2.1.length - n0 ≤ R.cells ∧ sl r.2.1 - z0 ≤ R.slots
def KJ (p : Program) (l : Launch) (e : Env) (R : Room) (s : State) (m : MethodId) (args : Array Value) (below : List Frame) (meth : Method) (c : Code) (Q : State → Prop) (P : PB) (y L n0 z0 : Nat) (xs : Nat → Int32) (r : RT) (pc : Nat) (ls : LVs) (st : List AV) (hp : HP) : Prop :=
  PI y L n0 z0 xs ls st hp → wfR L xs r ∧ ∀ (H : Heap) (locs : List Loc) (lsr : Array Slot), LR P y ls lsr → va_P P.2.2.2.1 vwCl (wsO P hp) H → va_S (RG P) s.heap H locs → W p l e R s m args below meth c H locs (hp.1.length - n0) (sl hp.1 - z0) Q (F0 m (mOff y pc) lsr (st.map (cv P)))
theorem F0_eq {m : MethodId} {a b : Nat} {l : Array Slot} {x z : List Value} (h1 : a = b) (h2 : x = z) : F0 m a l x = F0 m b l z := by subst h1; subst h2; rfl
theorem wf_cons {v : AV} {st : List AV} (h1 : wfv v) (h2 : ∀ w ∈ st, wfv w) : ∀ w ∈ v :: st, wfv w := fun w h => (List.mem_cons.mp h).elim (fun e => e ▸ h1) (h2 w)
theorem wf_tail {v : AV} {st : List AV} (h : ∀ w ∈ v :: st, wfv w) : ∀ w ∈ st, wfv w := fun w hw => h w (List.mem_cons_of_mem _ hw)
theorem wf_head {v : AV} {st : List AV} (h : ∀ w ∈ v :: st, wfv w) : wfv v := h v List.mem_cons_self

theorem e1I_inv {st : List AV} {f : Int → List AV → Option RT} {r : RT} (h : e1I st f = some r) : ∃ x0 q, st = vI x0 :: q ∧ f x0 q = some r := by
  unfold e1I at h
  split at h
  · exact ⟨_, _, rfl, h⟩
  · cases h
theorem e1L_inv {st : List AV} {f : Int → List AV → Option RT} {r : RT} (h : e1L st f = some r) : ∃ x0 q, st = vL x0 :: q ∧ f x0 q = some r := by
  unfold e1L at h
  split at h
  · exact ⟨_, _, rfl, h⟩
  · cases h
theorem e1A_inv {st : List AV} {f : Int → List AV → Option RT} {r : RT} (h : e1A st f = some r) : ∃ x0 q, st = vA x0 :: q ∧ f x0 q = some r := by
  unfold e1A at h
  split at h
  · exact ⟨_, _, rfl, h⟩
  · cases h
theorem e2I_inv {st : List AV} {f : Int → Int → List AV → Option RT} {r : RT} (h : e2I st f = some r) : ∃ x0 x1 q, st = vI x1 :: vI x0 :: q ∧ f x0 x1 q = some r := by
  unfold e2I at h
  split at h
  · exact ⟨_, _, _, rfl, h⟩
  · cases h
theorem e2L_inv {st : List AV} {f : Int → Int → List AV → Option RT} {r : RT} (h : e2L st f = some r) : ∃ x0 x1 q, st = vL x1 :: vL x0 :: q ∧ f x0 x1 q = some r := by
  unfold e2L at h
  split at h
  · exact ⟨_, _, _, rfl, h⟩
  · cases h
theorem eLI_inv {st : List AV} {f : Int → Int → List AV → Option RT} {r : RT} (h : eLI st f = some r) : ∃ x0 x1 q, st = vI x1 :: vL x0 :: q ∧ f x0 x1 q = some r := by
  unfold eLI at h
  split at h
  · exact ⟨_, _, _, rfl, h⟩
  · cases h
theorem eIA_inv {st : List AV} {f : Int → Int → List AV → Option RT} {r : RT} (h : eIA st f = some r) : ∃ x0 x1 q, st = vI x1 :: vA x0 :: q ∧ f x0 x1 q = some r := by
  unfold eIA at h
  split at h
  · exact ⟨_, _, _, rfl, h⟩
  · cases h
theorem eLA_inv {st : List AV} {f : Int → Int → List AV → Option RT} {r : RT} (h : eLA st f = some r) : ∃ x0 x1 q, st = vL x1 :: vA x0 :: q ∧ f x0 x1 q = some r := by
  unfold eLA at h
  split at h
  · exact ⟨_, _, _, rfl, h⟩
  · cases h
theorem eAA_inv {st : List AV} {f : Int → Int → List AV → Option RT} {r : RT} (h : eAA st f = some r) : ∃ x0 x1 q, st = vA x1 :: vA x0 :: q ∧ f x0 x1 q = some r := by
  unfold eAA at h
  split at h
  · exact ⟨_, _, _, rfl, h⟩
  · cases h
theorem eIIA_inv {st : List AV} {f : Int → Int → Int → List AV → Option RT} {r : RT} (h : eIIA st f = some r) : ∃ x0 x1 x2 q, st = vI x2 :: vI x1 :: vA x0 :: q ∧ f x0 x1 x2 q = some r := by
  unfold eIIA at h
  split at h
  · exact ⟨_, _, _, _, rfl, h⟩
  · cases h
theorem eLIA_inv {st : List AV} {f : Int → Int → Int → List AV → Option RT} {r : RT} (h : eLIA st f = some r) : ∃ x0 x1 x2 q, st = vL x2 :: vI x1 :: vA x0 :: q ∧ f x0 x1 x2 q = some r := by
  unfold eLIA at h
  split at h
  · exact ⟨_, _, _, _, rfl, h⟩
  · cases h
theorem eAIA_inv {st : List AV} {f : Int → Int → Int → List AV → Option RT} {r : RT} (h : eAIA st f = some r) : ∃ x0 x1 x2 q, st = vA x2 :: vI x1 :: vA x0 :: q ∧ f x0 x1 x2 q = some r := by
  unfold eAIA at h
  split at h
  · exact ⟨_, _, _, _, rfl, h⟩
  · cases h
theorem eCP_inv {st : List AV} {f : Int → Int → Int → Int → Int → List AV → Option RT} {r : RT} (h : eCP st f = some r) : ∃ x0 x1 x2 x3 x4 q, st = vI x4 :: vI x3 :: vA x2 :: vI x1 :: vA x0 :: q ∧ f x0 x1 x2 x3 x4 q = some r := by
  unfold eCP at h
  split at h
  · exact ⟨_, _, _, _, _, _, rfl, h⟩
  · cases h

theorem lI_inv {ls : LVs} {a : Nat} {f : Int → Option RT} {r : RT} (h : lI ls a f = some r) : ∃ x, gl ls a = some (vI x) ∧ f x = some r := by
  unfold lI at h
  split at h
  · rename_i x hx; exact ⟨x, hx, h⟩
  · cases h

theorem lL_inv {ls : LVs} {a : Nat} {f : Int → Option RT} {r : RT} (h : lL ls a f = some r) : ∃ x, gl ls a = some (vL x) ∧ f x = some r := by
  unfold lL at h
  split at h
  · rename_i x hx; exact ⟨x, hx, h⟩
  · cases h

theorem lA_inv {ls : LVs} {a : Nat} {f : Int → Option RT} {r : RT} (h : lA ls a f = some r) : ∃ x, gl ls a = some (vA x) ∧ f x = some r := by
  unfold lA at h
  split at h
  · rename_i x hx; exact ⟨x, hx, h⟩
  · cases h

theorem t1_inv {ls : LVs} {a : Nat} {v : AV} {f : LVs → Option RT} {r : RT} (h : t1 ls a v f = some r) : a < ls.length ∧ f (ls.set a (some v)) = some r := by
  unfold t1 at h
  split at h
  · rename_i hb; exact ⟨by simpa [Nat.blt_eq] using hb, h⟩
  · cases h
theorem t2_inv {ls : LVs} {a : Nat} {v : AV} {f : LVs → Option RT} {r : RT} (h : t2 ls a v f = some r) : a + 1 < ls.length ∧ f ((ls.set a (some v)).set (a + 1) none) = some r := by
  unfold t2 at h
  split at h
  · rename_i hb; exact ⟨by simpa [Nat.blt_eq] using hb, h⟩
  · cases h

set_option maxHeartbeats 4000000 in
theorem sim0 (C : CX p R s m args meth c P y L d n0 z0 xs r) {pc : Nat} {ri : RI} {ls : LVs} {st : List AV} {hp : HP} {k : KT} (hc : cdAt y pc = some ri) (h : sK0 (Cd d) ri pc ls st hp k = some r) (hk : ∀ pc' ls' st' hp', k pc' ls' st' hp' = some r → KJ p l e R s m args below meth c Q P y L n0 z0 xs r pc' ls' st' hp') : KJ p l e R s m args below meth c Q P y L n0 z0 xs r pc ls st hp := by
  obtain ⟨hx, hb, hml, hown, hts, hWD, hsz, hn0, hmn, hfr, hlo, hce, hsl⟩ := C
  unfold sK0 at h
  split at h
  · rename_i a b cc x z
    obtain ⟨hd, hok, hwd, hof⟩ := at_ok hc (by simp)
    have hd : decode (mByt y) (mOff y pc) = .ok (.iconst z, 1) := hd
    have hof : mOff y (pc + 1) = mOff y pc + 1 := hof
    simp only [okR, Bool.and_eq_true, decide_eq_true_eq] at hok
    intro hI
    obtain ⟨hR, hW⟩ := hk _ _ _ _ h ⟨hI.1, hI.2.1, wf_cons (show inI z from ⟨hok.1.2, hok.2⟩) hI.2.2.1, hI.2.2.2⟩
    refine ⟨hR, fun H locs lsr hL hP hS => ?_⟩
    refine lv_iconst hx hb hd rfl ?_
    exact W.eq (F0_eq hof.symm rfl) (hW H locs lsr hL hP hS)
  · rename_i a b cc x z
    obtain ⟨hd, hok, hwd, hof⟩ := at_ok hc (by simp)
    have hd : decode (mByt y) (mOff y pc) = .ok (.bipush z, 2) := hd
    have hof : mOff y (pc + 1) = mOff y pc + 2 := hof
    simp only [okR, Bool.and_eq_true, decide_eq_true_eq] at hok
    intro hI
    obtain ⟨hR, hW⟩ := hk _ _ _ _ h ⟨hI.1, hI.2.1, wf_cons (show inI z from ⟨hok.1.2, hok.2⟩) hI.2.2.1, hI.2.2.2⟩
    refine ⟨hR, fun H locs lsr hL hP hS => ?_⟩
    refine lv_bipush hx hb hd hok.1.1 ?_
    exact W.eq (F0_eq hof.symm rfl) (hW H locs lsr hL hP hS)
  · rename_i a b cc x z
    obtain ⟨hd, hok, hwd, hof⟩ := at_ok hc (by simp)
    have hd : decode (mByt y) (mOff y pc) = .ok (.sipush z, 3) := hd
    have hof : mOff y (pc + 1) = mOff y pc + 3 := hof
    simp only [okR, Bool.and_eq_true, decide_eq_true_eq] at hok
    intro hI
    obtain ⟨hR, hW⟩ := hk _ _ _ _ h ⟨hI.1, hI.2.1, wf_cons (show inI z from ⟨hok.1.2, hok.2⟩) hI.2.2.1, hI.2.2.2⟩
    refine ⟨hR, fun H locs lsr hL hP hS => ?_⟩
    refine lv_sipush hx hb hd hok.1.1 ?_
    exact W.eq (F0_eq hof.symm rfl) (hW H locs lsr hL hP hS)
  · rename_i a b cc x z
    obtain ⟨hd, hok, hwd, hof⟩ := at_ok hc (by simp)
    have hd : decode (mByt y) (mOff y pc) = .ok (.ldc x, 2) := hd
    have hof : mOff y (pc + 1) = mOff y pc + 2 := hof
    simp only [okR, Bool.and_eq_true, decide_eq_true_eq] at hok
    intro hI
    obtain ⟨hR, hW⟩ := hk _ _ _ _ h ⟨hI.1, hI.2.1, wf_cons (show inI z from ⟨hok.1, hok.2⟩) hI.2.2.1, hI.2.2.2⟩
    refine ⟨hR, fun H locs lsr hL hP hS => ?_⟩
    obtain ⟨w, hw1, hw2⟩ := hwd rfl
    cases hw2
    refine lv_ldc hx hb hown (hts _ (List.mem_filter.mpr ⟨hw1, rfl⟩)) hd ?_
    exact W.eq (F0_eq hof.symm rfl) (hW H locs lsr hL hP hS)
  · rename_i a b cc x z
    obtain ⟨hd, hok, hwd, hof⟩ := at_ok hc (by simp)
    have hd : decode (mByt y) (mOff y pc) = .ok (.ldc_w x, 3) := hd
    have hof : mOff y (pc + 1) = mOff y pc + 3 := hof
    simp only [okR, Bool.and_eq_true, decide_eq_true_eq] at hok
    intro hI
    obtain ⟨hR, hW⟩ := hk _ _ _ _ h ⟨hI.1, hI.2.1, wf_cons (show inI z from ⟨hok.1, hok.2⟩) hI.2.2.1, hI.2.2.2⟩
    refine ⟨hR, fun H locs lsr hL hP hS => ?_⟩
    obtain ⟨w, hw1, hw2⟩ := hwd rfl
    cases hw2
    refine lv_ldcw hx hb hown (hts _ (List.mem_filter.mpr ⟨hw1, rfl⟩)) hd ?_
    exact W.eq (F0_eq hof.symm rfl) (hW H locs lsr hL hP hS)
  · cases h

set_option maxHeartbeats 4000000 in
theorem sim4 (C : CX p R s m args meth c P y L d n0 z0 xs r) {pc : Nat} {ri : RI} {ls : LVs} {st : List AV} {hp : HP} {k : KT} (hc : cdAt y pc = some ri) (h : sK4 (Cd d) ri pc ls st hp k = some r) (hk : ∀ pc' ls' st' hp', k pc' ls' st' hp' = some r → KJ p l e R s m args below meth c Q P y L n0 z0 xs r pc' ls' st' hp') : KJ p l e R s m args below meth c Q P y L n0 z0 xs r pc ls st hp := by
  obtain ⟨hx, hb, hml, hown, hts, hWD, hsz, hn0, hmn, hfr, hlo, hce, hsl⟩ := C
  unfold sK4 at h
  split at h
  · rename_i a b cc x z
    obtain ⟨hd, hok, hwd, hof⟩ := at_ok hc (by simp)
    have hd : decode (mByt y) (mOff y pc) = .ok (.iadd, 1) := hd
    have hof : mOff y (pc + 1) = mOff y pc + 1 := hof
    intro hI
    obtain ⟨x0, x1, q, rfl, h9⟩ := e2I_inv h
    have w1 : inI x1 := wf_head hI.2.2.1
    have w0 : inI x0 := wf_head (wf_tail hI.2.2.1)
    obtain ⟨hR, hW⟩ := hk _ _ _ _ h9 ⟨hI.1, hI.2.1, wf_cons (show inI (w32 (x0 + x1)) from inI_t _) (wf_tail (wf_tail hI.2.2.1)), hI.2.2.2⟩
    refine ⟨hR, fun H locs lsr hL hP hS => ?_⟩
    refine lv_iadd hx hb hd ?_
    exact W.eq (F0_eq hof.symm (by simp only [List.map_cons, cv, i_w, Int32.ofInt_add])) (hW H locs lsr hL hP hS)
  · rename_i a b cc x z
    obtain ⟨hd, hok, hwd, hof⟩ := at_ok hc (by simp)
    have hd : decode (mByt y) (mOff y pc) = .ok (.isub, 1) := hd
    have hof : mOff y (pc + 1) = mOff y pc + 1 := hof
    intro hI
    obtain ⟨x0, x1, q, rfl, h9⟩ := e2I_inv h
    have w1 : inI x1 := wf_head hI.2.2.1
    have w0 : inI x0 := wf_head (wf_tail hI.2.2.1)
    obtain ⟨hR, hW⟩ := hk _ _ _ _ h9 ⟨hI.1, hI.2.1, wf_cons (show inI (w32 (x0 - x1)) from inI_t _) (wf_tail (wf_tail hI.2.2.1)), hI.2.2.2⟩
    refine ⟨hR, fun H locs lsr hL hP hS => ?_⟩
    refine lv_isub hx hb hd ?_
    exact W.eq (F0_eq hof.symm (by simp only [List.map_cons, cv, i_w, Int32.ofInt_sub])) (hW H locs lsr hL hP hS)
  · rename_i a b cc x z
    obtain ⟨hd, hok, hwd, hof⟩ := at_ok hc (by simp)
    have hd : decode (mByt y) (mOff y pc) = .ok (.imul, 1) := hd
    have hof : mOff y (pc + 1) = mOff y pc + 1 := hof
    intro hI
    obtain ⟨x0, x1, q, rfl, h9⟩ := e2I_inv h
    have w1 : inI x1 := wf_head hI.2.2.1
    have w0 : inI x0 := wf_head (wf_tail hI.2.2.1)
    obtain ⟨hR, hW⟩ := hk _ _ _ _ h9 ⟨hI.1, hI.2.1, wf_cons (show inI (w32 (x0 * x1)) from inI_t _) (wf_tail (wf_tail hI.2.2.1)), hI.2.2.2⟩
    refine ⟨hR, fun H locs lsr hL hP hS => ?_⟩
    refine lv_imul hx hb hd ?_
    exact W.eq (F0_eq hof.symm (by simp only [List.map_cons, cv, i_w, Int32.ofInt_mul])) (hW H locs lsr hL hP hS)
  · rename_i a b cc x z
    obtain ⟨hd, hok, hwd, hof⟩ := at_ok hc (by simp)
    have hd : decode (mByt y) (mOff y pc) = .ok (.iand, 1) := hd
    have hof : mOff y (pc + 1) = mOff y pc + 1 := hof
    intro hI
    obtain ⟨x0, x1, q, rfl, h9⟩ := e2I_inv h
    have w1 : inI x1 := wf_head hI.2.2.1
    have w0 : inI x0 := wf_head (wf_tail hI.2.2.1)
    obtain ⟨hR, hW⟩ := hk _ _ _ _ h9 ⟨hI.1, hI.2.1, wf_cons (show inI (iand x0 x1) from inI_t _) (wf_tail (wf_tail hI.2.2.1)), hI.2.2.2⟩
    refine ⟨hR, fun H locs lsr hL hP hS => ?_⟩
    refine lv_iand hx hb hd ?_
    exact W.eq (F0_eq hof.symm (by simp only [List.map_cons, cv, iand, Int32.ofInt_toInt])) (hW H locs lsr hL hP hS)
  · rename_i a b cc x z
    obtain ⟨hd, hok, hwd, hof⟩ := at_ok hc (by simp)
    have hd : decode (mByt y) (mOff y pc) = .ok (.ior, 1) := hd
    have hof : mOff y (pc + 1) = mOff y pc + 1 := hof
    intro hI
    obtain ⟨x0, x1, q, rfl, h9⟩ := e2I_inv h
    have w1 : inI x1 := wf_head hI.2.2.1
    have w0 : inI x0 := wf_head (wf_tail hI.2.2.1)
    obtain ⟨hR, hW⟩ := hk _ _ _ _ h9 ⟨hI.1, hI.2.1, wf_cons (show inI (ior x0 x1) from inI_t _) (wf_tail (wf_tail hI.2.2.1)), hI.2.2.2⟩
    refine ⟨hR, fun H locs lsr hL hP hS => ?_⟩
    refine lv_ior hx hb hd ?_
    exact W.eq (F0_eq hof.symm (by simp only [List.map_cons, cv, ior, Int32.ofInt_toInt])) (hW H locs lsr hL hP hS)
  · rename_i a b cc x z
    obtain ⟨hd, hok, hwd, hof⟩ := at_ok hc (by simp)
    have hd : decode (mByt y) (mOff y pc) = .ok (.ixor, 1) := hd
    have hof : mOff y (pc + 1) = mOff y pc + 1 := hof
    intro hI
    obtain ⟨x0, x1, q, rfl, h9⟩ := e2I_inv h
    have w1 : inI x1 := wf_head hI.2.2.1
    have w0 : inI x0 := wf_head (wf_tail hI.2.2.1)
    obtain ⟨hR, hW⟩ := hk _ _ _ _ h9 ⟨hI.1, hI.2.1, wf_cons (show inI (ixor x0 x1) from inI_t _) (wf_tail (wf_tail hI.2.2.1)), hI.2.2.2⟩
    refine ⟨hR, fun H locs lsr hL hP hS => ?_⟩
    refine lv_ixor hx hb hd ?_
    exact W.eq (F0_eq hof.symm (by simp only [List.map_cons, cv, ixor, Int32.ofInt_toInt])) (hW H locs lsr hL hP hS)
  · cases h

set_option maxHeartbeats 4000000 in
theorem sim5 (C : CX p R s m args meth c P y L d n0 z0 xs r) {pc : Nat} {ri : RI} {ls : LVs} {st : List AV} {hp : HP} {k : KT} (hc : cdAt y pc = some ri) (h : sK5 (Cd d) ri pc ls st hp k = some r) (hk : ∀ pc' ls' st' hp', k pc' ls' st' hp' = some r → KJ p l e R s m args below meth c Q P y L n0 z0 xs r pc' ls' st' hp') : KJ p l e R s m args below meth c Q P y L n0 z0 xs r pc ls st hp := by
  obtain ⟨hx, hb, hml, hown, hts, hWD, hsz, hn0, hmn, hfr, hlo, hce, hsl⟩ := C
  unfold sK5 at h
  split at h
  · rename_i a b cc x z
    obtain ⟨hd, hok, hwd, hof⟩ := at_ok hc (by simp)
    have hd : decode (mByt y) (mOff y pc) = .ok (.ishl, 1) := hd
    have hof : mOff y (pc + 1) = mOff y pc + 1 := hof
    intro hI
    obtain ⟨x0, x1, q, rfl, h9⟩ := e2I_inv h
    have w1 : inI x1 := wf_head hI.2.2.1
    have w0 : inI x0 := wf_head (wf_tail hI.2.2.1)
    obtain ⟨hR, hW⟩ := hk _ _ _ _ h9 ⟨hI.1, hI.2.1, wf_cons (show inI (ishl x0 x1) from inI_t _) (wf_tail (wf_tail hI.2.2.1)), hI.2.2.2⟩
    refine ⟨hR, fun H locs lsr hL hP hS => ?_⟩
    refine lv_ishl hx hb hd ?_
    exact W.eq (F0_eq hof.symm (by simp only [List.map_cons, cv, ishl, Int32.ofInt_toInt])) (hW H locs lsr hL hP hS)
  · rename_i a b cc x z
    obtain ⟨hd, hok, hwd, hof⟩ := at_ok hc (by simp)
    have hd : decode (mByt y) (mOff y pc) = .ok (.ishr, 1) := hd
    have hof : mOff y (pc + 1) = mOff y pc + 1 := hof
    intro hI
    obtain ⟨x0, x1, q, rfl, h9⟩ := e2I_inv h
    have w1 : inI x1 := wf_head hI.2.2.1
    have w0 : inI x0 := wf_head (wf_tail hI.2.2.1)
    obtain ⟨hR, hW⟩ := hk _ _ _ _ h9 ⟨hI.1, hI.2.1, wf_cons (show inI (ishr x0 x1) from inI_t _) (wf_tail (wf_tail hI.2.2.1)), hI.2.2.2⟩
    refine ⟨hR, fun H locs lsr hL hP hS => ?_⟩
    refine lv_ishr hx hb hd ?_
    exact W.eq (F0_eq hof.symm (by simp only [List.map_cons, cv, ishr, Int32.ofInt_toInt])) (hW H locs lsr hL hP hS)
  · rename_i a b cc x z
    obtain ⟨hd, hok, hwd, hof⟩ := at_ok hc (by simp)
    have hd : decode (mByt y) (mOff y pc) = .ok (.iushr, 1) := hd
    have hof : mOff y (pc + 1) = mOff y pc + 1 := hof
    intro hI
    obtain ⟨x0, x1, q, rfl, h9⟩ := e2I_inv h
    have w1 : inI x1 := wf_head hI.2.2.1
    have w0 : inI x0 := wf_head (wf_tail hI.2.2.1)
    obtain ⟨hR, hW⟩ := hk _ _ _ _ h9 ⟨hI.1, hI.2.1, wf_cons (show inI (iushr x0 x1) from inI_t _) (wf_tail (wf_tail hI.2.2.1)), hI.2.2.2⟩
    refine ⟨hR, fun H locs lsr hL hP hS => ?_⟩
    refine lv_iushr hx hb hd rfl ?_
    exact W.eq (F0_eq hof.symm (by simp only [List.map_cons, cv, iushr, Int32.ofInt_toInt])) (hW H locs lsr hL hP hS)
  · rename_i a b cc x z
    obtain ⟨hd, hok, hwd, hof⟩ := at_ok hc (by simp)
    have hd : decode (mByt y) (mOff y pc) = .ok (.idiv, 1) := hd
    have hof : mOff y (pc + 1) = mOff y pc + 1 := hof
    intro hI
    obtain ⟨x0, x1, q, rfl, h9⟩ := e2I_inv h
    by_cases h0 : x1 = 0
    · rw [if_pos h0] at h9; cases h9
    rw [if_neg h0] at h9
    have w1 : inI x1 := wf_head hI.2.2.1
    have w0 : inI x0 := wf_head (wf_tail hI.2.2.1)
    obtain ⟨hR, hW⟩ := hk _ _ _ _ h9 ⟨hI.1, hI.2.1, wf_cons (show inI (idiv x0 x1) from inI_t _) (wf_tail (wf_tail hI.2.2.1)), hI.2.2.2⟩
    refine ⟨hR, fun H locs lsr hL hP hS => ?_⟩
    refine lv_idiv hx hb hd (fun q => h0 ((i_eq w1 inI_0).mp q)) ?_
    exact W.eq (F0_eq hof.symm (by simp only [List.map_cons, cv, idiv, Int32.ofInt_toInt])) (hW H locs lsr hL hP hS)
  · rename_i a b cc x z
    obtain ⟨hd, hok, hwd, hof⟩ := at_ok hc (by simp)
    have hd : decode (mByt y) (mOff y pc) = .ok (.irem, 1) := hd
    have hof : mOff y (pc + 1) = mOff y pc + 1 := hof
    intro hI
    obtain ⟨x0, x1, q, rfl, h9⟩ := e2I_inv h
    by_cases h0 : x1 = 0
    · rw [if_pos h0] at h9; cases h9
    rw [if_neg h0] at h9
    have w1 : inI x1 := wf_head hI.2.2.1
    have w0 : inI x0 := wf_head (wf_tail hI.2.2.1)
    obtain ⟨hR, hW⟩ := hk _ _ _ _ h9 ⟨hI.1, hI.2.1, wf_cons (show inI (irem x0 x1) from inI_t _) (wf_tail (wf_tail hI.2.2.1)), hI.2.2.2⟩
    refine ⟨hR, fun H locs lsr hL hP hS => ?_⟩
    refine lv_irem hx hb hd (fun q => h0 ((i_eq w1 inI_0).mp q)) ?_
    exact W.eq (F0_eq hof.symm (by simp only [List.map_cons, cv, irem, Int32.ofInt_toInt, rem32])) (hW H locs lsr hL hP hS)
  · rename_i a b cc x z
    obtain ⟨hd, hok, hwd, hof⟩ := at_ok hc (by simp)
    have hd : decode (mByt y) (mOff y pc) = .ok (.ineg, 1) := hd
    have hof : mOff y (pc + 1) = mOff y pc + 1 := hof
    intro hI
    obtain ⟨x0, q, rfl, h9⟩ := e1I_inv h
    have w0 : inI x0 := wf_head hI.2.2.1
    obtain ⟨hR, hW⟩ := hk _ _ _ _ h9 ⟨hI.1, hI.2.1, wf_cons (show inI (w32 (-x0)) from inI_t _) (wf_tail hI.2.2.1), hI.2.2.2⟩
    refine ⟨hR, fun H locs lsr hL hP hS => ?_⟩
    refine lv_ineg hx hb hd ?_
    exact W.eq (F0_eq hof.symm (by simp only [List.map_cons, cv, i_w, Int32.ofInt_neg])) (hW H locs lsr hL hP hS)
  · cases h

set_option maxHeartbeats 4000000 in
theorem sim6 (C : CX p R s m args meth c P y L d n0 z0 xs r) {pc : Nat} {ri : RI} {ls : LVs} {st : List AV} {hp : HP} {k : KT} (hc : cdAt y pc = some ri) (h : sK6 (Cd d) ri pc ls st hp k = some r) (hk : ∀ pc' ls' st' hp', k pc' ls' st' hp' = some r → KJ p l e R s m args below meth c Q P y L n0 z0 xs r pc' ls' st' hp') : KJ p l e R s m args below meth c Q P y L n0 z0 xs r pc ls st hp := by
  obtain ⟨hx, hb, hml, hown, hts, hWD, hsz, hn0, hmn, hfr, hlo, hce, hsl⟩ := C
  unfold sK6 at h
  split at h
  · rename_i a b cc x z
    obtain ⟨hd, hok, hwd, hof⟩ := at_ok hc (by simp)
    have hd : decode (mByt y) (mOff y pc) = .ok (.ladd, 1) := hd
    have hof : mOff y (pc + 1) = mOff y pc + 1 := hof
    intro hI
    obtain ⟨x0, x1, q, rfl, h9⟩ := e2L_inv h
    have w1 : inL x1 := wf_head hI.2.2.1
    have w0 : inL x0 := wf_head (wf_tail hI.2.2.1)
    obtain ⟨hR, hW⟩ := hk _ _ _ _ h9 ⟨hI.1, hI.2.1, wf_cons (show inL (w64 (x0 + x1)) from inL_t _) (wf_tail (wf_tail hI.2.2.1)), hI.2.2.2⟩
    refine ⟨hR, fun H locs lsr hL hP hS => ?_⟩
    refine lv_ladd hx hb hd ?_
    exact W.eq (F0_eq hof.symm (by simp only [List.map_cons, cv, l_w, Int64.ofInt_add])) (hW H locs lsr hL hP hS)
  · rename_i a b cc x z
    obtain ⟨hd, hok, hwd, hof⟩ := at_ok hc (by simp)
    have hd : decode (mByt y) (mOff y pc) = .ok (.lsub, 1) := hd
    have hof : mOff y (pc + 1) = mOff y pc + 1 := hof
    intro hI
    obtain ⟨x0, x1, q, rfl, h9⟩ := e2L_inv h
    have w1 : inL x1 := wf_head hI.2.2.1
    have w0 : inL x0 := wf_head (wf_tail hI.2.2.1)
    obtain ⟨hR, hW⟩ := hk _ _ _ _ h9 ⟨hI.1, hI.2.1, wf_cons (show inL (w64 (x0 - x1)) from inL_t _) (wf_tail (wf_tail hI.2.2.1)), hI.2.2.2⟩
    refine ⟨hR, fun H locs lsr hL hP hS => ?_⟩
    refine lv_lsub hx hb hd ?_
    exact W.eq (F0_eq hof.symm (by simp only [List.map_cons, cv, l_w, Int64.ofInt_sub])) (hW H locs lsr hL hP hS)
  · rename_i a b cc x z
    obtain ⟨hd, hok, hwd, hof⟩ := at_ok hc (by simp)
    have hd : decode (mByt y) (mOff y pc) = .ok (.lmul, 1) := hd
    have hof : mOff y (pc + 1) = mOff y pc + 1 := hof
    intro hI
    obtain ⟨x0, x1, q, rfl, h9⟩ := e2L_inv h
    have w1 : inL x1 := wf_head hI.2.2.1
    have w0 : inL x0 := wf_head (wf_tail hI.2.2.1)
    obtain ⟨hR, hW⟩ := hk _ _ _ _ h9 ⟨hI.1, hI.2.1, wf_cons (show inL (w64 (x0 * x1)) from inL_t _) (wf_tail (wf_tail hI.2.2.1)), hI.2.2.2⟩
    refine ⟨hR, fun H locs lsr hL hP hS => ?_⟩
    refine lv_lmul hx hb hd ?_
    exact W.eq (F0_eq hof.symm (by simp only [List.map_cons, cv, l_w, Int64.ofInt_mul])) (hW H locs lsr hL hP hS)
  · rename_i a b cc x z
    obtain ⟨hd, hok, hwd, hof⟩ := at_ok hc (by simp)
    have hd : decode (mByt y) (mOff y pc) = .ok (.land, 1) := hd
    have hof : mOff y (pc + 1) = mOff y pc + 1 := hof
    intro hI
    obtain ⟨x0, x1, q, rfl, h9⟩ := e2L_inv h
    have w1 : inL x1 := wf_head hI.2.2.1
    have w0 : inL x0 := wf_head (wf_tail hI.2.2.1)
    obtain ⟨hR, hW⟩ := hk _ _ _ _ h9 ⟨hI.1, hI.2.1, wf_cons (show inL (lland x0 x1) from inL_t _) (wf_tail (wf_tail hI.2.2.1)), hI.2.2.2⟩
    refine ⟨hR, fun H locs lsr hL hP hS => ?_⟩
    refine lv_land hx hb hd ?_
    exact W.eq (F0_eq hof.symm (by simp only [List.map_cons, cv, lland, Int64.ofInt_toInt])) (hW H locs lsr hL hP hS)
  · rename_i a b cc x z
    obtain ⟨hd, hok, hwd, hof⟩ := at_ok hc (by simp)
    have hd : decode (mByt y) (mOff y pc) = .ok (.lor, 1) := hd
    have hof : mOff y (pc + 1) = mOff y pc + 1 := hof
    intro hI
    obtain ⟨x0, x1, q, rfl, h9⟩ := e2L_inv h
    have w1 : inL x1 := wf_head hI.2.2.1
    have w0 : inL x0 := wf_head (wf_tail hI.2.2.1)
    obtain ⟨hR, hW⟩ := hk _ _ _ _ h9 ⟨hI.1, hI.2.1, wf_cons (show inL (llor x0 x1) from inL_t _) (wf_tail (wf_tail hI.2.2.1)), hI.2.2.2⟩
    refine ⟨hR, fun H locs lsr hL hP hS => ?_⟩
    refine lv_lor hx hb hd ?_
    exact W.eq (F0_eq hof.symm (by simp only [List.map_cons, cv, llor, Int64.ofInt_toInt])) (hW H locs lsr hL hP hS)
  · rename_i a b cc x z
    obtain ⟨hd, hok, hwd, hof⟩ := at_ok hc (by simp)
    have hd : decode (mByt y) (mOff y pc) = .ok (.ldiv, 1) := hd
    have hof : mOff y (pc + 1) = mOff y pc + 1 := hof
    intro hI
    obtain ⟨x0, x1, q, rfl, h9⟩ := e2L_inv h
    by_cases h0 : x1 = 0
    · rw [if_pos h0] at h9; cases h9
    rw [if_neg h0] at h9
    have w1 : inL x1 := wf_head hI.2.2.1
    have w0 : inL x0 := wf_head (wf_tail hI.2.2.1)
    obtain ⟨hR, hW⟩ := hk _ _ _ _ h9 ⟨hI.1, hI.2.1, wf_cons (show inL (lldiv x0 x1) from inL_t _) (wf_tail (wf_tail hI.2.2.1)), hI.2.2.2⟩
    refine ⟨hR, fun H locs lsr hL hP hS => ?_⟩
    refine lv_ldiv hx hb hd (fun q => h0 ((l_eq w1 inL_0).mp q)) ?_
    exact W.eq (F0_eq hof.symm (by simp only [List.map_cons, cv, lldiv, Int64.ofInt_toInt])) (hW H locs lsr hL hP hS)
  · rename_i a b cc x z
    obtain ⟨hd, hok, hwd, hof⟩ := at_ok hc (by simp)
    have hd : decode (mByt y) (mOff y pc) = .ok (.lrem, 1) := hd
    have hof : mOff y (pc + 1) = mOff y pc + 1 := hof
    intro hI
    obtain ⟨x0, x1, q, rfl, h9⟩ := e2L_inv h
    by_cases h0 : x1 = 0
    · rw [if_pos h0] at h9; cases h9
    rw [if_neg h0] at h9
    have w1 : inL x1 := wf_head hI.2.2.1
    have w0 : inL x0 := wf_head (wf_tail hI.2.2.1)
    obtain ⟨hR, hW⟩ := hk _ _ _ _ h9 ⟨hI.1, hI.2.1, wf_cons (show inL (llrem x0 x1) from inL_t _) (wf_tail (wf_tail hI.2.2.1)), hI.2.2.2⟩
    refine ⟨hR, fun H locs lsr hL hP hS => ?_⟩
    refine lv_lrem hx hb hd (fun q => h0 ((l_eq w1 inL_0).mp q)) ?_
    exact W.eq (F0_eq hof.symm (by simp only [List.map_cons, cv, llrem, Int64.ofInt_toInt, rem64])) (hW H locs lsr hL hP hS)
  · rename_i a b cc x z
    obtain ⟨hd, hok, hwd, hof⟩ := at_ok hc (by simp)
    have hd : decode (mByt y) (mOff y pc) = .ok (.lneg, 1) := hd
    have hof : mOff y (pc + 1) = mOff y pc + 1 := hof
    intro hI
    obtain ⟨x0, q, rfl, h9⟩ := e1L_inv h
    have w0 : inL x0 := wf_head hI.2.2.1
    obtain ⟨hR, hW⟩ := hk _ _ _ _ h9 ⟨hI.1, hI.2.1, wf_cons (show inL (w64 (-x0)) from inL_t _) (wf_tail hI.2.2.1), hI.2.2.2⟩
    refine ⟨hR, fun H locs lsr hL hP hS => ?_⟩
    refine lv_lneg hx hb hd ?_
    exact W.eq (F0_eq hof.symm (by simp only [List.map_cons, cv, l_w, Int64.ofInt_neg])) (hW H locs lsr hL hP hS)
  · cases h

set_option maxHeartbeats 4000000 in
theorem sim7 (C : CX p R s m args meth c P y L d n0 z0 xs r) {pc : Nat} {ri : RI} {ls : LVs} {st : List AV} {hp : HP} {k : KT} (hc : cdAt y pc = some ri) (h : sK7 (Cd d) ri pc ls st hp k = some r) (hk : ∀ pc' ls' st' hp', k pc' ls' st' hp' = some r → KJ p l e R s m args below meth c Q P y L n0 z0 xs r pc' ls' st' hp') : KJ p l e R s m args below meth c Q P y L n0 z0 xs r pc ls st hp := by
  obtain ⟨hx, hb, hml, hown, hts, hWD, hsz, hn0, hmn, hfr, hlo, hce, hsl⟩ := C
  unfold sK7 at h
  split at h
  · rename_i a b cc x z
    obtain ⟨hd, hok, hwd, hof⟩ := at_ok hc (by simp)
    have hd : decode (mByt y) (mOff y pc) = .ok (.i2l, 1) := hd
    have hof : mOff y (pc + 1) = mOff y pc + 1 := hof
    intro hI
    obtain ⟨x0, q, rfl, h9⟩ := e1I_inv h
    have w0 : inI x0 := wf_head hI.2.2.1
    obtain ⟨hR, hW⟩ := hk _ _ _ _ h9 ⟨hI.1, hI.2.1, wf_cons (show inL (x0) from inL_of w0) (wf_tail hI.2.2.1), hI.2.2.2⟩
    refine ⟨hR, fun H locs lsr hL hP hS => ?_⟩
    refine lv_i2l hx hb hd (l_i2l w0) ?_
    exact W.eq (F0_eq hof.symm (by simp only [List.map_cons, cv])) (hW H locs lsr hL hP hS)
  · rename_i a b cc x z
    obtain ⟨hd, hok, hwd, hof⟩ := at_ok hc (by simp)
    have hd : decode (mByt y) (mOff y pc) = .ok (.l2i, 1) := hd
    have hof : mOff y (pc + 1) = mOff y pc + 1 := hof
    intro hI
    obtain ⟨x0, q, rfl, h9⟩ := e1L_inv h
    have w0 : inL x0 := wf_head hI.2.2.1
    obtain ⟨hR, hW⟩ := hk _ _ _ _ h9 ⟨hI.1, hI.2.1, wf_cons (show inI (w32 x0) from inI_t _) (wf_tail hI.2.2.1), hI.2.2.2⟩
    refine ⟨hR, fun H locs lsr hL hP hS => ?_⟩
    refine lv_l2i hx hb hd (i_l2i x0) ?_
    exact W.eq (F0_eq hof.symm (by simp only [List.map_cons, cv, i_w])) (hW H locs lsr hL hP hS)
  · rename_i a b cc x z
    obtain ⟨hd, hok, hwd, hof⟩ := at_ok hc (by simp)
    have hd : decode (mByt y) (mOff y pc) = .ok (.lcmp, 1) := hd
    have hof : mOff y (pc + 1) = mOff y pc + 1 := hof
    intro hI
    obtain ⟨x0, x1, q, rfl, h9⟩ := e2L_inv h
    have w1 : inL x1 := wf_head hI.2.2.1
    have w0 : inL x0 := wf_head (wf_tail hI.2.2.1)
    obtain ⟨hR, hW⟩ := hk _ _ _ _ h9 ⟨hI.1, hI.2.1, wf_cons (show inI (lcmp x0 x1) by unfold lcmp; split; exact ⟨by decide, by decide⟩; split; exact ⟨by decide, by decide⟩; exact ⟨by decide, by decide⟩) (wf_tail (wf_tail hI.2.2.1)), hI.2.2.2⟩
    refine ⟨hR, fun H locs lsr hL hP hS => ?_⟩
    refine W.lcmp hx hb hd ?_
    exact W.eq (F0_eq hof.symm (by simp only [List.map_cons, cv, l_cmp w0 w1])) (hW H locs lsr hL hP hS)
  · rename_i a b cc x z
    obtain ⟨hd, hok, hwd, hof⟩ := at_ok hc (by simp)
    have hd : decode (mByt y) (mOff y pc) = .ok (.lshl, 1) := hd
    have hof : mOff y (pc + 1) = mOff y pc + 1 := hof
    intro hI
    obtain ⟨x0, x1, q, rfl, h9⟩ := eLI_inv h
    obtain ⟨hR, hW⟩ := hk _ _ _ _ h9 ⟨hI.1, hI.2.1, wf_cons (show inL (llshl x0 x1) from inL_t _) (wf_tail (wf_tail hI.2.2.1)), hI.2.2.2⟩
    refine ⟨hR, fun H locs lsr hL hP hS => ?_⟩
    refine lv_lshl hx hb hd rfl ?_
    exact W.eq (F0_eq hof.symm (by simp only [List.map_cons, cv, llshl, Int64.ofInt_toInt])) (hW H locs lsr hL hP hS)
  · rename_i a b cc x z
    obtain ⟨hd, hok, hwd, hof⟩ := at_ok hc (by simp)
    have hd : decode (mByt y) (mOff y pc) = .ok (.lconst ⟨z.toNat % 2, Nat.mod_lt _ (by decide)⟩, 1) := hd
    have hof : mOff y (pc + 1) = mOff y pc + 1 := hof
    simp only [okR, decide_eq_true_eq] at hok
    intro hI
    obtain ⟨hR, hW⟩ := hk _ _ _ _ h ⟨hI.1, hI.2.1, wf_cons (show inL z by rcases hok with rfl | rfl <;> exact ⟨by decide, by decide⟩) hI.2.2.1, hI.2.2.2⟩
    refine ⟨hR, fun H locs lsr hL hP hS => ?_⟩
    refine lv_lconst (v := Int64.ofInt z) hx hb hd (by rcases hok with rfl | rfl <;> decide) ?_
    exact W.eq (F0_eq hof.symm rfl) (hW H locs lsr hL hP hS)
  · rename_i a b cc x z
    obtain ⟨hd, hok, hwd, hof⟩ := at_ok hc (by simp)
    have hd : decode (mByt y) (mOff y pc) = .ok (.ldc2_w x, 3) := hd
    have hof : mOff y (pc + 1) = mOff y pc + 3 := hof
    simp only [okR, Bool.and_eq_true, decide_eq_true_eq] at hok
    obtain ⟨w, hw1, hw2⟩ := hwd rfl
    cases hw2
    intro hI
    obtain ⟨hR, hW⟩ := hk _ _ _ _ h ⟨hI.1, hI.2.1, wf_cons (show inL z from ⟨hok.1, hok.2⟩) hI.2.2.1, hI.2.2.2⟩
    refine ⟨hR, fun H locs lsr hL hP hS => ?_⟩
    refine lv_ldc2 hx hb hown (hts _ (List.mem_filter.mpr ⟨hw1, rfl⟩)) hd ?_
    exact W.eq (F0_eq hof.symm rfl) (hW H locs lsr hL hP hS)
  · rename_i a b cc x z
    obtain ⟨hd, hok, hwd, hof⟩ := at_ok hc (by simp)
    have hd : decode (mByt y) (mOff y pc) = .ok (.i2c, 1) := hd
    have hof : mOff y (pc + 1) = mOff y pc + 1 := hof
    intro hI
    obtain ⟨x0, q, rfl, h9⟩ := e1I_inv h
    have w0 : inI x0 := wf_head hI.2.2.1
    obtain ⟨hR, hW⟩ := hk _ _ _ _ h9 ⟨hI.1, hI.2.1, wf_cons (show inI (i2c x0) from inI_t _) (wf_tail hI.2.2.1), hI.2.2.2⟩
    refine ⟨hR, fun H locs lsr hL hP hS => ?_⟩
    refine lv_i2c hx hb hd rfl ?_
    exact W.eq (F0_eq hof.symm (by simp only [List.map_cons, cv, i2c, Int32.ofInt_toInt])) (hW H locs lsr hL hP hS)
  · cases h

set_option maxHeartbeats 4000000 in
theorem sim9 (C : CX p R s m args meth c P y L d n0 z0 xs r) {pc : Nat} {ri : RI} {ls : LVs} {st : List AV} {hp : HP} {k : KT} (hc : cdAt y pc = some ri) (h : sK9 (Cd d) ri pc ls st hp k = some r) (hk : ∀ pc' ls' st' hp', k pc' ls' st' hp' = some r → KJ p l e R s m args below meth c Q P y L n0 z0 xs r pc' ls' st' hp') : KJ p l e R s m args below meth c Q P y L n0 z0 xs r pc ls st hp := by
  obtain ⟨hx, hb, hml, hown, hts, hWD, hsz, hn0, hmn, hfr, hlo, hce, hsl⟩ := C
  unfold sK9 at h
  split at h
  · rename_i b cc x z
    obtain ⟨hd, hok, hwd, hof⟩ := at_ok hc (by simp)
    have hd : decode (mByt y) (mOff y pc) = .ok (.ifCond .eq ((mOff y b : Int) - (mOff y pc : Int)), 3) := hd
    have hof : mOff y (pc + 1) = mOff y pc + 3 := hof
    intro hI
    obtain ⟨x0, q, rfl, h9⟩ := e1I_inv h
    have w0 : inI x0 := wf_head hI.2.2.1
    have hI2 : ∀ w ∈ q, wfv w := wf_tail hI.2.2.1
    by_cases hcd : x0 = 0
    · rw [if_pos hcd] at h9
      obtain ⟨hR, hW⟩ := hk _ _ _ _ h9 ⟨hI.1, hI.2.1, hI2, hI.2.2.2⟩
      refine ⟨hR, fun H locs lsr hL hP hS => ?_⟩
      exact lv_if_eq (tgt := mOff y b) hx hb hd (by omega) (fun _ => W.eq (F0_eq rfl rfl) (hW H locs lsr hL hP hS)) (fun g => absurd ((i_eq w0 inI_0).mpr hcd) g)
    · rw [if_neg hcd] at h9
      obtain ⟨hR, hW⟩ := hk _ _ _ _ h9 ⟨hI.1, hI.2.1, hI2, hI.2.2.2⟩
      refine ⟨hR, fun H locs lsr hL hP hS => ?_⟩
      exact lv_if_eq (tgt := mOff y b) hx hb hd (by omega) (fun g => absurd ((i_eq w0 inI_0).mp g) hcd) (fun _ => W.eq (F0_eq hof.symm rfl) (hW H locs lsr hL hP hS))
  · rename_i b cc x z
    obtain ⟨hd, hok, hwd, hof⟩ := at_ok hc (by simp)
    have hd : decode (mByt y) (mOff y pc) = .ok (.ifCond .ne ((mOff y b : Int) - (mOff y pc : Int)), 3) := hd
    have hof : mOff y (pc + 1) = mOff y pc + 3 := hof
    intro hI
    obtain ⟨x0, q, rfl, h9⟩ := e1I_inv h
    have w0 : inI x0 := wf_head hI.2.2.1
    have hI2 : ∀ w ∈ q, wfv w := wf_tail hI.2.2.1
    by_cases hcd : x0 = 0
    · rw [if_pos hcd] at h9
      obtain ⟨hR, hW⟩ := hk _ _ _ _ h9 ⟨hI.1, hI.2.1, hI2, hI.2.2.2⟩
      refine ⟨hR, fun H locs lsr hL hP hS => ?_⟩
      exact lv_if_ne (tgt := mOff y b) hx hb hd (by omega) (fun g => absurd ((i_eq w0 inI_0).mpr hcd) g) (fun _ => W.eq (F0_eq hof.symm rfl) (hW H locs lsr hL hP hS))
    · rw [if_neg hcd] at h9
      obtain ⟨hR, hW⟩ := hk _ _ _ _ h9 ⟨hI.1, hI.2.1, hI2, hI.2.2.2⟩
      refine ⟨hR, fun H locs lsr hL hP hS => ?_⟩
      exact lv_if_ne (tgt := mOff y b) hx hb hd (by omega) (fun _ => W.eq (F0_eq rfl rfl) (hW H locs lsr hL hP hS)) (fun g => absurd ((i_eq w0 inI_0).mp g) hcd)
  · rename_i b cc x z
    obtain ⟨hd, hok, hwd, hof⟩ := at_ok hc (by simp)
    have hd : decode (mByt y) (mOff y pc) = .ok (.ifCond .lt ((mOff y b : Int) - (mOff y pc : Int)), 3) := hd
    have hof : mOff y (pc + 1) = mOff y pc + 3 := hof
    intro hI
    obtain ⟨x0, q, rfl, h9⟩ := e1I_inv h
    have w0 : inI x0 := wf_head hI.2.2.1
    have hI2 : ∀ w ∈ q, wfv w := wf_tail hI.2.2.1
    by_cases hcd : x0 < 0
    · rw [if_pos hcd] at h9
      obtain ⟨hR, hW⟩ := hk _ _ _ _ h9 ⟨hI.1, hI.2.1, hI2, hI.2.2.2⟩
      refine ⟨hR, fun H locs lsr hL hP hS => ?_⟩
      exact lv_if_lt (tgt := mOff y b) hx hb hd (by omega) (fun _ => W.eq (F0_eq rfl rfl) (hW H locs lsr hL hP hS)) (fun g => absurd ((i_lt w0 inI_0).mpr hcd) g)
    · rw [if_neg hcd] at h9
      obtain ⟨hR, hW⟩ := hk _ _ _ _ h9 ⟨hI.1, hI.2.1, hI2, hI.2.2.2⟩
      refine ⟨hR, fun H locs lsr hL hP hS => ?_⟩
      exact lv_if_lt (tgt := mOff y b) hx hb hd (by omega) (fun g => absurd ((i_lt w0 inI_0).mp g) hcd) (fun _ => W.eq (F0_eq hof.symm rfl) (hW H locs lsr hL hP hS))
  · rename_i b cc x z
    obtain ⟨hd, hok, hwd, hof⟩ := at_ok hc (by simp)
    have hd : decode (mByt y) (mOff y pc) = .ok (.ifCond .ge ((mOff y b : Int) - (mOff y pc : Int)), 3) := hd
    have hof : mOff y (pc + 1) = mOff y pc + 3 := hof
    intro hI
    obtain ⟨x0, q, rfl, h9⟩ := e1I_inv h
    have w0 : inI x0 := wf_head hI.2.2.1
    have hI2 : ∀ w ∈ q, wfv w := wf_tail hI.2.2.1
    by_cases hcd : x0 < 0
    · rw [if_pos hcd] at h9
      obtain ⟨hR, hW⟩ := hk _ _ _ _ h9 ⟨hI.1, hI.2.1, hI2, hI.2.2.2⟩
      refine ⟨hR, fun H locs lsr hL hP hS => ?_⟩
      exact lv_if_ge (tgt := mOff y b) hx hb hd (by omega) (fun g => absurd g (fun q => absurd ((i_le inI_0 w0).mp q) (by omega))) (fun _ => W.eq (F0_eq hof.symm rfl) (hW H locs lsr hL hP hS))
    · rw [if_neg hcd] at h9
      obtain ⟨hR, hW⟩ := hk _ _ _ _ h9 ⟨hI.1, hI.2.1, hI2, hI.2.2.2⟩
      refine ⟨hR, fun H locs lsr hL hP hS => ?_⟩
      exact lv_if_ge (tgt := mOff y b) hx hb hd (by omega) (fun _ => W.eq (F0_eq rfl rfl) (hW H locs lsr hL hP hS)) (fun g => absurd ((i_le inI_0 w0).mpr (by omega)) g)
  · rename_i b cc x z
    obtain ⟨hd, hok, hwd, hof⟩ := at_ok hc (by simp)
    have hd : decode (mByt y) (mOff y pc) = .ok (.ifCond .gt ((mOff y b : Int) - (mOff y pc : Int)), 3) := hd
    have hof : mOff y (pc + 1) = mOff y pc + 3 := hof
    intro hI
    obtain ⟨x0, q, rfl, h9⟩ := e1I_inv h
    have w0 : inI x0 := wf_head hI.2.2.1
    have hI2 : ∀ w ∈ q, wfv w := wf_tail hI.2.2.1
    by_cases hcd : 0 < x0
    · rw [if_pos hcd] at h9
      obtain ⟨hR, hW⟩ := hk _ _ _ _ h9 ⟨hI.1, hI.2.1, hI2, hI.2.2.2⟩
      refine ⟨hR, fun H locs lsr hL hP hS => ?_⟩
      exact lv_if_gt (tgt := mOff y b) hx hb hd (by omega) (fun _ => W.eq (F0_eq rfl rfl) (hW H locs lsr hL hP hS)) (fun g => absurd ((i_lt inI_0 w0).mpr hcd) g)
    · rw [if_neg hcd] at h9
      obtain ⟨hR, hW⟩ := hk _ _ _ _ h9 ⟨hI.1, hI.2.1, hI2, hI.2.2.2⟩
      refine ⟨hR, fun H locs lsr hL hP hS => ?_⟩
      exact lv_if_gt (tgt := mOff y b) hx hb hd (by omega) (fun g => absurd ((i_lt inI_0 w0).mp g) hcd) (fun _ => W.eq (F0_eq hof.symm rfl) (hW H locs lsr hL hP hS))
  · rename_i a b cc x z g0 g1 g2 g3 g4
    obtain ⟨hd, hok, hwd, hof⟩ := at_ok hc (by simp)
    have ha5 : ifC a = .le := by
      simp only [okR, decide_eq_true_eq] at hok
      have k0 : a ≠ 0 := g0
      have k1 : a ≠ 1 := g1
      have k2 : a ≠ 2 := g2
      have k3 : a ≠ 3 := g3
      have k4 : a ≠ 4 := g4
      obtain rfl : a = 5 := by omega
      rfl
    have hd : decode (mByt y) (mOff y pc) = .ok (.ifCond (ifC a) ((mOff y b : Int) - (mOff y pc : Int)), 3) := hd
    have hof : mOff y (pc + 1) = mOff y pc + 3 := hof
    rw [ha5] at hd
    intro hI
    obtain ⟨x0, q, rfl, h9⟩ := e1I_inv h
    have w0 : inI x0 := wf_head hI.2.2.1
    have hI2 : ∀ w ∈ q, wfv w := wf_tail hI.2.2.1
    by_cases hcd : 0 < x0
    · rw [if_pos hcd] at h9
      obtain ⟨hR, hW⟩ := hk _ _ _ _ h9 ⟨hI.1, hI.2.1, hI2, hI.2.2.2⟩
      refine ⟨hR, fun H locs lsr hL hP hS => ?_⟩
      exact lv_if_le (tgt := mOff y b) hx hb hd (by omega) (fun g => absurd g (fun q => absurd ((i_le w0 inI_0).mp q) (by omega))) (fun _ => W.eq (F0_eq hof.symm rfl) (hW H locs lsr hL hP hS))
    · rw [if_neg hcd] at h9
      obtain ⟨hR, hW⟩ := hk _ _ _ _ h9 ⟨hI.1, hI.2.1, hI2, hI.2.2.2⟩
      refine ⟨hR, fun H locs lsr hL hP hS => ?_⟩
      exact lv_if_le (tgt := mOff y b) hx hb hd (by omega) (fun _ => W.eq (F0_eq rfl rfl) (hW H locs lsr hL hP hS)) (fun g => absurd ((i_le w0 inI_0).mpr (by omega)) g)
  · cases h

set_option maxHeartbeats 4000000 in
theorem sim10 (C : CX p R s m args meth c P y L d n0 z0 xs r) {pc : Nat} {ri : RI} {ls : LVs} {st : List AV} {hp : HP} {k : KT} (hc : cdAt y pc = some ri) (h : sK10 (Cd d) ri pc ls st hp k = some r) (hk : ∀ pc' ls' st' hp', k pc' ls' st' hp' = some r → KJ p l e R s m args below meth c Q P y L n0 z0 xs r pc' ls' st' hp') : KJ p l e R s m args below meth c Q P y L n0 z0 xs r pc ls st hp := by
  obtain ⟨hx, hb, hml, hown, hts, hWD, hsz, hn0, hmn, hfr, hlo, hce, hsl⟩ := C
  unfold sK10 at h
  split at h
  · rename_i b cc x z
    obtain ⟨hd, hok, hwd, hof⟩ := at_ok hc (by simp)
    have hd : decode (mByt y) (mOff y pc) = .ok (.if_icmp .eq ((mOff y b : Int) - (mOff y pc : Int)), 3) := hd
    have hof : mOff y (pc + 1) = mOff y pc + 3 := hof
    intro hI
    obtain ⟨x0, x1, q, rfl, h9⟩ := e2I_inv h
    have w1 : inI x1 := wf_head hI.2.2.1
    have w0 : inI x0 := wf_head (wf_tail hI.2.2.1)
    have hI2 : ∀ w ∈ q, wfv w := wf_tail (wf_tail hI.2.2.1)
    by_cases hcd : x0 = x1
    · rw [if_pos hcd] at h9
      obtain ⟨hR, hW⟩ := hk _ _ _ _ h9 ⟨hI.1, hI.2.1, hI2, hI.2.2.2⟩
      refine ⟨hR, fun H locs lsr hL hP hS => ?_⟩
      exact lv_icmp_eq (tgt := mOff y b) hx hb hd (by omega) (fun _ => W.eq (F0_eq rfl rfl) (hW H locs lsr hL hP hS)) (fun g => absurd ((i_eq w0 w1).mpr hcd) g)
    · rw [if_neg hcd] at h9
      obtain ⟨hR, hW⟩ := hk _ _ _ _ h9 ⟨hI.1, hI.2.1, hI2, hI.2.2.2⟩
      refine ⟨hR, fun H locs lsr hL hP hS => ?_⟩
      exact lv_icmp_eq (tgt := mOff y b) hx hb hd (by omega) (fun g => absurd ((i_eq w0 w1).mp g) hcd) (fun _ => W.eq (F0_eq hof.symm rfl) (hW H locs lsr hL hP hS))
  · rename_i b cc x z
    obtain ⟨hd, hok, hwd, hof⟩ := at_ok hc (by simp)
    have hd : decode (mByt y) (mOff y pc) = .ok (.if_icmp .ne ((mOff y b : Int) - (mOff y pc : Int)), 3) := hd
    have hof : mOff y (pc + 1) = mOff y pc + 3 := hof
    intro hI
    obtain ⟨x0, x1, q, rfl, h9⟩ := e2I_inv h
    have w1 : inI x1 := wf_head hI.2.2.1
    have w0 : inI x0 := wf_head (wf_tail hI.2.2.1)
    have hI2 : ∀ w ∈ q, wfv w := wf_tail (wf_tail hI.2.2.1)
    by_cases hcd : x0 = x1
    · rw [if_pos hcd] at h9
      obtain ⟨hR, hW⟩ := hk _ _ _ _ h9 ⟨hI.1, hI.2.1, hI2, hI.2.2.2⟩
      refine ⟨hR, fun H locs lsr hL hP hS => ?_⟩
      exact lv_icmp_ne (tgt := mOff y b) hx hb hd (by omega) (fun g => absurd ((i_eq w0 w1).mpr hcd) g) (fun _ => W.eq (F0_eq hof.symm rfl) (hW H locs lsr hL hP hS))
    · rw [if_neg hcd] at h9
      obtain ⟨hR, hW⟩ := hk _ _ _ _ h9 ⟨hI.1, hI.2.1, hI2, hI.2.2.2⟩
      refine ⟨hR, fun H locs lsr hL hP hS => ?_⟩
      exact lv_icmp_ne (tgt := mOff y b) hx hb hd (by omega) (fun _ => W.eq (F0_eq rfl rfl) (hW H locs lsr hL hP hS)) (fun g => absurd ((i_eq w0 w1).mp g) hcd)
  · rename_i b cc x z
    obtain ⟨hd, hok, hwd, hof⟩ := at_ok hc (by simp)
    have hd : decode (mByt y) (mOff y pc) = .ok (.if_icmp .lt ((mOff y b : Int) - (mOff y pc : Int)), 3) := hd
    have hof : mOff y (pc + 1) = mOff y pc + 3 := hof
    intro hI
    obtain ⟨x0, x1, q, rfl, h9⟩ := e2I_inv h
    have w1 : inI x1 := wf_head hI.2.2.1
    have w0 : inI x0 := wf_head (wf_tail hI.2.2.1)
    have hI2 : ∀ w ∈ q, wfv w := wf_tail (wf_tail hI.2.2.1)
    by_cases hcd : x0 < x1
    · rw [if_pos hcd] at h9
      obtain ⟨hR, hW⟩ := hk _ _ _ _ h9 ⟨hI.1, hI.2.1, hI2, hI.2.2.2⟩
      refine ⟨hR, fun H locs lsr hL hP hS => ?_⟩
      exact lv_icmp_lt (tgt := mOff y b) hx hb hd (by omega) (fun _ => W.eq (F0_eq rfl rfl) (hW H locs lsr hL hP hS)) (fun g => absurd ((i_lt w0 w1).mpr hcd) g)
    · rw [if_neg hcd] at h9
      obtain ⟨hR, hW⟩ := hk _ _ _ _ h9 ⟨hI.1, hI.2.1, hI2, hI.2.2.2⟩
      refine ⟨hR, fun H locs lsr hL hP hS => ?_⟩
      exact lv_icmp_lt (tgt := mOff y b) hx hb hd (by omega) (fun g => absurd ((i_lt w0 w1).mp g) hcd) (fun _ => W.eq (F0_eq hof.symm rfl) (hW H locs lsr hL hP hS))
  · rename_i b cc x z
    obtain ⟨hd, hok, hwd, hof⟩ := at_ok hc (by simp)
    have hd : decode (mByt y) (mOff y pc) = .ok (.if_icmp .ge ((mOff y b : Int) - (mOff y pc : Int)), 3) := hd
    have hof : mOff y (pc + 1) = mOff y pc + 3 := hof
    intro hI
    obtain ⟨x0, x1, q, rfl, h9⟩ := e2I_inv h
    have w1 : inI x1 := wf_head hI.2.2.1
    have w0 : inI x0 := wf_head (wf_tail hI.2.2.1)
    have hI2 : ∀ w ∈ q, wfv w := wf_tail (wf_tail hI.2.2.1)
    by_cases hcd : x0 < x1
    · rw [if_pos hcd] at h9
      obtain ⟨hR, hW⟩ := hk _ _ _ _ h9 ⟨hI.1, hI.2.1, hI2, hI.2.2.2⟩
      refine ⟨hR, fun H locs lsr hL hP hS => ?_⟩
      exact lv_icmp_ge (tgt := mOff y b) hx hb hd (by omega) (fun g => absurd g (fun q => absurd ((i_le w1 w0).mp q) (by omega))) (fun _ => W.eq (F0_eq hof.symm rfl) (hW H locs lsr hL hP hS))
    · rw [if_neg hcd] at h9
      obtain ⟨hR, hW⟩ := hk _ _ _ _ h9 ⟨hI.1, hI.2.1, hI2, hI.2.2.2⟩
      refine ⟨hR, fun H locs lsr hL hP hS => ?_⟩
      exact lv_icmp_ge (tgt := mOff y b) hx hb hd (by omega) (fun _ => W.eq (F0_eq rfl rfl) (hW H locs lsr hL hP hS)) (fun g => absurd ((i_le w1 w0).mpr (by omega)) g)
  · rename_i b cc x z
    obtain ⟨hd, hok, hwd, hof⟩ := at_ok hc (by simp)
    have hd : decode (mByt y) (mOff y pc) = .ok (.if_icmp .gt ((mOff y b : Int) - (mOff y pc : Int)), 3) := hd
    have hof : mOff y (pc + 1) = mOff y pc + 3 := hof
    intro hI
    obtain ⟨x0, x1, q, rfl, h9⟩ := e2I_inv h
    have w1 : inI x1 := wf_head hI.2.2.1
    have w0 : inI x0 := wf_head (wf_tail hI.2.2.1)
    have hI2 : ∀ w ∈ q, wfv w := wf_tail (wf_tail hI.2.2.1)
    by_cases hcd : x1 < x0
    · rw [if_pos hcd] at h9
      obtain ⟨hR, hW⟩ := hk _ _ _ _ h9 ⟨hI.1, hI.2.1, hI2, hI.2.2.2⟩
      refine ⟨hR, fun H locs lsr hL hP hS => ?_⟩
      exact lv_icmp_gt (tgt := mOff y b) hx hb hd (by omega) (fun _ => W.eq (F0_eq rfl rfl) (hW H locs lsr hL hP hS)) (fun g => absurd ((i_lt w1 w0).mpr hcd) g)
    · rw [if_neg hcd] at h9
      obtain ⟨hR, hW⟩ := hk _ _ _ _ h9 ⟨hI.1, hI.2.1, hI2, hI.2.2.2⟩
      refine ⟨hR, fun H locs lsr hL hP hS => ?_⟩
      exact lv_icmp_gt (tgt := mOff y b) hx hb hd (by omega) (fun g => absurd ((i_lt w1 w0).mp g) hcd) (fun _ => W.eq (F0_eq hof.symm rfl) (hW H locs lsr hL hP hS))
  · rename_i a b cc x z g0 g1 g2 g3 g4
    obtain ⟨hd, hok, hwd, hof⟩ := at_ok hc (by simp)
    have ha5 : ifC a = .le := by
      simp only [okR, decide_eq_true_eq] at hok
      have k0 : a ≠ 0 := g0
      have k1 : a ≠ 1 := g1
      have k2 : a ≠ 2 := g2
      have k3 : a ≠ 3 := g3
      have k4 : a ≠ 4 := g4
      obtain rfl : a = 5 := by omega
      rfl
    have hd : decode (mByt y) (mOff y pc) = .ok (.if_icmp (ifC a) ((mOff y b : Int) - (mOff y pc : Int)), 3) := hd
    have hof : mOff y (pc + 1) = mOff y pc + 3 := hof
    rw [ha5] at hd
    intro hI
    obtain ⟨x0, x1, q, rfl, h9⟩ := e2I_inv h
    have w1 : inI x1 := wf_head hI.2.2.1
    have w0 : inI x0 := wf_head (wf_tail hI.2.2.1)
    have hI2 : ∀ w ∈ q, wfv w := wf_tail (wf_tail hI.2.2.1)
    by_cases hcd : x1 < x0
    · rw [if_pos hcd] at h9
      obtain ⟨hR, hW⟩ := hk _ _ _ _ h9 ⟨hI.1, hI.2.1, hI2, hI.2.2.2⟩
      refine ⟨hR, fun H locs lsr hL hP hS => ?_⟩
      exact lv_icmp_le (tgt := mOff y b) hx hb hd (by omega) (fun g => absurd g (fun q => absurd ((i_le w0 w1).mp q) (by omega))) (fun _ => W.eq (F0_eq hof.symm rfl) (hW H locs lsr hL hP hS))
    · rw [if_neg hcd] at h9
      obtain ⟨hR, hW⟩ := hk _ _ _ _ h9 ⟨hI.1, hI.2.1, hI2, hI.2.2.2⟩
      refine ⟨hR, fun H locs lsr hL hP hS => ?_⟩
      exact lv_icmp_le (tgt := mOff y b) hx hb hd (by omega) (fun _ => W.eq (F0_eq rfl rfl) (hW H locs lsr hL hP hS)) (fun g => absurd ((i_le w0 w1).mpr (by omega)) g)
  · cases h

end SIM
