/-! what a text says: the parser, over tokens -/
abbrev Rs := Int × Int × List (Int × Int)
def pOk (i : Int) (E : List (Int × Int)) : Rs := (0, i, E)
def pEr (e i : Int) : Rs := (e, i, [])
def pBd (r : Rs) (k : Int → Rs) : Rs := if r.1 = 0 then ((k r.2.1).1, (k r.2.1).2.1, r.2.2 ++ (k r.2.1).2.2) else r
def opnd (tk nv : Int → Int) (i : Int) : Rs := if tk i = 3 then (if 9999 < nv i then pEr 2 i else pOk (i + 1) [(0, nv i)]) else if tk i = 97 then pOk (i + 1) [(1, 0)] else if tk i = 98 then pOk (i + 1) [(1, 1)] else if tk i = 120 then pOk (i + 1) [(1, 2)] else if tk i = 121 then pOk (i + 1) [(1, 3)] else pEr 1 i
def mulL (tk : Int → Int) (P : Int → Rs) : Nat → Int → Rs
  | 0, i => pOk i []
  | f + 1, i => if tk i = 42 then pBd (P (i + 1)) (fun j => pBd (pOk j [(5, 0)]) (mulL tk P f)) else pOk i []
def term (tk : Int → Int) (P : Int → Rs) (i : Int) : Rs := pBd (P i) (mulL tk P 300)
def addO (x : Int) : Int := if x = 43 then 3 else 4
def addL (tk : Int → Int) (P : Int → Rs) : Nat → Int → Rs
  | 0, i => pOk i []
  | f + 1, i => if tk i = 43 ∨ tk i = 45 then pBd (term tk P (i + 1)) (fun j => pBd (pOk j [(addO (tk i), 0)]) (addL tk P f)) else pOk i []
def expr (tk : Int → Int) (P : Int → Rs) (i : Int) : Rs := pBd (term tk P i) (addL tk P 300)
def fac (tk nv : Int → Int) : Nat → Int → Rs
  | 0, i => if tk i = 40 ∨ tk i = 45 then pEr 3 i else opnd tk nv i
  | m + 1, i => if tk i = 40 then pBd (expr tk (fac tk nv m) (i + 1)) (fun j => if tk j = 41 then pOk (j + 1) [] else pEr 1 j) else if tk i = 45 then pBd (fac tk nv m (i + 1)) (fun j => pOk j [(2, 0)]) else opnd tk nv i
def cmpO (x : Int) : Int := if x = 60 then 10 else if x = 4 then 11 else if x = 62 then 12 else if x = 5 then 13 else if x = 61 then 14 else if x = 35 then 15 else -1
def cmpE (tk : Int → Int) (P : Int → Rs) (i : Int) : Rs := pBd (expr tk P i) (fun j => if cmpO (tk j) < 0 then pEr 1 j else pBd (expr tk P (j + 1)) (fun k => pOk k [(cmpO (tk j), 0)]))
def cmpP (tk nv : Int → Int) : Nat → Int → Rs
  | 0, i => if tk i = 7 then pEr 3 i else cmpE tk (fac tk nv 0) i
  | m + 1, i => if tk i = 7 then pBd (cmpP tk nv m (i + 1)) (fun j => pOk j [(20, 0)]) else cmpE tk (fac tk nv (m + 1)) i
def andL (tk nv : Int → Int) : Nat → Int → Rs
  | 0, i => pOk i []
  | f + 1, i => if tk i = 8 then pBd (cmpP tk nv 8 (i + 1)) (fun j => pBd (pOk j [(21, 0)]) (andL tk nv f)) else pOk i []
def andP (tk nv : Int → Int) (i : Int) : Rs := pBd (cmpP tk nv 8 i) (andL tk nv 300)
def orL (tk nv : Int → Int) : Nat → Int → Rs
  | 0, i => pOk i []
  | f + 1, i => if tk i = 9 then pBd (andP tk nv (i + 1)) (fun j => pBd (pOk j [(22, 0)]) (orL tk nv f)) else pOk i []
def orP (tk nv : Int → Int) (i : Int) : Rs := pBd (andP tk nv i) (orL tk nv 300)
theorem pBd_ok {i : Int} {E : List (Int × Int)} {k : Int → Rs} : pBd (pOk i E) k = ((k i).1, (k i).2.1, E ++ (k i).2.2) := if_pos rfl
theorem pBd_er {r : Rs} {k : Int → Rs} (h : r.1 ≠ 0) : pBd r k = r := if_neg h
theorem pBd_z {r : Rs} {k : Int → Rs} (h : (pBd r k).1 = 0) : r.1 = 0 ∧ (k r.2.1).1 = 0 ∧ (pBd r k).2.1 = (k r.2.1).2.1 ∧ (pBd r k).2.2 = r.2.2 ++ (k r.2.1).2.2 := by
  by_cases e : r.1 = 0
  · unfold pBd at h ⊢
    rw [if_pos e] at h ⊢
    exact ⟨e, h, rfl, rfl⟩
  · rw [pBd_er e] at h; exact absurd h e
/-- one pile for values and truths: what the class does -/
def stepC (nm : Int → Int) (o v : Int) (st : List Int) : List Int :=
  if o = 0 then v :: st else if o = 1 then nm v :: st
  else if o = 2 then (match st with | a :: r => -a :: r | _ => st)
  else if o < 10 then (match st with | y :: x :: r => twoV o x y :: r | _ => st)
  else if o < 20 then (match st with | y :: x :: r => b2i (soV o x y) :: r | _ => st)
  else if o = 20 then (match st with | a :: r => (1 - a) :: r | _ => st)
  else (match st with | u :: t :: r => (if o = 21 then b2i (decide (t ≠ 0) && decide (u ≠ 0)) else b2i (decide (t ≠ 0) || decide (u ≠ 0))) :: r | _ => st)
def runC (nm : Int → Int) : List (Int × Int) → List Int → List Int
  | [], st => st
  | q :: r, st => runC nm r (stepC nm q.1 q.2 st)
theorem runM_a (nm : Int → Int) (F : List (Int × Int)) : ∀ (E : List (Int × Int)) (vs : List Int) (ts : List Bool), runM nm (E ++ F) vs ts = (runM nm E vs ts).bind fun w => runM nm F w.1 w.2
  | [], vs, ts => rfl
  | q :: E, vs, ts => by
    show (stepM nm q.1 q.2 vs ts).bind (fun w => runM nm (E ++ F) w.1 w.2) = ((stepM nm q.1 q.2 vs ts).bind fun w => runM nm E w.1 w.2).bind _
    cases stepM nm q.1 q.2 vs ts with
    | none => rfl
    | some w => exact runM_a nm F E w.1 w.2
theorem runC_a (nm : Int → Int) (F : List (Int × Int)) : ∀ (E : List (Int × Int)) (st : List Int), runC nm (E ++ F) st = runC nm F (runC nm E st)
  | [], st => rfl
  | q :: E, st => runC_a nm F E _
def bdd (x : Int) : Prop := -1000000000 ≤ x ∧ x ≤ 1000000000
/-- what a step of the class wants of its pile -/
def okT (o : Int) (st : List Int) : Prop :=
  if o = 0 then True else if o = 1 then True
  else if o = 2 then ∃ a r, st = a :: r ∧ bdd a
  else if o < 10 then ∃ y x r, st = y :: x :: r ∧ bdd x ∧ bdd y
  else if o < 20 then ∃ y x r, st = y :: x :: r
  else if o = 20 then ∃ a r, st = a :: r ∧ (a = 0 ∨ a = 1)
  else ∃ u t r, st = u :: t :: r ∧ (u = 0 ∨ u = 1) ∧ (t = 0 ∨ t = 1)
def okRn (nm : Int → Int) : List (Int × Int) → List Int → Prop
  | [], _ => True
  | q :: r, st => okT q.1 st ∧ okRn nm r (stepC nm q.1 q.2 st)
theorem okRn_a (nm : Int → Int) (F : List (Int × Int)) : ∀ (E : List (Int × Int)) (st : List Int), okRn nm E st → okRn nm F (runC nm E st) → okRn nm (E ++ F) st
  | [], _, _, h => h
  | q :: E, st, g, h => ⟨g.1, okRn_a nm F E _ g.2 h⟩
theorem okT_0 (st : List Int) : okT 0 st := by unfold okT; rw [if_pos rfl]; trivial
theorem okT_1 (st : List Int) : okT 1 st := by unfold okT; rw [if_neg (by decide), if_pos rfl]; trivial
theorem okT_2 {a : Int} {r : List Int} (hb : bdd a) : okT 2 (a :: r) := by
  unfold okT; rw [if_neg (by decide), if_neg (by decide), if_pos rfl]; exact ⟨a, r, rfl, hb⟩
theorem okT_3 {o x y : Int} {r : List Int} (h1 : 3 ≤ o) (h2 : o < 10) (hx : bdd x) (hy : bdd y) : okT o (y :: x :: r) := by
  unfold okT; rw [if_neg (by omega), if_neg (by omega), if_neg (by omega), if_pos h2]; exact ⟨y, x, r, rfl, hx, hy⟩
theorem okT_c {o x y : Int} {r : List Int} (h1 : 10 ≤ o) (h2 : o < 20) : okT o (y :: x :: r) := by
  unfold okT; rw [if_neg (by omega), if_neg (by omega), if_neg (by omega), if_neg (by omega), if_pos h2]; exact ⟨y, x, r, rfl⟩
theorem okT_n {a : Int} {r : List Int} (ha : a = 0 ∨ a = 1) : okT 20 (a :: r) := by
  unfold okT; rw [if_neg (by decide), if_neg (by decide), if_neg (by decide), if_neg (by decide), if_neg (by decide), if_pos rfl]; exact ⟨a, r, rfl, ha⟩
theorem okT_b {o t u : Int} {r : List Int} (h1 : 21 ≤ o) (hu : u = 0 ∨ u = 1) (ht : t = 0 ∨ t = 1) : okT o (u :: t :: r) := by
  unfold okT; rw [if_neg (by omega), if_neg (by omega), if_neg (by omega), if_neg (by omega), if_neg (by omega), if_neg (by omega)]; exact ⟨u, t, r, rfl, hu, ht⟩
def okA (E : List (Int × Int)) : Prop := ∀ q ∈ E, okOp q = true
/-- steps that leave one value -/
def GdE (E : List (Int × Int)) : Prop := okA E ∧ ∃ f : (Int → Int) → Int, ∀ nm, (∀ vs ts, runM nm E vs ts = some (f nm :: vs, ts)) ∧ (∀ st, runC nm E st = f nm :: st) ∧ ((∀ v, bdd (nm v)) → bdd (f nm) ∧ ∀ st, okRn nm E st)
/-- steps that leave one truth -/
def GdB (E : List (Int × Int)) : Prop := okA E ∧ ∃ g : (Int → Int) → Bool, ∀ nm, (∀ ts, runM nm E [] ts = some ([], g nm :: ts)) ∧ (∀ st, runC nm E st = b2i (g nm) :: st) ∧ ((∀ v, bdd (nm v)) → ∀ st, okRn nm E st)
theorem okA_a {E F : List (Int × Int)} (h : okA E) (g : okA F) : okA (E ++ F) := fun q hq => by
  rcases List.mem_append.mp hq with w | w
  · exact h q w
  · exact g q w
theorem okA_1 {o v : Int} (h : okOp (o, v) = true) : okA [(o, v)] := fun q hq => by
  rw [List.mem_singleton.mp hq]; exact h
theorem farV_d (v : Int) : bdd (farV v) := by
  unfold farV bdd
  split
  · omega
  · split <;> omega
theorem GdE_2 {E : List (Int × Int)} (h : GdE E) : GdE (E ++ [(2, 0)]) := by
  obtain ⟨a, f, hf⟩ := h
  refine ⟨okA_a a (okA_1 rfl), fun nm => -(f nm), fun nm => ?_⟩
  obtain ⟨h1, h2, h3⟩ := hf nm
  refine ⟨fun vs ts => by rw [runM_a, h1]; rfl, fun st => by rw [runC_a, h2]; rfl, fun hb => ?_⟩
  obtain ⟨b1, b2⟩ := h3 hb
  refine ⟨?_, fun st => okRn_a nm _ _ st (b2 st) ?_⟩
  · show bdd (-(f nm))
    unfold bdd at *; omega
  · rw [h2]; exact ⟨okT_2 b1, trivial⟩
theorem GdE_3 {E F : List (Int × Int)} (h : GdE E) (g : GdE F) {o : Int} (ho : o = 3 ∨ o = 4 ∨ o = 5) : GdE (E ++ F ++ [(o, 0)]) := by
  obtain ⟨a, f, hf⟩ := h
  obtain ⟨b, k, hk⟩ := g
  refine ⟨okA_a (okA_a a b) (okA_1 (by rcases ho with e | e | e <;> subst e <;> rfl)), fun nm => twoV o (f nm) (k nm), fun nm => ?_⟩
  obtain ⟨h1, h2, h3⟩ := hf nm
  obtain ⟨g1, g2, g3⟩ := hk nm
  refine ⟨fun vs ts => ?_, fun st => ?_, fun hb => ⟨farV_d _, fun st => okRn_a nm _ _ st (okRn_a nm _ _ st ((h3 hb).2 st) ((g3 hb).2 _)) ?_⟩⟩
  case refine_3 =>
    rw [runC_a, h2, g2]
    exact ⟨okT_3 (by omega) (by omega) (h3 hb).1 (g3 hb).1, trivial⟩
  · rw [runM_a, runM_a, h1]
    show ((runM nm F (f nm :: vs) ts).bind _) = _
    rw [g1]
    rcases ho with e | e | e <;> subst e <;> rfl
  · rw [runC_a, runC_a, h2, g2]
    rcases ho with e | e | e <;> subst e <;> rfl
theorem GdB_c {E F : List (Int × Int)} (h : GdE E) (g : GdE F) {o : Int} (ho : 10 ≤ o) (ho2 : o ≤ 15) : GdB (E ++ F ++ [(o, 0)]) := by
  obtain ⟨a, f, hf⟩ := h
  obtain ⟨b, k, hk⟩ := g
  have hc : o = 10 ∨ o = 11 ∨ o = 12 ∨ o = 13 ∨ o = 14 ∨ o = 15 := by omega
  refine ⟨okA_a (okA_a a b) (okA_1 (by rcases hc with e | e | e | e | e | e <;> subst e <;> rfl)), fun nm => soV o (f nm) (k nm), fun nm => ?_⟩
  obtain ⟨h1, h2, h3⟩ := hf nm
  obtain ⟨g1, g2, g3⟩ := hk nm
  refine ⟨fun ts => ?_, fun st => ?_, fun hb st => okRn_a nm _ _ st (okRn_a nm _ _ st ((h3 hb).2 st) ((g3 hb).2 _)) ?_⟩
  case refine_3 =>
    rw [runC_a, h2, g2]
    exact ⟨okT_c ho (by omega), trivial⟩
  · rw [runM_a, runM_a, h1]
    show ((runM nm F [f nm] ts).bind _) = _
    rw [g1]
    rcases hc with e | e | e | e | e | e <;> subst e <;> rfl
  · rw [runC_a, runC_a, h2, g2]
    rcases hc with e | e | e | e | e | e <;> subst e <;> rfl
theorem GdB_n {E : List (Int × Int)} (h : GdB E) : GdB (E ++ [(20, 0)]) := by
  obtain ⟨a, f, hf⟩ := h
  refine ⟨okA_a a (okA_1 rfl), fun nm => !(f nm), fun nm => ?_⟩
  obtain ⟨h1, h2, h3⟩ := hf nm
  refine ⟨fun ts => by rw [runM_a, h1]; rfl, fun st => ?_, fun hb st => okRn_a nm _ _ st (h3 hb st) ?_⟩
  case refine_2 =>
    rw [h2]
    exact ⟨okT_n (b2i_o _), trivial⟩
  rw [runC_a, h2]
  show (1 - b2i (f nm)) :: st = b2i (!(f nm)) :: st
  cases f nm <;> rfl
theorem GdB_2 {E F : List (Int × Int)} (h : GdB E) (g : GdB F) {o : Int} (ho : o = 21 ∨ o = 22) : GdB (E ++ F ++ [(o, 0)]) := by
  obtain ⟨a, f, hf⟩ := h
  obtain ⟨b, k, hk⟩ := g
  refine ⟨okA_a (okA_a a b) (okA_1 (by rcases ho with e | e <;> subst e <;> rfl)), fun nm => if o = 21 then f nm && k nm else f nm || k nm, fun nm => ?_⟩
  obtain ⟨h1, h2, h3⟩ := hf nm
  obtain ⟨g1, g2, g3⟩ := hk nm
  refine ⟨fun ts => ?_, fun st => ?_, fun hb st => okRn_a nm _ _ st (okRn_a nm _ _ st (h3 hb st) (g3 hb _)) ?_⟩
  case refine_3 =>
    rw [runC_a, h2, g2]
    exact ⟨okT_b (by omega) (b2i_o _) (b2i_o _), trivial⟩
  · rw [runM_a, runM_a, h1]
    show ((runM nm F [] (f nm :: ts)).bind _) = _
    rw [g1]
    rcases ho with e | e <;> subst e <;> rfl
  · rw [runC_a, runC_a, h2, g2]
    rcases ho with e | e <;> subst e
    · show b2i (decide (b2i (f nm) ≠ 0) && decide (b2i (k nm) ≠ 0)) :: st = b2i (f nm && k nm) :: st
      cases f nm <;> cases k nm <;> rfl
    · show b2i (decide (b2i (f nm) ≠ 0) || decide (b2i (k nm) ≠ 0)) :: st = b2i (f nm || k nm) :: st
      cases f nm <;> cases k nm <;> rfl
/-- whatever P says well, leaves one value -/
def PgE (P : Int → Rs) : Prop := ∀ i, (P i).1 = 0 → GdE (P i).2.2
def PgB (P : Int → Rs) : Prop := ∀ i, (P i).1 = 0 → GdB (P i).2.2
theorem opnd_g (tk nv : Int → Int) (hn : ∀ i, 0 ≤ nv i) : PgE (opnd tk nv) := fun i h => by
  have key : ∀ v : Int, 0 ≤ v → v ≤ 9999 → GdE [(0, v)] := fun v h1 h2 => ⟨okA_1 (by simp [okOp, h1, h2]), fun _ => v, fun nm => ⟨fun _ _ => rfl, fun _ => rfl, fun _ => ⟨by show bdd v; unfold bdd; omega, fun st => ⟨okT_0 st, trivial⟩⟩⟩⟩
  have key1 : ∀ v : Int, 0 ≤ v → v ≤ 3 → GdE [(1, v)] := fun v h1 h2 => ⟨okA_1 (by simp [okOp, h1, h2]), fun nm => nm v, fun nm => ⟨fun _ _ => rfl, fun _ => rfl, fun hb => ⟨hb v, fun st => ⟨okT_1 st, trivial⟩⟩⟩⟩
  unfold opnd at h ⊢
  split at h
  · rename_i e
    rw [if_pos e]
    split at h
    · exact absurd h (show ¬ ((2 : Int) = 0) by decide)
    · rename_i e2
      rw [if_neg e2]
      exact key _ (hn i) (by omega)
  · rename_i e
    rw [if_neg e]
    split at h
    · rename_i e2; rw [if_pos e2]; exact key1 0 (by decide) (by decide)
    · rename_i e2
      rw [if_neg e2]
      split at h
      · rename_i e3; rw [if_pos e3]; exact key1 1 (by decide) (by decide)
      · rename_i e3
        rw [if_neg e3]
        split at h
        · rename_i e4; rw [if_pos e4]; exact key1 2 (by decide) (by decide)
        · rename_i e4
          rw [if_neg e4]
          split at h
          · rename_i e5; rw [if_pos e5]; exact key1 3 (by decide) (by decide)
          · exact absurd h (show ¬ ((1 : Int) = 0) by decide)
theorem mulL_g {tk : Int → Int} {P : Int → Rs} (hP : PgE P) : ∀ (f : Nat) (i : Int) (E : List (Int × Int)), GdE E → (mulL tk P f i).1 = 0 → GdE (E ++ (mulL tk P f i).2.2)
  | 0, i, E, hE, _ => by show GdE (E ++ []); rw [List.append_nil]; exact hE
  | f + 1, i, E, hE, h => by
    unfold mulL at h ⊢
    split at h
    · rename_i e
      rw [if_pos e]
      obtain ⟨h1, h2, -, h4⟩ := pBd_z h
      rw [h4]
      obtain ⟨-, h6, -, h8⟩ := pBd_z h2
      rw [h8]
      have := mulL_g hP f _ _ (GdE_3 (o := 5) hE (hP _ h1) (Or.inr (Or.inr rfl))) h6
      rw [List.append_assoc, List.append_assoc] at this
      exact this
    · rename_i e
      rw [if_neg e]
      show GdE (E ++ []); rw [List.append_nil]; exact hE
theorem term_g {tk : Int → Int} {P : Int → Rs} (hP : PgE P) : PgE (term tk P) := fun i h => by
  unfold term at h ⊢
  obtain ⟨h1, h2, -, h4⟩ := pBd_z h
  rw [h4]
  exact mulL_g hP 300 _ _ (hP _ h1) h2
theorem addL_g {tk : Int → Int} {P : Int → Rs} (hP : PgE P) : ∀ (f : Nat) (i : Int) (E : List (Int × Int)), GdE E → (addL tk P f i).1 = 0 → GdE (E ++ (addL tk P f i).2.2)
  | 0, i, E, hE, _ => by show GdE (E ++ []); rw [List.append_nil]; exact hE
  | f + 1, i, E, hE, h => by
    unfold addL at h ⊢
    split at h
    · rename_i e
      rw [if_pos e]
      obtain ⟨h1, h2, -, h4⟩ := pBd_z h
      rw [h4]
      obtain ⟨-, h6, -, h8⟩ := pBd_z h2
      rw [h8]
      have := addL_g hP f _ _ (GdE_3 (o := addO (tk i)) hE (term_g hP _ h1) (by unfold addO; split <;> simp)) h6
      rw [List.append_assoc, List.append_assoc] at this
      exact this
    · rename_i e
      rw [if_neg e]
      show GdE (E ++ []); rw [List.append_nil]; exact hE
theorem expr_g {tk : Int → Int} {P : Int → Rs} (hP : PgE P) : PgE (expr tk P) := fun i h => by
  unfold expr at h ⊢
  obtain ⟨h1, h2, -, h4⟩ := pBd_z h
  rw [h4]
  exact addL_g hP 300 _ _ (term_g hP _ h1) h2
theorem fac_g (tk nv : Int → Int) (hn : ∀ i, 0 ≤ nv i) : ∀ m : Nat, PgE (fac tk nv m)
  | 0, i, h => by
    unfold fac at h ⊢
    split at h
    · exact absurd h (show ¬ ((3 : Int) = 0) by decide)
    · rename_i e; rw [if_neg e]; exact opnd_g tk nv hn i h
  | m + 1, i, h => by
    unfold fac at h ⊢
    split at h
    · rename_i e
      rw [if_pos e]
      obtain ⟨h1, h2, -, h4⟩ := pBd_z h
      rw [h4]
      split at h2
      · rename_i e2
        rw [if_pos e2]
        show GdE (_ ++ []); rw [List.append_nil]
        exact expr_g (fac_g tk nv hn m) _ h1
      · exact absurd h2 (show ¬ ((1 : Int) = 0) by decide)
    · rename_i e
      rw [if_neg e]
      split at h
      · rename_i e2
        rw [if_pos e2]
        obtain ⟨h1, h2, -, h4⟩ := pBd_z h
        rw [h4]
        exact GdE_2 (fac_g tk nv hn m _ h1)
      · rename_i e2
        rw [if_neg e2]; exact opnd_g tk nv hn i h
theorem cmpE_g {tk : Int → Int} {P : Int → Rs} (hP : PgE P) : PgB (cmpE tk P) := fun i h => by
  unfold cmpE at h ⊢
  obtain ⟨h1, h2, -, h4⟩ := pBd_z h
  rw [h4]
  split at h2
  · exact absurd h2 (show ¬ ((1 : Int) = 0) by decide)
  · rename_i e
    rw [if_neg e]
    obtain ⟨h5, -, -, h8⟩ := pBd_z h2
    rw [h8]
    have := GdB_c (o := cmpO (tk (expr tk P i).2.1)) (expr_g (tk := tk) hP _ h1) (expr_g (tk := tk) hP _ h5) (by unfold cmpO at *; repeat (split <;> first | omega | skip)) (by unfold cmpO at *; repeat (split <;> first | omega | skip))
    rw [List.append_assoc] at this
    exact this
theorem cmpP_g (tk nv : Int → Int) (hn : ∀ i, 0 ≤ nv i) : ∀ m : Nat, PgB (cmpP tk nv m)
  | 0, i, h => by
    unfold cmpP at h ⊢
    split at h
    · exact absurd h (show ¬ ((3 : Int) = 0) by decide)
    · rename_i e; rw [if_neg e]; exact cmpE_g (fac_g tk nv hn 0) i h
  | m + 1, i, h => by
    unfold cmpP at h ⊢
    split at h
    · rename_i e
      rw [if_pos e]
      obtain ⟨h1, h2, -, h4⟩ := pBd_z h
      rw [h4]
      exact GdB_n (cmpP_g tk nv hn m _ h1)
    · rename_i e; rw [if_neg e]; exact cmpE_g (fac_g tk nv hn (m + 1)) i h
theorem andL_g (tk nv : Int → Int) (hn : ∀ i, 0 ≤ nv i) : ∀ (f : Nat) (i : Int) (E : List (Int × Int)), GdB E → (andL tk nv f i).1 = 0 → GdB (E ++ (andL tk nv f i).2.2)
  | 0, i, E, hE, _ => by show GdB (E ++ []); rw [List.append_nil]; exact hE
  | f + 1, i, E, hE, h => by
    unfold andL at h ⊢
    split at h
    · rename_i e
      rw [if_pos e]
      obtain ⟨h1, h2, -, h4⟩ := pBd_z h
      rw [h4]
      obtain ⟨-, h6, -, h8⟩ := pBd_z h2
      rw [h8]
      have := andL_g tk nv hn f _ _ (GdB_2 (o := 21) hE (cmpP_g tk nv hn 8 _ h1) (Or.inl rfl)) h6
      rw [List.append_assoc, List.append_assoc] at this
      exact this
    · rename_i e
      rw [if_neg e]
      show GdB (E ++ []); rw [List.append_nil]; exact hE
theorem andP_g (tk nv : Int → Int) (hn : ∀ i, 0 ≤ nv i) : PgB (andP tk nv) := fun i h => by
  unfold andP at h ⊢
  obtain ⟨h1, h2, -, h4⟩ := pBd_z h
  rw [h4]
  exact andL_g tk nv hn 300 _ _ (cmpP_g tk nv hn 8 _ h1) h2
theorem orL_g (tk nv : Int → Int) (hn : ∀ i, 0 ≤ nv i) : ∀ (f : Nat) (i : Int) (E : List (Int × Int)), GdB E → (orL tk nv f i).1 = 0 → GdB (E ++ (orL tk nv f i).2.2)
  | 0, i, E, hE, _ => by show GdB (E ++ []); rw [List.append_nil]; exact hE
  | f + 1, i, E, hE, h => by
    unfold orL at h ⊢
    split at h
    · rename_i e
      rw [if_pos e]
      obtain ⟨h1, h2, -, h4⟩ := pBd_z h
      rw [h4]
      obtain ⟨-, h6, -, h8⟩ := pBd_z h2
      rw [h8]
      have := orL_g tk nv hn f _ _ (GdB_2 (o := 22) hE (andP_g tk nv hn _ h1) (Or.inr rfl)) h6
      rw [List.append_assoc, List.append_assoc] at this
      exact this
    · rename_i e
      rw [if_neg e]
      show GdB (E ++ []); rw [List.append_nil]; exact hE
theorem orP_g (tk nv : Int → Int) (hn : ∀ i, 0 ≤ nv i) : PgB (orP tk nv) := fun i h => by
  unfold orP at h ⊢
  obtain ⟨h1, h2, -, h4⟩ := pBd_z h
  rw [h4]
  exact orL_g tk nv hn 300 _ _ (andP_g tk nv hn _ h1) h2
