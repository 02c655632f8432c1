/-! runs of the machine: with fuel (inn), without (Rr: the limit), calls at a depth (Cd); each run is its step and the run behind it -/
def entL : List AV → LVs
  | [] => []
  | .inr (.inl z) :: r => some (.inr (.inl z)) :: none :: entL r
  | .inl z :: r => some (.inl z) :: entL r
  | .inr (.inr z) :: r => some (.inr (.inr z)) :: entL r
def ent (n : Nat) (args : List AV) : LVs := entL args ++ List.replicate (n - (entL args).length) none
abbrev CF : Type := Nat → List AV → HP → Option RT
/-- a store; that no long lies just ahead is held of the tables (05.check, okLg) -/
def t1 (ls : LVs) (a : Nat) (v : AV) (f : LVs → Option RT) : Option RT := match Nat.blt a ls.length with | true => f (ls.set a (some v)) | false => none
def t2 (ls : LVs) (a : Nat) (v : AV) (f : LVs → Option RT) : Option RT := match Nat.blt (a + 1) ls.length with | true => f ((ls.set a (some v)).set (a + 1) none) | false => none
def sK0 (cf : CF) (ri : RI) (pc : Nat) (ls : LVs) (st : List AV) (hp : HP) (k : KT) : Option RT :=
  match ri with
  | (0, _, _, _, _, z) => k (pc + 1) ls (vI z :: st) hp
  | (1, _, _, _, _, z) => k (pc + 1) ls (vI z :: st) hp
  | (2, _, _, _, _, z) => k (pc + 1) ls (vI z :: st) hp
  | (3, _, _, _, _, z) => k (pc + 1) ls (vI z :: st) hp
  | (4, _, _, _, _, z) => k (pc + 1) ls (vI z :: st) hp
  | _ => none
def sK1 (cf : CF) (ri : RI) (pc : Nat) (ls : LVs) (st : List AV) (hp : HP) (k : KT) : Option RT :=
  match ri with
  | (5, a, _, _, _, _) => lI ls a fun x => k (pc + 1) ls (vI x :: st) hp
  | (6, a, _, _, _, _) => lL ls a fun x => k (pc + 1) ls (vL x :: st) hp
  | (7, a, _, _, _, _) => lA ls a fun x => k (pc + 1) ls (vA x :: st) hp
  | (8, a, _, _, _, _) => e1I st fun x r => t1 ls a (vI x) fun l => k (pc + 1) l r hp
  | (9, a, _, _, _, _) => e1L st fun x r => t2 ls a (vL x) fun l => k (pc + 1) l r hp
  | (10, a, _, _, _, _) => e1A st fun x r => t1 ls a (vA x) fun l => k (pc + 1) l r hp
  | (11, a, _, _, _, z) => lI ls a fun x => t1 ls a (vI (w32 (x + z))) fun l => k (pc + 1) l st hp
  | _ => none
def sK2 (cf : CF) (ri : RI) (pc : Nat) (ls : LVs) (st : List AV) (hp : HP) (k : KT) : Option RT :=
  match ri with
  | (12, a, b, 1, _, _) => e1A st fun o r => (gF hp a b o).bind fun x => k (pc + 1) ls (vL x :: r) hp
  | (12, a, b, 2, _, _) => e1A st fun o r => (gF hp a b o).bind fun x => k (pc + 1) ls (vA x :: r) hp
  | (12, a, b, _, _, _) => e1A st fun o r => (gF hp a b o).bind fun x => k (pc + 1) ls (vI x :: r) hp
  | (13, a, b, 0, _, _) => eIA st fun o v r => (pF hp a b o v).bind fun h => k (pc + 1) ls r h
  | (13, a, b, 1, _, _) => eLA st fun o v r => (pF hp a b o v).bind fun h => k (pc + 1) ls r h
  | (13, a, b, 2, _, _) => eAA st fun o v r => (pF hp a b o v).bind fun h => k (pc + 1) ls r h
  | (13, a, b, _, _, _) => eIA st fun o v r => if v = 0 ∨ v = 1 then (pF hp a b o v).bind fun h => k (pc + 1) ls r h else none
  | _ => none
def sK3 (cf : CF) (ri : RI) (pc : Nat) (ls : LVs) (st : List AV) (hp : HP) (k : KT) : Option RT :=
  match ri with
  | (14, _, _, _, _, _) => eIA st fun o i r => (gA hp 0 o i).bind fun x => k (pc + 1) ls (vI x :: r) hp
  | (15, _, _, _, _, _) => eIA st fun o i r => (gA hp 1 o i).bind fun x => k (pc + 1) ls (vL x :: r) hp
  | (16, _, _, _, _, _) => eIA st fun o i r => (gA hp 2 o i).bind fun x => k (pc + 1) ls (vI x :: r) hp
  | (17, _, _, _, _, _) => eIA st fun o i r => (gR hp o i).bind fun x => k (pc + 1) ls (vA x :: r) hp
  | (18, _, _, _, _, _) => eIIA st fun o i v r => (pA hp 0 o i v).bind fun h => k (pc + 1) ls r h
  | (19, _, _, _, _, _) => eLIA st fun o i v r => (pA hp 1 o i v).bind fun h => k (pc + 1) ls r h
  | (20, _, _, _, _, _) => eIIA st fun o i v r => if v = 0 ∨ v = 1 then (pA hp 2 o i v).bind fun h => k (pc + 1) ls r h else none
  | (21, _, _, _, _, _) => eAIA st fun o i v r => (pR hp o i v).bind fun h => k (pc + 1) ls r h
  | (22, _, _, _, _, _) => e1A st fun o r => (gL hp o).bind fun x => k (pc + 1) ls (vI x :: r) hp
  | _ => none
def sK4 (cf : CF) (ri : RI) (pc : Nat) (ls : LVs) (st : List AV) (hp : HP) (k : KT) : Option RT :=
  match ri with
  | (23, _, _, _, _, _) => e2I st fun x y r => k (pc + 1) ls (vI (w32 (x + y)) :: r) hp
  | (24, _, _, _, _, _) => e2I st fun x y r => k (pc + 1) ls (vI (w32 (x - y)) :: r) hp
  | (25, _, _, _, _, _) => e2I st fun x y r => k (pc + 1) ls (vI (w32 (x * y)) :: r) hp
  | (26, _, _, _, _, _) => e2I st fun x y r => k (pc + 1) ls (vI (iand x y) :: r) hp
  | (27, _, _, _, _, _) => e2I st fun x y r => k (pc + 1) ls (vI (ior x y) :: r) hp
  | (28, _, _, _, _, _) => e2I st fun x y r => k (pc + 1) ls (vI (ixor x y) :: r) hp
  | _ => none
def sK5 (cf : CF) (ri : RI) (pc : Nat) (ls : LVs) (st : List AV) (hp : HP) (k : KT) : Option RT :=
  match ri with
  | (29, _, _, _, _, _) => e2I st fun x y r => k (pc + 1) ls (vI (ishl x y) :: r) hp
  | (30, _, _, _, _, _) => e2I st fun x y r => k (pc + 1) ls (vI (ishr x y) :: r) hp
  | (31, _, _, _, _, _) => e2I st fun x y r => k (pc + 1) ls (vI (iushr x y) :: r) hp
  | (32, _, _, _, _, _) => e2I st fun x y r => if y = 0 then none else k (pc + 1) ls (vI (idiv x y) :: r) hp
  | (33, _, _, _, _, _) => e2I st fun x y r => if y = 0 then none else k (pc + 1) ls (vI (irem x y) :: r) hp
  | (34, _, _, _, _, _) => e1I st fun x r => k (pc + 1) ls (vI (w32 (-x)) :: r) hp
  | _ => none
def sK6 (cf : CF) (ri : RI) (pc : Nat) (ls : LVs) (st : List AV) (hp : HP) (k : KT) : Option RT :=
  match ri with
  | (35, _, _, _, _, _) => e2L st fun x y r => k (pc + 1) ls (vL (w64 (x + y)) :: r) hp
  | (36, _, _, _, _, _) => e2L st fun x y r => k (pc + 1) ls (vL (w64 (x - y)) :: r) hp
  | (37, _, _, _, _, _) => e2L st fun x y r => k (pc + 1) ls (vL (w64 (x * y)) :: r) hp
  | (38, _, _, _, _, _) => e2L st fun x y r => k (pc + 1) ls (vL (lland x y) :: r) hp
  | (39, _, _, _, _, _) => e2L st fun x y r => k (pc + 1) ls (vL (llor x y) :: r) hp
  | (40, _, _, _, _, _) => e2L st fun x y r => if y = 0 then none else k (pc + 1) ls (vL (lldiv x y) :: r) hp
  | (41, _, _, _, _, _) => e2L st fun x y r => if y = 0 then none else k (pc + 1) ls (vL (llrem x y) :: r) hp
  | (42, _, _, _, _, _) => e1L st fun x r => k (pc + 1) ls (vL (w64 (-x)) :: r) hp
  | _ => none
def sK7 (cf : CF) (ri : RI) (pc : Nat) (ls : LVs) (st : List AV) (hp : HP) (k : KT) : Option RT :=
  match ri with
  | (43, _, _, _, _, _) => e1I st fun x r => k (pc + 1) ls (vL x :: r) hp
  | (44, _, _, _, _, _) => e1L st fun x r => k (pc + 1) ls (vI (w32 x) :: r) hp
  | (45, _, _, _, _, _) => e2L st fun x y r => k (pc + 1) ls (vI (lcmp x y) :: r) hp
  | (46, _, _, _, _, _) => eLI st fun x y r => k (pc + 1) ls (vL (llshl x y) :: r) hp
  | (47, _, _, _, _, z) => k (pc + 1) ls (vL z :: st) hp
  | (48, _, _, _, _, z) => k (pc + 1) ls (vL z :: st) hp
  | (49, _, _, _, _, _) => e1I st fun x r => k (pc + 1) ls (vI (i2c x) :: r) hp
  | _ => none
def sK8 (cf : CF) (ri : RI) (pc : Nat) (ls : LVs) (st : List AV) (hp : HP) (k : KT) : Option RT :=
  match ri with
  | (50, _, _, _, _, _) => match st with
    | .inl x :: r => k (pc + 1) ls (vI x :: vI x :: r) hp
    | .inr (.inr x) :: r => k (pc + 1) ls (vA x :: vA x :: r) hp
    | _ => none
  | (51, _, _, _, _, _) => eIA st fun o i r => k (pc + 1) ls (vI i :: vA o :: vI i :: vA o :: r) hp
  | (52, _, _, _, _, _) => match st with
    | .inl _ :: r => k (pc + 1) ls r hp
    | .inr (.inr _) :: r => k (pc + 1) ls r hp
    | _ => none
  | _ => none
def sK9 (cf : CF) (ri : RI) (pc : Nat) (ls : LVs) (st : List AV) (hp : HP) (k : KT) : Option RT :=
  match ri with
  | (53, 0, b, _, _, _) => e1I st fun x r => if x = 0 then k b ls r hp else k (pc + 1) ls r hp
  | (53, 1, b, _, _, _) => e1I st fun x r => if x = 0 then k (pc + 1) ls r hp else k b ls r hp
  | (53, 2, b, _, _, _) => e1I st fun x r => if x < 0 then k b ls r hp else k (pc + 1) ls r hp
  | (53, 3, b, _, _, _) => e1I st fun x r => if x < 0 then k (pc + 1) ls r hp else k b ls r hp
  | (53, 4, b, _, _, _) => e1I st fun x r => if 0 < x then k b ls r hp else k (pc + 1) ls r hp
  | (53, _, b, _, _, _) => e1I st fun x r => if 0 < x then k (pc + 1) ls r hp else k b ls r hp
  | _ => none
def sK10 (cf : CF) (ri : RI) (pc : Nat) (ls : LVs) (st : List AV) (hp : HP) (k : KT) : Option RT :=
  match ri with
  | (54, 0, b, _, _, _) => e2I st fun x y r => if x = y then k b ls r hp else k (pc + 1) ls r hp
  | (54, 1, b, _, _, _) => e2I st fun x y r => if x = y then k (pc + 1) ls r hp else k b ls r hp
  | (54, 2, b, _, _, _) => e2I st fun x y r => if x < y then k b ls r hp else k (pc + 1) ls r hp
  | (54, 3, b, _, _, _) => e2I st fun x y r => if x < y then k (pc + 1) ls r hp else k b ls r hp
  | (54, 4, b, _, _, _) => e2I st fun x y r => if y < x then k b ls r hp else k (pc + 1) ls r hp
  | (54, _, b, _, _, _) => e2I st fun x y r => if y < x then k (pc + 1) ls r hp else k b ls r hp
  | _ => none
def sK11 (cf : CF) (ri : RI) (pc : Nat) (ls : LVs) (st : List AV) (hp : HP) (k : KT) : Option RT :=
  match ri with
  | (55, _, b, _, _, _) => e1A st fun x r => if x = 0 then none else if x < 0 then k b ls r hp else k (pc + 1) ls r hp
  | (56, _, b, _, _, _) => e1A st fun x r => if x = 0 then none else if x < 0 then k (pc + 1) ls r hp else k b ls r hp
  | (57, _, b, _, _, _) => k b ls st hp
  | (58, a, _, _, _, _) => e1I st fun x r => swi x (swP a) (swD a) fun t => k t ls r hp
  | (59, a, _, _, _, _) => e1I st fun x r => swi x (swP a) (swD a) fun t => k t ls r hp
  | _ => none
def sK12 (cf : CF) (ri : RI) (pc : Nat) (ls : LVs) (st : List AV) (hp : HP) (k : KT) : Option RT :=
  match ri with
  | (60, _, _, _, _, _) => match st with | [] => some ([], hp) | _ => none
  | (61, _, _, _, _, _) => match st with | [.inl x] => some ([vI x], hp) | _ => none
  | (62, _, _, _, _, _) => match st with | [.inl x] => if x = 0 ∨ x = 1 then some ([vI x], hp) else none | _ => none
  | (63, _, _, _, _, _) => match st with | [.inr (.inl x)] => some ([vL x], hp) | _ => none
  | (64, _, _, _, _, _) => match st with | [.inr (.inr x)] => if x = 0 then none else some ([vA x], hp) | _ => none
  | (65, _, _, _, _, _) => match st with | [.inl x] => if 0 ≤ x ∧ x < 65536 then some ([vI x], hp) else none | _ => none
  | (66, _, _, _, _, _) => match st with | [.inl x] => if -128 ≤ x ∧ x < 128 then some ([vI x], hp) else none | _ => none
  | _ => none
/-- how wide what lies below a call may be -/
def wlim (z : Int) : Nat := match z with | 0 => 16 | _ => 8
def sK13 (cf : CF) (ri : RI) (pc : Nat) (ls : LVs) (st : List AV) (hp : HP) (k : KT) : Option RT :=
  match ri with
  | (67, a, b, 0, _, z) => if wid (st.drop b) ≤ wlim z then ((cf a (st.take b).reverse hp).bind toV).bind fun q => k (pc + 1) ls (st.drop b) q else none
  | (67, a, b, 1, _, z) => if wid (st.drop b) ≤ wlim z then ((cf a (st.take b).reverse hp).bind toI).bind fun q => k (pc + 1) ls (vI q.1 :: st.drop b) q.2 else none
  | (67, a, b, 2, _, z) => if wid (st.drop b) ≤ wlim z then ((cf a (st.take b).reverse hp).bind toL).bind fun q => k (pc + 1) ls (vL q.1 :: st.drop b) q.2 else none
  | (67, a, b, _, _, z) => if wid (st.drop b) ≤ wlim z then ((cf a (st.take b).reverse hp).bind toA).bind fun q => k (pc + 1) ls (vA q.1 :: st.drop b) q.2 else none
  | _ => none
def sK14 (cf : CF) (ri : RI) (pc : Nat) (ls : LVs) (st : List AV) (hp : HP) (k : KT) : Option RT :=
  match ri with
  | (68, a, b, _, _, _) => k (pc + 1) ls (vA hp.1.length :: st) (mk hp a b)
  | (69, a, _, _, _, _) => e1I st fun n r => if 0 ≤ n ∧ n ≤ 100000 then k (pc + 1) ls (vA hp.1.length :: r) (mk hp a n.toNat) else none
  | (70, a, _, _, _, _) => e1I st fun n r => if 0 ≤ n ∧ n ≤ 100000 then k (pc + 1) ls (vA hp.1.length :: r) (mk hp a n.toNat) else none
  | (71, _, _, 0, _, z) => k (pc + 1) ls (vI z :: st) hp
  | (71, _, _, _, _, z) => k (pc + 1) ls (vA z :: st) hp
  | (72, _, _, _, _, _) => k (pc + 1) ls (vA (-1) :: st) hp
  | (73, _, _, _, _, z) => k (pc + 1) ls (vA z :: st) hp
  | (74, _, _, _, _, _) => eCP st fun so sp d dp n r => if wid r ≤ 8 then (acp hp so sp d dp n).bind fun h => k (pc + 1) ls r h else none
  | (75, _, _, _, _, _) => e1A st fun x r => if 0 < x ∧ wid r ≤ 8 then k (pc + 1) ls r hp else none
  | (76, _, _, _, _, _) => e1I st fun x r => k (pc + 1) ls (vI (i2b x) :: r) hp
  | _ => none
def stp (cf : CF) (ri : RI) (pc : Nat) (ls : LVs) (st : List AV) (hp : HP) (k : KT) : Option RT :=
  match Nat.ble ri.1 4 with
  | true => sK0 cf ri pc ls st hp k
  | false =>
  match Nat.ble ri.1 11 with
  | true => sK1 cf ri pc ls st hp k
  | false =>
  match Nat.ble ri.1 13 with
  | true => sK2 cf ri pc ls st hp k
  | false =>
  match Nat.ble ri.1 22 with
  | true => sK3 cf ri pc ls st hp k
  | false =>
  match Nat.ble ri.1 28 with
  | true => sK4 cf ri pc ls st hp k
  | false =>
  match Nat.ble ri.1 34 with
  | true => sK5 cf ri pc ls st hp k
  | false =>
  match Nat.ble ri.1 42 with
  | true => sK6 cf ri pc ls st hp k
  | false =>
  match Nat.ble ri.1 49 with
  | true => sK7 cf ri pc ls st hp k
  | false =>
  match Nat.ble ri.1 52 with
  | true => sK8 cf ri pc ls st hp k
  | false =>
  match Nat.ble ri.1 53 with
  | true => sK9 cf ri pc ls st hp k
  | false =>
  match Nat.ble ri.1 54 with
  | true => sK10 cf ri pc ls st hp k
  | false =>
  match Nat.ble ri.1 59 with
  | true => sK11 cf ri pc ls st hp k
  | false =>
  match Nat.ble ri.1 66 with
  | true => sK12 cf ri pc ls st hp k
  | false =>
  match Nat.ble ri.1 67 with
  | true => sK13 cf ri pc ls st hp k
  | false =>
  sK14 cf ri pc ls st hp k
def inn (cf : CF) (y : Nat) : Nat → KT
  | 0 => fun _ _ _ _ => none
  | n + 1 => fun pc ls st hp => match cdAt y pc with | some ri => stp cf ri pc ls st hp (inn cf y n) | none => none
theorem inn_succ (cf : CF) (y n pc : Nat) (ls : LVs) (st : List AV) (hp : HP) : inn cf y (n + 1) pc ls st hp = match cdAt y pc with | some ri => stp cf ri pc ls st hp (inn cf y n) | none => none := rfl
/-- the shape only grows -/
def Gr (h h' : HP) : Prop := ∃ e, h'.1 = h.1 ++ e
theorem Gr_rf (h : HP) : Gr h h := ⟨[], by simp⟩
theorem Gr.tr {a b c : HP} (h1 : Gr a b) (h2 : Gr b c) : Gr a c := by
  obtain ⟨e, h1⟩ := h1; obtain ⟨f, h2⟩ := h2
  exact ⟨e ++ f, by rw [h2, h1, List.append_assoc]⟩
theorem Gr_same {h h' : HP} (e : h'.1 = h.1) : Gr h h' := ⟨[], by simp [e]⟩
theorem Gr_mk (h : HP) (t n : Nat) : Gr h (mk h t n) := ⟨[(t, n)], rfl⟩
theorem pF_gr {hp h : HP} {t k : Nat} {o v : Int} (e : pF hp t k o v = some h) : Gr hp h := by
  unfold pF at e
  cases hq : gS hp o with
  | none => rw [hq] at e; simp at e
  | some q => rw [hq] at e; simp only [Option.bind_some] at e; split at e <;> simp at e; subst e; exact Gr_same rfl
theorem pA_gr {hp h : HP} {a : Nat} {o i v : Int} (e : pA hp a o i v = some h) : Gr hp h := by
  unfold pA at e
  cases hq : gS hp o with
  | none => rw [hq] at e; simp at e
  | some q => rw [hq] at e; simp only [Option.bind_some] at e; split at e <;> simp at e; subst e; exact Gr_same rfl
theorem pR_gr {hp h : HP} {o i v : Int} (e : pR hp o i v = some h) : Gr hp h := by
  unfold pR at e
  cases hq : gS hp o with
  | none => rw [hq] at e; simp at e
  | some q =>
    rw [hq] at e; simp only [Option.bind_some] at e
    cases hq2 : gS hp v with
    | none => rw [hq2] at e; simp at e
    | some q2 => rw [hq2] at e; simp only [Option.bind_some] at e; split at e <;> simp at e; subst e; exact Gr_same rfl
theorem acp_gr {hp h : HP} {so sp d dp n : Int} (e : acp hp so sp d dp n = some h) : Gr hp h := by
  unfold acp at e
  cases hq : gS hp so with
  | none => rw [hq] at e; simp at e
  | some q =>
    rw [hq] at e; simp only [Option.bind_some] at e
    cases hq2 : gS hp d with
    | none => rw [hq2] at e; simp at e
    | some q2 => rw [hq2] at e; simp only [Option.bind_some] at e; split at e <;> simp at e; subst e; exact Gr_same rfl
/-- a step: it sticks, or it ends, or it goes on in one place; G: what is said of the heaps behind it -/
def Lin (G : HP → Prop) (F : KT → Option RT) : Prop := (∀ k, F k = none) ∨ (∃ r, G r.2 ∧ ∀ k, F k = some r) ∨ ∃ (a : Nat) (b : LVs) (c : List AV) (d : HP), G d ∧ ∀ k, F k = k a b c d
theorem Lin_no {G : HP → Prop} : Lin G (fun _ => none) := Or.inl fun _ => rfl
theorem Lin_ret {G : HP → Prop} {r : RT} (h : G r.2) : Lin G (fun _ => some r) := Or.inr (Or.inl ⟨r, h, fun _ => rfl⟩)
theorem Lin_go {G : HP → Prop} {a : Nat} {b : LVs} {c : List AV} {d : HP} (h : G d) : Lin G (fun k => k a b c d) := Or.inr (Or.inr ⟨a, b, c, d, h, fun _ => rfl⟩)
theorem Lin_bnd {G : HP → Prop} {α : Type} (o : Option α) {f : α → KT → Option RT} (h : ∀ a, o = some a → Lin G (f a)) : Lin G (fun k => o.bind fun a => f a k) := by
  cases o with
  | none => exact Or.inl fun _ => rfl
  | some a => exact h a rfl
theorem Lin_ite {G : HP → Prop} {p : Prop} {hd : Decidable p} {f g : KT → Option RT} (h1 : p → Lin G f) (h2 : ¬ p → Lin G g) : Lin G (fun k => if p then f k else g k) := by
  by_cases h : p
  · simp only [h, if_true]; exact h1 h
  · simp only [h, if_false]; exact h2 h
theorem Lin_e1I {G : HP → Prop} {st : List AV} {f : Int → List AV → KT → Option RT} (h : ∀ x0 r, Lin G (f x0 r)) : Lin G (fun k => e1I st fun x0 r => f x0 r k) := by
  unfold e1I; split
  · exact h _ _
  · exact Lin_no
theorem Lin_e1L {G : HP → Prop} {st : List AV} {f : Int → List AV → KT → Option RT} (h : ∀ x0 r, Lin G (f x0 r)) : Lin G (fun k => e1L st fun x0 r => f x0 r k) := by
  unfold e1L; split
  · exact h _ _
  · exact Lin_no
theorem Lin_e1A {G : HP → Prop} {st : List AV} {f : Int → List AV → KT → Option RT} (h : ∀ x0 r, Lin G (f x0 r)) : Lin G (fun k => e1A st fun x0 r => f x0 r k) := by
  unfold e1A; split
  · exact h _ _
  · exact Lin_no
theorem Lin_e2I {G : HP → Prop} {st : List AV} {f : Int → Int → List AV → KT → Option RT} (h : ∀ x0 x1 r, Lin G (f x0 x1 r)) : Lin G (fun k => e2I st fun x0 x1 r => f x0 x1 r k) := by
  unfold e2I; split
  · exact h _ _ _
  · exact Lin_no
theorem Lin_e2L {G : HP → Prop} {st : List AV} {f : Int → Int → List AV → KT → Option RT} (h : ∀ x0 x1 r, Lin G (f x0 x1 r)) : Lin G (fun k => e2L st fun x0 x1 r => f x0 x1 r k) := by
  unfold e2L; split
  · exact h _ _ _
  · exact Lin_no
theorem Lin_eLI {G : HP → Prop} {st : List AV} {f : Int → Int → List AV → KT → Option RT} (h : ∀ x0 x1 r, Lin G (f x0 x1 r)) : Lin G (fun k => eLI st fun x0 x1 r => f x0 x1 r k) := by
  unfold eLI; split
  · exact h _ _ _
  · exact Lin_no
theorem Lin_eIA {G : HP → Prop} {st : List AV} {f : Int → Int → List AV → KT → Option RT} (h : ∀ x0 x1 r, Lin G (f x0 x1 r)) : Lin G (fun k => eIA st fun x0 x1 r => f x0 x1 r k) := by
  unfold eIA; split
  · exact h _ _ _
  · exact Lin_no
theorem Lin_eLA {G : HP → Prop} {st : List AV} {f : Int → Int → List AV → KT → Option RT} (h : ∀ x0 x1 r, Lin G (f x0 x1 r)) : Lin G (fun k => eLA st fun x0 x1 r => f x0 x1 r k) := by
  unfold eLA; split
  · exact h _ _ _
  · exact Lin_no
theorem Lin_eAA {G : HP → Prop} {st : List AV} {f : Int → Int → List AV → KT → Option RT} (h : ∀ x0 x1 r, Lin G (f x0 x1 r)) : Lin G (fun k => eAA st fun x0 x1 r => f x0 x1 r k) := by
  unfold eAA; split
  · exact h _ _ _
  · exact Lin_no
theorem Lin_eIIA {G : HP → Prop} {st : List AV} {f : Int → Int → Int → List AV → KT → Option RT} (h : ∀ x0 x1 x2 r, Lin G (f x0 x1 x2 r)) : Lin G (fun k => eIIA st fun x0 x1 x2 r => f x0 x1 x2 r k) := by
  unfold eIIA; split
  · exact h _ _ _ _
  · exact Lin_no
theorem Lin_eLIA {G : HP → Prop} {st : List AV} {f : Int → Int → Int → List AV → KT → Option RT} (h : ∀ x0 x1 x2 r, Lin G (f x0 x1 x2 r)) : Lin G (fun k => eLIA st fun x0 x1 x2 r => f x0 x1 x2 r k) := by
  unfold eLIA; split
  · exact h _ _ _ _
  · exact Lin_no
theorem Lin_eAIA {G : HP → Prop} {st : List AV} {f : Int → Int → Int → List AV → KT → Option RT} (h : ∀ x0 x1 x2 r, Lin G (f x0 x1 x2 r)) : Lin G (fun k => eAIA st fun x0 x1 x2 r => f x0 x1 x2 r k) := by
  unfold eAIA; split
  · exact h _ _ _ _
  · exact Lin_no
theorem Lin_eCP {G : HP → Prop} {st : List AV} {f : Int → Int → Int → Int → Int → List AV → KT → Option RT} (h : ∀ x0 x1 x2 x3 x4 r, Lin G (f x0 x1 x2 x3 x4 r)) : Lin G (fun k => eCP st fun x0 x1 x2 x3 x4 r => f x0 x1 x2 x3 x4 r k) := by
  unfold eCP; split
  · exact h _ _ _ _ _ _
  · exact Lin_no
theorem Lin_lI {G : HP → Prop} {ls : LVs} {a : Nat} {f : Int → KT → Option RT} (h : ∀ x, Lin G (f x)) : Lin G (fun k => lI ls a fun x => f x k) := by
  unfold lI; split
  · exact h _
  · exact Lin_no
theorem Lin_lL {G : HP → Prop} {ls : LVs} {a : Nat} {f : Int → KT → Option RT} (h : ∀ x, Lin G (f x)) : Lin G (fun k => lL ls a fun x => f x k) := by
  unfold lL; split
  · exact h _
  · exact Lin_no
theorem Lin_lA {G : HP → Prop} {ls : LVs} {a : Nat} {f : Int → KT → Option RT} (h : ∀ x, Lin G (f x)) : Lin G (fun k => lA ls a fun x => f x k) := by
  unfold lA; split
  · exact h _
  · exact Lin_no
theorem Lin_t1 {G : HP → Prop} {ls : LVs} {a : Nat} {v : AV} {f : LVs → KT → Option RT} (h : ∀ l, Lin G (f l)) : Lin G (fun k => t1 ls a v fun l => f l k) := by
  unfold t1
  split
  · exact h _
  · exact Lin_no
theorem Lin_t2 {G : HP → Prop} {ls : LVs} {a : Nat} {v : AV} {f : LVs → KT → Option RT} (h : ∀ l, Lin G (f l)) : Lin G (fun k => t2 ls a v fun l => f l k) := by
  unfold t2
  split
  · exact h _
  · exact Lin_no
theorem Lin_swi {G : HP → Prop} {x : Int} {f : Nat → KT → Option RT} (h : ∀ t, Lin G (f t)) : ∀ (l : List (Int × Nat)) (d : Nat), Lin G (fun k => swi x l d fun t => f t k)
  | [], d => h d
  | q :: r, d => Lin_ite (fun _ => h q.2) (fun _ => Lin_swi h r d)
theorem toV_gr {r : RT} {q : HP} (e : toV r = some q) : q = r.2 := by
  unfold toV at e; split at e <;> simp at e; exact e.symm
theorem toI_gr {r : RT} {q : Int × HP} (e : toI r = some q) : q.2 = r.2 := by
  unfold toI at e; split at e <;> simp at e; rw [← e]
theorem toL_gr {r : RT} {q : Int × HP} (e : toL r = some q) : q.2 = r.2 := by
  unfold toL at e; split at e <;> simp at e; rw [← e]
theorem toA_gr {r : RT} {q : Int × HP} (e : toA r = some q) : q.2 = r.2 := by
  unfold toA at e; split at e <;> simp at e; rw [← e]
theorem cf_gr {α : Type} {o : Option RT} {hp : HP} {t : RT → Option α} {w : α → HP} (ht : ∀ r q, t r = some q → w q = r.2) (ho : ∀ r, o = some r → Gr hp r.2) {q : α} (e : o.bind t = some q) : Gr hp (w q) := by
  cases o with
  | none => simp at e
  | some r => rw [ht r q e]; exact ho r rfl
theorem sK0_lin (cf : CF) (ri : RI) (pc : Nat) (ls : LVs) (st : List AV) (hp : HP) (G : HP → Prop) (h0 : G hp) (hG : ∀ h, Gr hp h → G h) (hcf : ∀ z a r, cf z a hp = some r → G r.2) : Lin G (fun k => sK0 cf ri pc ls st hp k) := by
  unfold sK0
  split
  all_goals first
    | with_reducible exact Lin_no
    | with_reducible exact Lin_go h0
    | with_reducible exact Lin_lI fun _ => Lin_go h0
    | with_reducible exact Lin_lL fun _ => Lin_go h0
    | with_reducible exact Lin_lA fun _ => Lin_go h0
    | with_reducible exact Lin_e1I fun _ _ => Lin_t1 fun _ => Lin_go h0
    | with_reducible exact Lin_e1L fun _ _ => Lin_t2 fun _ => Lin_go h0
    | with_reducible exact Lin_e1A fun _ _ => Lin_t1 fun _ => Lin_go h0
    | with_reducible exact Lin_lI fun _ => Lin_t1 fun _ => Lin_go h0
    | with_reducible exact Lin_e1A fun _ _ => Lin_bnd _ fun _ _ => Lin_go h0
    | with_reducible exact Lin_eIA fun _ _ _ => Lin_bnd _ fun _ _ => Lin_go h0
    | with_reducible exact Lin_e2I fun _ _ _ => Lin_go h0
    | with_reducible exact Lin_e2I fun _ _ _ => Lin_ite (fun _ => Lin_no) (fun _ => Lin_go h0)
    | with_reducible exact Lin_e1I fun _ _ => Lin_go h0
    | with_reducible exact Lin_e2L fun _ _ _ => Lin_go h0
    | with_reducible exact Lin_e2L fun _ _ _ => Lin_ite (fun _ => Lin_no) (fun _ => Lin_go h0)
    | with_reducible exact Lin_e1L fun _ _ => Lin_go h0
    | with_reducible exact Lin_eLI fun _ _ _ => Lin_go h0
    | with_reducible exact Lin_eIA fun _ _ _ => Lin_go h0
    | with_reducible exact Lin_e1I fun _ _ => Lin_ite (fun _ => Lin_go h0) (fun _ => Lin_go h0)
    | with_reducible exact Lin_e2I fun _ _ _ => Lin_ite (fun _ => Lin_go h0) (fun _ => Lin_go h0)
    | with_reducible exact Lin_e1A fun _ _ => Lin_ite (fun _ => Lin_no) (fun _ => Lin_ite (fun _ => Lin_go h0) (fun _ => Lin_go h0))
    | with_reducible exact Lin_e1I fun _ _ => Lin_swi (fun _ => Lin_go h0) _ _
    | with_reducible exact Lin_e1A fun _ _ => Lin_ite (fun _ => Lin_go h0) (fun _ => Lin_no)
    | (split <;> first | with_reducible exact Lin_no | with_reducible exact Lin_ret h0 | with_reducible exact Lin_go h0 | with_reducible exact Lin_ite (fun _ => Lin_ret h0) (fun _ => Lin_no) | with_reducible exact Lin_ite (fun _ => Lin_no) (fun _ => Lin_ret h0))
theorem sK1_lin (cf : CF) (ri : RI) (pc : Nat) (ls : LVs) (st : List AV) (hp : HP) (G : HP → Prop) (h0 : G hp) (hG : ∀ h, Gr hp h → G h) (hcf : ∀ z a r, cf z a hp = some r → G r.2) : Lin G (fun k => sK1 cf ri pc ls st hp k) := by
  unfold sK1
  split
  all_goals first
    | with_reducible exact Lin_no
    | with_reducible exact Lin_lI fun _ => Lin_go h0
    | with_reducible exact Lin_lL fun _ => Lin_go h0
    | with_reducible exact Lin_lA fun _ => Lin_go h0
    | with_reducible exact Lin_e1I fun _ _ => Lin_t1 fun _ => Lin_go h0
    | with_reducible exact Lin_e1L fun _ _ => Lin_t2 fun _ => Lin_go h0
    | with_reducible exact Lin_e1A fun _ _ => Lin_t1 fun _ => Lin_go h0
    | with_reducible exact Lin_lI fun _ => Lin_t1 fun _ => Lin_go h0
theorem sK2_lin (cf : CF) (ri : RI) (pc : Nat) (ls : LVs) (st : List AV) (hp : HP) (G : HP → Prop) (h0 : G hp) (hG : ∀ h, Gr hp h → G h) (hcf : ∀ z a r, cf z a hp = some r → G r.2) : Lin G (fun k => sK2 cf ri pc ls st hp k) := by
  unfold sK2
  split
  all_goals first
    | with_reducible exact Lin_no
    | with_reducible exact Lin_e1A fun _ _ => Lin_t1 fun _ => Lin_go h0
    | with_reducible exact Lin_e1A fun _ _ => Lin_bnd _ fun _ _ => Lin_go h0
    | with_reducible exact Lin_eIA fun _ _ _ => Lin_bnd _ fun _ e => Lin_go (hG _ (pF_gr e))
    | with_reducible exact Lin_eLA fun _ _ _ => Lin_bnd _ fun _ e => Lin_go (hG _ (pF_gr e))
    | with_reducible exact Lin_eAA fun _ _ _ => Lin_bnd _ fun _ e => Lin_go (hG _ (pF_gr e))
    | with_reducible exact Lin_eIA fun _ _ _ => Lin_ite (fun _ => Lin_bnd _ fun _ e => Lin_go (hG _ (pF_gr e))) (fun _ => Lin_no)
    | with_reducible exact Lin_eIA fun _ _ _ => Lin_bnd _ fun _ _ => Lin_go h0
    | with_reducible exact Lin_eIA fun _ _ _ => Lin_go h0
    | with_reducible exact Lin_e1A fun _ _ => Lin_ite (fun _ => Lin_no) (fun _ => Lin_ite (fun _ => Lin_go h0) (fun _ => Lin_go h0))
    | with_reducible exact Lin_e1A fun _ _ => Lin_ite (fun _ => Lin_go h0) (fun _ => Lin_no)
theorem sK3_lin (cf : CF) (ri : RI) (pc : Nat) (ls : LVs) (st : List AV) (hp : HP) (G : HP → Prop) (h0 : G hp) (hG : ∀ h, Gr hp h → G h) (hcf : ∀ z a r, cf z a hp = some r → G r.2) : Lin G (fun k => sK3 cf ri pc ls st hp k) := by
  unfold sK3
  split
  all_goals first
    | with_reducible exact Lin_no
    | with_reducible exact Lin_e1A fun _ _ => Lin_t1 fun _ => Lin_go h0
    | with_reducible exact Lin_e1A fun _ _ => Lin_bnd _ fun _ _ => Lin_go h0
    | with_reducible exact Lin_eIA fun _ _ _ => Lin_bnd _ fun _ e => Lin_go (hG _ (pF_gr e))
    | with_reducible exact Lin_eIA fun _ _ _ => Lin_ite (fun _ => Lin_bnd _ fun _ e => Lin_go (hG _ (pF_gr e))) (fun _ => Lin_no)
    | with_reducible exact Lin_eIA fun _ _ _ => Lin_bnd _ fun _ _ => Lin_go h0
    | with_reducible exact Lin_eIIA fun _ _ _ _ => Lin_bnd _ fun _ e => Lin_go (hG _ (pA_gr e))
    | with_reducible exact Lin_eLIA fun _ _ _ _ => Lin_bnd _ fun _ e => Lin_go (hG _ (pA_gr e))
    | with_reducible exact Lin_eIIA fun _ _ _ _ => Lin_ite (fun _ => Lin_bnd _ fun _ e => Lin_go (hG _ (pA_gr e))) (fun _ => Lin_no)
    | with_reducible exact Lin_eAIA fun _ _ _ _ => Lin_bnd _ fun _ e => Lin_go (hG _ (pR_gr e))
    | with_reducible exact Lin_eIA fun _ _ _ => Lin_go h0
    | with_reducible exact Lin_e1A fun _ _ => Lin_ite (fun _ => Lin_no) (fun _ => Lin_ite (fun _ => Lin_go h0) (fun _ => Lin_go h0))
    | with_reducible exact Lin_e1A fun _ _ => Lin_ite (fun _ => Lin_go h0) (fun _ => Lin_no)
theorem sK4_lin (cf : CF) (ri : RI) (pc : Nat) (ls : LVs) (st : List AV) (hp : HP) (G : HP → Prop) (h0 : G hp) (hG : ∀ h, Gr hp h → G h) (hcf : ∀ z a r, cf z a hp = some r → G r.2) : Lin G (fun k => sK4 cf ri pc ls st hp k) := by
  unfold sK4
  split
  all_goals first
    | with_reducible exact Lin_no
    | with_reducible exact Lin_e2I fun _ _ _ => Lin_go h0
    | with_reducible exact Lin_e2I fun _ _ _ => Lin_ite (fun _ => Lin_no) (fun _ => Lin_go h0)
    | with_reducible exact Lin_e2I fun _ _ _ => Lin_ite (fun _ => Lin_go h0) (fun _ => Lin_go h0)
theorem sK5_lin (cf : CF) (ri : RI) (pc : Nat) (ls : LVs) (st : List AV) (hp : HP) (G : HP → Prop) (h0 : G hp) (hG : ∀ h, Gr hp h → G h) (hcf : ∀ z a r, cf z a hp = some r → G r.2) : Lin G (fun k => sK5 cf ri pc ls st hp k) := by
  unfold sK5
  split
  all_goals first
    | with_reducible exact Lin_no
    | with_reducible exact Lin_e1I fun _ _ => Lin_t1 fun _ => Lin_go h0
    | with_reducible exact Lin_e2I fun _ _ _ => Lin_go h0
    | with_reducible exact Lin_e2I fun _ _ _ => Lin_ite (fun _ => Lin_no) (fun _ => Lin_go h0)
    | with_reducible exact Lin_e1I fun _ _ => Lin_go h0
    | with_reducible exact Lin_e1I fun _ _ => Lin_ite (fun _ => Lin_go h0) (fun _ => Lin_go h0)
    | with_reducible exact Lin_e2I fun _ _ _ => Lin_ite (fun _ => Lin_go h0) (fun _ => Lin_go h0)
    | with_reducible exact Lin_e1I fun _ _ => Lin_swi (fun _ => Lin_go h0) _ _
    | with_reducible exact Lin_e1I fun _ _ => Lin_ite (fun _ => Lin_go (hG _ (Gr_mk _ _ _))) (fun _ => Lin_no)
theorem sK6_lin (cf : CF) (ri : RI) (pc : Nat) (ls : LVs) (st : List AV) (hp : HP) (G : HP → Prop) (h0 : G hp) (hG : ∀ h, Gr hp h → G h) (hcf : ∀ z a r, cf z a hp = some r → G r.2) : Lin G (fun k => sK6 cf ri pc ls st hp k) := by
  unfold sK6
  split
  all_goals first
    | with_reducible exact Lin_no
    | with_reducible exact Lin_e1L fun _ _ => Lin_t2 fun _ => Lin_go h0
    | with_reducible exact Lin_e2L fun _ _ _ => Lin_go h0
    | with_reducible exact Lin_e2L fun _ _ _ => Lin_ite (fun _ => Lin_no) (fun _ => Lin_go h0)
    | with_reducible exact Lin_e1L fun _ _ => Lin_go h0
theorem sK7_lin (cf : CF) (ri : RI) (pc : Nat) (ls : LVs) (st : List AV) (hp : HP) (G : HP → Prop) (h0 : G hp) (hG : ∀ h, Gr hp h → G h) (hcf : ∀ z a r, cf z a hp = some r → G r.2) : Lin G (fun k => sK7 cf ri pc ls st hp k) := by
  unfold sK7
  split
  all_goals first
    | with_reducible exact Lin_no
    | with_reducible exact Lin_go h0
    | with_reducible exact Lin_e1I fun _ _ => Lin_t1 fun _ => Lin_go h0
    | with_reducible exact Lin_e1L fun _ _ => Lin_t2 fun _ => Lin_go h0
    | with_reducible exact Lin_eLIA fun _ _ _ _ => Lin_bnd _ fun _ e => Lin_go (hG _ (pA_gr e))
    | with_reducible exact Lin_e1I fun _ _ => Lin_go h0
    | with_reducible exact Lin_e2L fun _ _ _ => Lin_go h0
    | with_reducible exact Lin_e2L fun _ _ _ => Lin_ite (fun _ => Lin_no) (fun _ => Lin_go h0)
    | with_reducible exact Lin_e1L fun _ _ => Lin_go h0
    | with_reducible exact Lin_eLI fun _ _ _ => Lin_go h0
    | with_reducible exact Lin_e1I fun _ _ => Lin_ite (fun _ => Lin_go h0) (fun _ => Lin_go h0)
    | with_reducible exact Lin_e1I fun _ _ => Lin_swi (fun _ => Lin_go h0) _ _
    | with_reducible exact Lin_e1I fun _ _ => Lin_ite (fun _ => Lin_go (hG _ (Gr_mk _ _ _))) (fun _ => Lin_no)
    | (split <;> first | with_reducible exact Lin_no | with_reducible exact Lin_ret h0 | with_reducible exact Lin_go h0 | with_reducible exact Lin_ite (fun _ => Lin_ret h0) (fun _ => Lin_no) | with_reducible exact Lin_ite (fun _ => Lin_no) (fun _ => Lin_ret h0))
theorem sK8_lin (cf : CF) (ri : RI) (pc : Nat) (ls : LVs) (st : List AV) (hp : HP) (G : HP → Prop) (h0 : G hp) (hG : ∀ h, Gr hp h → G h) (hcf : ∀ z a r, cf z a hp = some r → G r.2) : Lin G (fun k => sK8 cf ri pc ls st hp k) := by
  unfold sK8
  split
  all_goals first
    | with_reducible exact Lin_no
    | with_reducible exact Lin_eIA fun _ _ _ => Lin_bnd _ fun _ e => Lin_go (hG _ (pF_gr e))
    | with_reducible exact Lin_eIA fun _ _ _ => Lin_ite (fun _ => Lin_bnd _ fun _ e => Lin_go (hG _ (pF_gr e))) (fun _ => Lin_no)
    | with_reducible exact Lin_eIA fun _ _ _ => Lin_bnd _ fun _ _ => Lin_go h0
    | with_reducible exact Lin_eIA fun _ _ _ => Lin_go h0
    | (split <;> first | with_reducible exact Lin_no | with_reducible exact Lin_ret h0 | with_reducible exact Lin_go h0 | with_reducible exact Lin_ite (fun _ => Lin_ret h0) (fun _ => Lin_no) | with_reducible exact Lin_ite (fun _ => Lin_no) (fun _ => Lin_ret h0))
theorem sK9_lin (cf : CF) (ri : RI) (pc : Nat) (ls : LVs) (st : List AV) (hp : HP) (G : HP → Prop) (h0 : G hp) (hG : ∀ h, Gr hp h → G h) (hcf : ∀ z a r, cf z a hp = some r → G r.2) : Lin G (fun k => sK9 cf ri pc ls st hp k) := by
  unfold sK9
  split
  all_goals first
    | with_reducible exact Lin_no
    | with_reducible exact Lin_e1I fun _ _ => Lin_t1 fun _ => Lin_go h0
    | with_reducible exact Lin_e1I fun _ _ => Lin_go h0
    | with_reducible exact Lin_e1I fun _ _ => Lin_ite (fun _ => Lin_go h0) (fun _ => Lin_go h0)
    | with_reducible exact Lin_e1I fun _ _ => Lin_swi (fun _ => Lin_go h0) _ _
    | with_reducible exact Lin_e1I fun _ _ => Lin_ite (fun _ => Lin_go (hG _ (Gr_mk _ _ _))) (fun _ => Lin_no)
theorem sK10_lin (cf : CF) (ri : RI) (pc : Nat) (ls : LVs) (st : List AV) (hp : HP) (G : HP → Prop) (h0 : G hp) (hG : ∀ h, Gr hp h → G h) (hcf : ∀ z a r, cf z a hp = some r → G r.2) : Lin G (fun k => sK10 cf ri pc ls st hp k) := by
  unfold sK10
  split
  all_goals first
    | with_reducible exact Lin_no
    | with_reducible exact Lin_e2I fun _ _ _ => Lin_go h0
    | with_reducible exact Lin_e2I fun _ _ _ => Lin_ite (fun _ => Lin_no) (fun _ => Lin_go h0)
    | with_reducible exact Lin_e2I fun _ _ _ => Lin_ite (fun _ => Lin_go h0) (fun _ => Lin_go h0)
theorem sK11_lin (cf : CF) (ri : RI) (pc : Nat) (ls : LVs) (st : List AV) (hp : HP) (G : HP → Prop) (h0 : G hp) (hG : ∀ h, Gr hp h → G h) (hcf : ∀ z a r, cf z a hp = some r → G r.2) : Lin G (fun k => sK11 cf ri pc ls st hp k) := by
  unfold sK11
  split
  all_goals first
    | with_reducible exact Lin_no
    | with_reducible exact Lin_go h0
    | with_reducible exact Lin_e1A fun _ _ => Lin_t1 fun _ => Lin_go h0
    | with_reducible exact Lin_e1A fun _ _ => Lin_bnd _ fun _ _ => Lin_go h0
    | with_reducible exact Lin_e1A fun _ _ => Lin_ite (fun _ => Lin_no) (fun _ => Lin_ite (fun _ => Lin_go h0) (fun _ => Lin_go h0))
    | with_reducible exact Lin_e1I fun _ _ => Lin_swi (fun _ => Lin_go h0) _ _
    | with_reducible exact Lin_e1A fun _ _ => Lin_ite (fun _ => Lin_go h0) (fun _ => Lin_no)
    | (split <;> first | with_reducible exact Lin_no | with_reducible exact Lin_ret h0 | with_reducible exact Lin_go h0 | with_reducible exact Lin_ite (fun _ => Lin_ret h0) (fun _ => Lin_no) | with_reducible exact Lin_ite (fun _ => Lin_no) (fun _ => Lin_ret h0))
theorem sK12_lin (cf : CF) (ri : RI) (pc : Nat) (ls : LVs) (st : List AV) (hp : HP) (G : HP → Prop) (h0 : G hp) (hG : ∀ h, Gr hp h → G h) (hcf : ∀ z a r, cf z a hp = some r → G r.2) : Lin G (fun k => sK12 cf ri pc ls st hp k) := by
  unfold sK12
  split
  all_goals first
    | with_reducible exact Lin_no
    | (split <;> first | with_reducible exact Lin_no | with_reducible exact Lin_ret h0 | with_reducible exact Lin_go h0 | with_reducible exact Lin_ite (fun _ => Lin_ret h0) (fun _ => Lin_no) | with_reducible exact Lin_ite (fun _ => Lin_no) (fun _ => Lin_ret h0))
theorem sK13_lin (cf : CF) (ri : RI) (pc : Nat) (ls : LVs) (st : List AV) (hp : HP) (G : HP → Prop) (h0 : G hp) (hG : ∀ h, Gr hp h → G h) (hcf : ∀ z a r, cf z a hp = some r → G r.2) : Lin G (fun k => sK13 cf ri pc ls st hp k) := by
  have hV : ∀ z a q, (cf z a hp).bind toV = some q → G q := fun z a q e => by
    cases hz : cf z a hp with
    | none => rw [hz] at e; simp at e
    | some r => rw [hz] at e; simp only [Option.bind_some] at e; rw [toV_gr e]; exact hcf z a r hz
  have hI : ∀ z a q, (cf z a hp).bind toI = some q → G q.2 := fun z a q e => by
    cases hz : cf z a hp with
    | none => rw [hz] at e; simp at e
    | some r => rw [hz] at e; simp only [Option.bind_some] at e; rw [toI_gr e]; exact hcf z a r hz
  have hL : ∀ z a q, (cf z a hp).bind toL = some q → G q.2 := fun z a q e => by
    cases hz : cf z a hp with
    | none => rw [hz] at e; simp at e
    | some r => rw [hz] at e; simp only [Option.bind_some] at e; rw [toL_gr e]; exact hcf z a r hz
  have hA : ∀ z a q, (cf z a hp).bind toA = some q → G q.2 := fun z a q e => by
    cases hz : cf z a hp with
    | none => rw [hz] at e; simp at e
    | some r => rw [hz] at e; simp only [Option.bind_some] at e; rw [toA_gr e]; exact hcf z a r hz
  unfold sK13
  split
  all_goals first
    | with_reducible exact Lin_no
    | with_reducible exact Lin_ite (fun _ => Lin_bnd _ fun _ e => Lin_go (hV _ _ _ e)) (fun _ => Lin_no)
    | with_reducible exact Lin_ite (fun _ => Lin_bnd _ fun _ e => Lin_go (hI _ _ _ e)) (fun _ => Lin_no)
    | with_reducible exact Lin_ite (fun _ => Lin_bnd _ fun _ e => Lin_go (hL _ _ _ e)) (fun _ => Lin_no)
    | with_reducible exact Lin_ite (fun _ => Lin_bnd _ fun _ e => Lin_go (hA _ _ _ e)) (fun _ => Lin_no)
theorem sK14_lin (cf : CF) (ri : RI) (pc : Nat) (ls : LVs) (st : List AV) (hp : HP) (G : HP → Prop) (h0 : G hp) (hG : ∀ h, Gr hp h → G h) (hcf : ∀ z a r, cf z a hp = some r → G r.2) : Lin G (fun k => sK14 cf ri pc ls st hp k) := by
  unfold sK14
  split
  all_goals first
    | with_reducible exact Lin_no
    | with_reducible exact Lin_go h0
    | with_reducible exact Lin_e1I fun _ _ => Lin_t1 fun _ => Lin_go h0
    | with_reducible exact Lin_e1A fun _ _ => Lin_t1 fun _ => Lin_go h0
    | with_reducible exact Lin_e1A fun _ _ => Lin_bnd _ fun _ _ => Lin_go h0
    | with_reducible exact Lin_e1I fun _ _ => Lin_go h0
    | with_reducible exact Lin_e1I fun _ _ => Lin_ite (fun _ => Lin_go h0) (fun _ => Lin_go h0)
    | with_reducible exact Lin_e1A fun _ _ => Lin_ite (fun _ => Lin_no) (fun _ => Lin_ite (fun _ => Lin_go h0) (fun _ => Lin_go h0))
    | with_reducible exact Lin_e1I fun _ _ => Lin_swi (fun _ => Lin_go h0) _ _
    | with_reducible exact Lin_go (hG _ (Gr_mk _ _ _))
    | with_reducible exact Lin_e1I fun _ _ => Lin_ite (fun _ => Lin_go (hG _ (Gr_mk _ _ _))) (fun _ => Lin_no)
    | with_reducible exact Lin_eCP fun _ _ _ _ _ _ => Lin_ite (fun _ => Lin_bnd _ fun _ e => Lin_go (hG _ (acp_gr e))) (fun _ => Lin_no)
    | with_reducible exact Lin_e1A fun _ _ => Lin_ite (fun _ => Lin_go h0) (fun _ => Lin_no)
    | (split <;> first | with_reducible exact Lin_no | with_reducible exact Lin_ret h0 | with_reducible exact Lin_go h0 | with_reducible exact Lin_ite (fun _ => Lin_ret h0) (fun _ => Lin_no) | with_reducible exact Lin_ite (fun _ => Lin_no) (fun _ => Lin_ret h0))
theorem stp_lin (cf : CF) (ri : RI) (pc : Nat) (ls : LVs) (st : List AV) (hp : HP) (G : HP → Prop) (h0 : G hp) (hG : ∀ h, Gr hp h → G h) (hcf : ∀ z a r, cf z a hp = some r → G r.2) : Lin G (stp cf ri pc ls st hp) := by
  show Lin G (fun k => stp cf ri pc ls st hp k)
  unfold stp
  cases Nat.ble ri.1 4 with
  | true => exact sK0_lin cf ri pc ls st hp G h0 hG hcf
  | false =>
  cases Nat.ble ri.1 11 with
  | true => exact sK1_lin cf ri pc ls st hp G h0 hG hcf
  | false =>
  cases Nat.ble ri.1 13 with
  | true => exact sK2_lin cf ri pc ls st hp G h0 hG hcf
  | false =>
  cases Nat.ble ri.1 22 with
  | true => exact sK3_lin cf ri pc ls st hp G h0 hG hcf
  | false =>
  cases Nat.ble ri.1 28 with
  | true => exact sK4_lin cf ri pc ls st hp G h0 hG hcf
  | false =>
  cases Nat.ble ri.1 34 with
  | true => exact sK5_lin cf ri pc ls st hp G h0 hG hcf
  | false =>
  cases Nat.ble ri.1 42 with
  | true => exact sK6_lin cf ri pc ls st hp G h0 hG hcf
  | false =>
  cases Nat.ble ri.1 49 with
  | true => exact sK7_lin cf ri pc ls st hp G h0 hG hcf
  | false =>
  cases Nat.ble ri.1 52 with
  | true => exact sK8_lin cf ri pc ls st hp G h0 hG hcf
  | false =>
  cases Nat.ble ri.1 53 with
  | true => exact sK9_lin cf ri pc ls st hp G h0 hG hcf
  | false =>
  cases Nat.ble ri.1 54 with
  | true => exact sK10_lin cf ri pc ls st hp G h0 hG hcf
  | false =>
  cases Nat.ble ri.1 59 with
  | true => exact sK11_lin cf ri pc ls st hp G h0 hG hcf
  | false =>
  cases Nat.ble ri.1 66 with
  | true => exact sK12_lin cf ri pc ls st hp G h0 hG hcf
  | false =>
  cases Nat.ble ri.1 67 with
  | true => exact sK13_lin cf ri pc ls st hp G h0 hG hcf
  | false =>
  exact sK14_lin cf ri pc ls st hp G h0 hG hcf
theorem stp_tri (cf : CF) (ri : RI) (pc : Nat) (ls : LVs) (st : List AV) (hp : HP) : Lin (fun _ => True) (stp cf ri pc ls st hp) := stp_lin cf ri pc ls st hp _ trivial (fun _ _ => trivial) (fun _ _ _ _ => trivial)
theorem inn_mono (cf : CF) (y : Nat) : ∀ (n pc : Nat) (ls : LVs) (st : List AV) (hp : HP) (r : RT), inn cf y n pc ls st hp = some r → inn cf y (n + 1) pc ls st hp = some r
  | 0, pc, ls, st, hp, r, h => by simp [inn] at h
  | n + 1, pc, ls, st, hp, r, h => by
    rw [inn_succ] at h ⊢
    cases hc : cdAt y pc with
    | none => rw [hc] at h; exact h
    | some ri =>
      rw [hc] at h
      simp only at h ⊢
      rcases stp_tri cf ri pc ls st hp with g | ⟨q, -, g⟩ | ⟨a, b, c, d, -, g⟩
      · rw [g] at h; cases h
      · rw [g] at h ⊢; exact h
      · rw [g] at h ⊢; exact inn_mono cf y n a b c d r h
noncomputable def lim {α : Type} (f : Nat → Option α) : Option α := @dite _ (∃ n, (f n).isSome = true) (Classical.propDecidable _) (fun h => f (Classical.choose h)) (fun _ => none)
theorem lim_iff {α : Type} {f : Nat → Option α} (hm : ∀ n r, f n = some r → f (n + 1) = some r) (r : α) : lim f = some r ↔ ∃ n, f n = some r := by
  have hm2 : ∀ k n r, f n = some r → f (n + k) = some r := by
    intro k
    induction k with
    | zero => intro n r h; exact h
    | succ k ih => intro n r h; exact hm _ _ (ih n r h)
  unfold lim
  by_cases h : ∃ n, (f n).isSome = true
  · rw [dif_pos h]
    have hs := Classical.choose_spec h
    obtain ⟨r0, hr0⟩ := Option.isSome_iff_exists.mp hs
    rw [hr0]
    constructor
    · intro e; exact ⟨_, hr0.trans e⟩
    · rintro ⟨n, hn⟩
      have h1 := hm2 n _ _ hr0
      have h2 := hm2 (Classical.choose h) _ _ hn
      rw [Nat.add_comm] at h2
      rw [← h1, ← h2]
  · rw [dif_neg h]
    constructor
    · intro e; cases e
    · rintro ⟨n, hn⟩; exact absurd ⟨n, by rw [hn]; rfl⟩ h
noncomputable def Rr (cf : CF) (y : Nat) : KT := fun pc ls st hp => lim (fun n => inn cf y n pc ls st hp)
theorem Rr_iff (cf : CF) (y pc : Nat) (ls : LVs) (st : List AV) (hp : HP) (r : RT) : Rr cf y pc ls st hp = some r ↔ ∃ n, inn cf y n pc ls st hp = some r := lim_iff (fun n r h => inn_mono cf y n pc ls st hp r h) r
theorem opt_ext {α : Type} {a b : Option α} (h : ∀ r, a = some r ↔ b = some r) : a = b := by
  cases a with
  | none => cases b with
    | none => rfl
    | some x => exact absurd ((h x).mpr rfl) (by simp)
  | some x => exact ((h x).mp rfl).symm
theorem Rr_eq (cf : CF) (y pc : Nat) (ls : LVs) (st : List AV) (hp : HP) : Rr cf y pc ls st hp = match cdAt y pc with | some ri => stp cf ri pc ls st hp (Rr cf y) | none => none := by
  apply opt_ext
  intro r
  rw [Rr_iff]
  cases hc : cdAt y pc with
  | none =>
    simp only
    constructor
    · rintro ⟨n, h⟩
      cases n with
      | zero => simp [inn] at h
      | succ n => rw [inn_succ, hc] at h; exact h
    · intro h; cases h
  | some ri =>
    simp only
    rcases stp_tri cf ri pc ls st hp with g | ⟨q, -, g⟩ | ⟨a, b, c, d, -, g⟩
    · rw [g]
      constructor
      · rintro ⟨n, h⟩
        cases n with
        | zero => simp [inn] at h
        | succ n => rw [inn_succ, hc] at h; simp only at h; rw [g] at h; exact h
      · intro h; cases h
    · rw [g]
      constructor
      · rintro ⟨n, h⟩
        cases n with
        | zero => simp [inn] at h
        | succ n => rw [inn_succ, hc] at h; simp only at h; rw [g] at h; exact h
      · intro h; exact ⟨1, by rw [inn_succ, hc]; simp only; rw [g]; exact h⟩
    · rw [g, Rr_iff]
      constructor
      · rintro ⟨n, h⟩
        cases n with
        | zero => simp [inn] at h
        | succ n => rw [inn_succ, hc] at h; simp only at h; rw [g] at h; exact ⟨n, h⟩
      · rintro ⟨n, h⟩; exact ⟨n + 1, by rw [inn_succ, hc]; simp only; rw [g]; exact h⟩
def inS (p : Nat) : List Nat → Bool
  | [] => false
  | q :: r => match Nat.beq p q with | true => true | false => inS p r
/-- some steps at once, up to places where it stops -/
def blk (cf : CF) (y : Nat) (stop : List Nat) : Nat → Nat → LVs → List AV → HP → KT → Option RT
  | 0, pc, ls, st, hp, k => k pc ls st hp
  | n + 1, pc, ls, st, hp, k => match cdAt y pc with
    | some ri => stp cf ri pc ls st hp (fun pc' ls' st' hp' => match inS pc' stop with | true => k pc' ls' st' hp' | false => blk cf y stop n pc' ls' st' hp' k)
    | none => none
theorem Rr_blk (cf : CF) (y : Nat) (stop : List Nat) : ∀ (n pc : Nat) (ls : LVs) (st : List AV) (hp : HP), Rr cf y pc ls st hp = blk cf y stop n pc ls st hp (Rr cf y)
  | 0, pc, ls, st, hp => rfl
  | n + 1, pc, ls, st, hp => by
    rw [Rr_eq, blk]
    cases cdAt y pc with
    | none => rfl
    | some ri =>
      simp only
      congr 1
      funext pc' ls' st' hp'
      cases inS pc' stop with
      | true => rfl
      | false => exact Rr_blk cf y stop n pc' ls' st' hp'
/-- the kinds of the arguments are those of the parameters -/
def knd : List AV → List Nat → Bool
  | [], [] => true
  | .inl _ :: r, 0 :: q => knd r q
  | .inr (.inl _) :: r, 1 :: q => knd r q
  | .inr (.inr _) :: r, 2 :: q => knd r q
  | _, _ => false
/-- an object's method is called on an object of its class -/
def rcv (z : Nat) (args : List AV) (hp : HP) : Bool := match (skT[z]?).getD 0 with
  | 0 => true
  | _ => match args with
    | .inr (.inr o) :: _ => (match gS hp o with | some q => Nat.beq q.1 ((tgT[z]?).getD 999) | none => false)
    | _ => false
noncomputable def Cd : Nat → CF
  | 0 => fun _ _ _ => none
  | d + 1 => fun z args hp => match knd args (sgOf z) && rcv z args hp with | true => Rr (Cd d) z 0 (ent (mMl z) args) [] hp | false => none
theorem Cd_succ (d z : Nat) (args : List AV) (hp : HP) : Cd (d + 1) z args hp = match knd args (sgOf z) && rcv z args hp with | true => Rr (Cd d) z 0 (ent (mMl z) args) [] hp | false => none := rfl
theorem inn_gr (cf : CF) (hcf : ∀ z a h r, cf z a h = some r → Gr h r.2) (y : Nat) : ∀ (n pc : Nat) (ls : LVs) (st : List AV) (hp : HP) (r : RT), inn cf y n pc ls st hp = some r → Gr hp r.2
  | 0, pc, ls, st, hp, r, h => by simp [inn] at h
  | n + 1, pc, ls, st, hp, r, h => by
    rw [inn_succ] at h
    cases hc : cdAt y pc with
    | none => rw [hc] at h; cases h
    | some ri =>
      rw [hc] at h
      simp only at h
      rcases stp_lin cf ri pc ls st hp (Gr hp) (Gr_rf hp) (fun _ h => h) (fun z a r e => hcf z a hp r e) with g | ⟨q, gq, g⟩ | ⟨a, b, c, d, gd, g⟩
      · rw [g] at h; cases h
      · rw [g] at h; cases h; exact gq
      · rw [g] at h; exact gd.tr (inn_gr cf hcf y n a b c d r h)
theorem Cd_gr : ∀ (d z : Nat) (a : List AV) (h : HP) (r : RT), Cd d z a h = some r → Gr h r.2
  | 0, z, a, h, r, e => by simp [Cd] at e
  | d + 1, z, a, h, r, e => by
    rw [Cd_succ] at e
    split at e
    case h_2 => cases e
    rw [Rr_iff] at e
    obtain ⟨n, e⟩ := e
    exact inn_gr (Cd d) (Cd_gr d) z n _ _ _ _ _ e
