/-! what a method gives back -/
def LinR (G : RT → Prop) (F : KT → Option RT) : Prop := (∀ k, F k = none) ∨ (∃ r, G r ∧ ∀ k, F k = some r) ∨ ∃ a b c d, ∀ k, F k = k a b c d
theorem LinR_no {G : RT → Prop} : LinR G (fun _ => none) := Or.inl fun _ => rfl
theorem LinR_ret {G : RT → Prop} {r : RT} (h : G r) : LinR G (fun _ => some r) := Or.inr (Or.inl ⟨r, h, fun _ => rfl⟩)
theorem LinR_go {G : RT → Prop} {a : Nat} {b : LVs} {c : List AV} {d : HP} : LinR G (fun k => k a b c d) := Or.inr (Or.inr ⟨a, b, c, d, fun _ => rfl⟩)
theorem LinR_bnd {G : RT → Prop} {α : Type} (o : Option α) {f : α → KT → Option RT} (h : ∀ a, o = some a → LinR G (f a)) : LinR G (fun k => o.bind fun a => f a k) := by
  cases o with
  | none => exact Or.inl fun _ => rfl
  | some a => exact h a rfl
theorem LinR_ite {G : RT → Prop} {p : Prop} {hd : Decidable p} {f g : KT → Option RT} (h1 : p → LinR G f) (h2 : ¬ p → LinR G g) : LinR G (fun k => if p then f k else g k) := by
  by_cases h : p
  · simp only [h, if_true]; exact h1 h
  · simp only [h, if_false]; exact h2 h
theorem LinR_e1I {G : RT → Prop} {st : List AV} {f : Int → List AV → KT → Option RT} (h : ∀ x0 r, LinR G (f x0 r)) : LinR G (fun k => e1I st fun x0 r => f x0 r k) := by
  unfold e1I; split
  · exact h _ _
  · exact LinR_no
theorem LinR_e1L {G : RT → Prop} {st : List AV} {f : Int → List AV → KT → Option RT} (h : ∀ x0 r, LinR G (f x0 r)) : LinR G (fun k => e1L st fun x0 r => f x0 r k) := by
  unfold e1L; split
  · exact h _ _
  · exact LinR_no
theorem LinR_e1A {G : RT → Prop} {st : List AV} {f : Int → List AV → KT → Option RT} (h : ∀ x0 r, LinR G (f x0 r)) : LinR G (fun k => e1A st fun x0 r => f x0 r k) := by
  unfold e1A; split
  · exact h _ _
  · exact LinR_no
theorem LinR_e2I {G : RT → Prop} {st : List AV} {f : Int → Int → List AV → KT → Option RT} (h : ∀ x0 x1 r, LinR G (f x0 x1 r)) : LinR G (fun k => e2I st fun x0 x1 r => f x0 x1 r k) := by
  unfold e2I; split
  · exact h _ _ _
  · exact LinR_no
theorem LinR_e2L {G : RT → Prop} {st : List AV} {f : Int → Int → List AV → KT → Option RT} (h : ∀ x0 x1 r, LinR G (f x0 x1 r)) : LinR G (fun k => e2L st fun x0 x1 r => f x0 x1 r k) := by
  unfold e2L; split
  · exact h _ _ _
  · exact LinR_no
theorem LinR_eLI {G : RT → Prop} {st : List AV} {f : Int → Int → List AV → KT → Option RT} (h : ∀ x0 x1 r, LinR G (f x0 x1 r)) : LinR G (fun k => eLI st fun x0 x1 r => f x0 x1 r k) := by
  unfold eLI; split
  · exact h _ _ _
  · exact LinR_no
theorem LinR_eIA {G : RT → Prop} {st : List AV} {f : Int → Int → List AV → KT → Option RT} (h : ∀ x0 x1 r, LinR G (f x0 x1 r)) : LinR G (fun k => eIA st fun x0 x1 r => f x0 x1 r k) := by
  unfold eIA; split
  · exact h _ _ _
  · exact LinR_no
theorem LinR_eLA {G : RT → Prop} {st : List AV} {f : Int → Int → List AV → KT → Option RT} (h : ∀ x0 x1 r, LinR G (f x0 x1 r)) : LinR G (fun k => eLA st fun x0 x1 r => f x0 x1 r k) := by
  unfold eLA; split
  · exact h _ _ _
  · exact LinR_no
theorem LinR_eAA {G : RT → Prop} {st : List AV} {f : Int → Int → List AV → KT → Option RT} (h : ∀ x0 x1 r, LinR G (f x0 x1 r)) : LinR G (fun k => eAA st fun x0 x1 r => f x0 x1 r k) := by
  unfold eAA; split
  · exact h _ _ _
  · exact LinR_no
theorem LinR_eIIA {G : RT → Prop} {st : List AV} {f : Int → Int → Int → List AV → KT → Option RT} (h : ∀ x0 x1 x2 r, LinR G (f x0 x1 x2 r)) : LinR G (fun k => eIIA st fun x0 x1 x2 r => f x0 x1 x2 r k) := by
  unfold eIIA; split
  · exact h _ _ _ _
  · exact LinR_no
theorem LinR_eLIA {G : RT → Prop} {st : List AV} {f : Int → Int → Int → List AV → KT → Option RT} (h : ∀ x0 x1 x2 r, LinR G (f x0 x1 x2 r)) : LinR G (fun k => eLIA st fun x0 x1 x2 r => f x0 x1 x2 r k) := by
  unfold eLIA; split
  · exact h _ _ _ _
  · exact LinR_no
theorem LinR_eAIA {G : RT → Prop} {st : List AV} {f : Int → Int → Int → List AV → KT → Option RT} (h : ∀ x0 x1 x2 r, LinR G (f x0 x1 x2 r)) : LinR G (fun k => eAIA st fun x0 x1 x2 r => f x0 x1 x2 r k) := by
  unfold eAIA; split
  · exact h _ _ _ _
  · exact LinR_no
theorem LinR_eCP {G : RT → Prop} {st : List AV} {f : Int → Int → Int → Int → Int → List AV → KT → Option RT} (h : ∀ x0 x1 x2 x3 x4 r, LinR G (f x0 x1 x2 x3 x4 r)) : LinR G (fun k => eCP st fun x0 x1 x2 x3 x4 r => f x0 x1 x2 x3 x4 r k) := by
  unfold eCP; split
  · exact h _ _ _ _ _ _
  · exact LinR_no
theorem LinR_lI {G : RT → Prop} {ls : LVs} {a : Nat} {f : Int → KT → Option RT} (h : ∀ x, LinR G (f x)) : LinR G (fun k => lI ls a fun x => f x k) := by
  unfold lI; split
  · exact h _
  · exact LinR_no
theorem LinR_lL {G : RT → Prop} {ls : LVs} {a : Nat} {f : Int → KT → Option RT} (h : ∀ x, LinR G (f x)) : LinR G (fun k => lL ls a fun x => f x k) := by
  unfold lL; split
  · exact h _
  · exact LinR_no
theorem LinR_lA {G : RT → Prop} {ls : LVs} {a : Nat} {f : Int → KT → Option RT} (h : ∀ x, LinR G (f x)) : LinR G (fun k => lA ls a fun x => f x k) := by
  unfold lA; split
  · exact h _
  · exact LinR_no
theorem LinR_t1 {G : RT → Prop} {ls : LVs} {a : Nat} {v : AV} {f : LVs → KT → Option RT} (h : ∀ l, LinR G (f l)) : LinR G (fun k => t1 ls a v fun l => f l k) := by
  unfold t1
  split
  · exact h _
  · exact LinR_no
theorem LinR_t2 {G : RT → Prop} {ls : LVs} {a : Nat} {v : AV} {f : LVs → KT → Option RT} (h : ∀ l, LinR G (f l)) : LinR G (fun k => t2 ls a v fun l => f l k) := by
  unfold t2
  split
  · exact h _
  · exact LinR_no
theorem LinR_swi {G : RT → Prop} {x : Int} {f : Nat → KT → Option RT} (h : ∀ t, LinR G (f t)) : ∀ (l : List (Int × Nat)) (d : Nat), LinR G (fun k => swi x l d fun t => f t k)
  | [], d => h d
  | q :: r, d => LinR_ite (fun _ => h q.2) (fun _ => LinR_swi h r d)
theorem sK0_rt (cf : CF) (ri : RI) (pc : Nat) (ls : LVs) (st : List AV) (hp : HP) (G : RT → Prop) (hr : ∀ k r, sK12 cf ri pc ls st hp k = some r → G r) : LinR G (fun k => sK0 cf ri pc ls st hp k) := by
  unfold sK0
  split
  all_goals first
    | with_reducible exact LinR_no
    | with_reducible exact LinR_go
    | with_reducible exact LinR_lI fun _ => LinR_go
    | with_reducible exact LinR_lL fun _ => LinR_go
    | with_reducible exact LinR_lA fun _ => LinR_go
    | with_reducible exact LinR_e1I fun _ _ => LinR_t1 fun _ => LinR_go
    | with_reducible exact LinR_e1L fun _ _ => LinR_t2 fun _ => LinR_go
    | with_reducible exact LinR_e1A fun _ _ => LinR_t1 fun _ => LinR_go
    | with_reducible exact LinR_lI fun _ => LinR_t1 fun _ => LinR_go
    | with_reducible exact LinR_e1A fun _ _ => LinR_bnd _ fun _ _ => LinR_go
    | with_reducible exact LinR_eIA fun _ _ _ => LinR_bnd _ fun _ _ => LinR_go
    | with_reducible exact LinR_e2I fun _ _ _ => LinR_go
    | with_reducible exact LinR_e2I fun _ _ _ => LinR_ite (fun _ => LinR_no) (fun _ => LinR_go)
    | with_reducible exact LinR_e1I fun _ _ => LinR_go
    | with_reducible exact LinR_e2L fun _ _ _ => LinR_go
    | with_reducible exact LinR_e2L fun _ _ _ => LinR_ite (fun _ => LinR_no) (fun _ => LinR_go)
    | with_reducible exact LinR_e1L fun _ _ => LinR_go
    | with_reducible exact LinR_eLI fun _ _ _ => LinR_go
    | with_reducible exact LinR_eIA fun _ _ _ => LinR_go
    | with_reducible exact LinR_e1I fun _ _ => LinR_ite (fun _ => LinR_go) (fun _ => LinR_go)
    | with_reducible exact LinR_e2I fun _ _ _ => LinR_ite (fun _ => LinR_go) (fun _ => LinR_go)
    | with_reducible exact LinR_e1A fun _ _ => LinR_ite (fun _ => LinR_no) (fun _ => LinR_ite (fun _ => LinR_go) (fun _ => LinR_go))
    | with_reducible exact LinR_e1I fun _ _ => LinR_swi (fun _ => LinR_go) _ _
    | with_reducible exact LinR_e1A fun _ _ => LinR_ite (fun _ => LinR_go) (fun _ => LinR_no)
    | (split <;> first | with_reducible exact LinR_no | with_reducible exact LinR_go)
theorem sK1_rt (cf : CF) (ri : RI) (pc : Nat) (ls : LVs) (st : List AV) (hp : HP) (G : RT → Prop) (hr : ∀ k r, sK12 cf ri pc ls st hp k = some r → G r) : LinR G (fun k => sK1 cf ri pc ls st hp k) := by
  unfold sK1
  split
  all_goals first
    | with_reducible exact LinR_no
    | with_reducible exact LinR_lI fun _ => LinR_go
    | with_reducible exact LinR_lL fun _ => LinR_go
    | with_reducible exact LinR_lA fun _ => LinR_go
    | with_reducible exact LinR_e1I fun _ _ => LinR_t1 fun _ => LinR_go
    | with_reducible exact LinR_e1L fun _ _ => LinR_t2 fun _ => LinR_go
    | with_reducible exact LinR_e1A fun _ _ => LinR_t1 fun _ => LinR_go
    | with_reducible exact LinR_lI fun _ => LinR_t1 fun _ => LinR_go
theorem sK2_rt (cf : CF) (ri : RI) (pc : Nat) (ls : LVs) (st : List AV) (hp : HP) (G : RT → Prop) (hr : ∀ k r, sK12 cf ri pc ls st hp k = some r → G r) : LinR G (fun k => sK2 cf ri pc ls st hp k) := by
  unfold sK2
  split
  all_goals first
    | with_reducible exact LinR_no
    | with_reducible exact LinR_e1A fun _ _ => LinR_t1 fun _ => LinR_go
    | with_reducible exact LinR_e1A fun _ _ => LinR_bnd _ fun _ _ => LinR_go
    | with_reducible exact LinR_eIA fun _ _ _ => LinR_bnd _ fun _ e => LinR_go
    | with_reducible exact LinR_eLA fun _ _ _ => LinR_bnd _ fun _ e => LinR_go
    | with_reducible exact LinR_eAA fun _ _ _ => LinR_bnd _ fun _ e => LinR_go
    | with_reducible exact LinR_eIA fun _ _ _ => LinR_ite (fun _ => LinR_bnd _ fun _ e => LinR_go) (fun _ => LinR_no)
    | with_reducible exact LinR_eIA fun _ _ _ => LinR_bnd _ fun _ _ => LinR_go
    | with_reducible exact LinR_eIA fun _ _ _ => LinR_go
    | with_reducible exact LinR_e1A fun _ _ => LinR_ite (fun _ => LinR_no) (fun _ => LinR_ite (fun _ => LinR_go) (fun _ => LinR_go))
    | with_reducible exact LinR_e1A fun _ _ => LinR_ite (fun _ => LinR_go) (fun _ => LinR_no)
theorem sK3_rt (cf : CF) (ri : RI) (pc : Nat) (ls : LVs) (st : List AV) (hp : HP) (G : RT → Prop) (hr : ∀ k r, sK12 cf ri pc ls st hp k = some r → G r) : LinR G (fun k => sK3 cf ri pc ls st hp k) := by
  unfold sK3
  split
  all_goals first
    | with_reducible exact LinR_no
    | with_reducible exact LinR_e1A fun _ _ => LinR_t1 fun _ => LinR_go
    | with_reducible exact LinR_e1A fun _ _ => LinR_bnd _ fun _ _ => LinR_go
    | with_reducible exact LinR_eIA fun _ _ _ => LinR_bnd _ fun _ e => LinR_go
    | with_reducible exact LinR_eIA fun _ _ _ => LinR_ite (fun _ => LinR_bnd _ fun _ e => LinR_go) (fun _ => LinR_no)
    | with_reducible exact LinR_eIA fun _ _ _ => LinR_bnd _ fun _ _ => LinR_go
    | with_reducible exact LinR_eIIA fun _ _ _ _ => LinR_bnd _ fun _ e => LinR_go
    | with_reducible exact LinR_eLIA fun _ _ _ _ => LinR_bnd _ fun _ e => LinR_go
    | with_reducible exact LinR_eIIA fun _ _ _ _ => LinR_ite (fun _ => LinR_bnd _ fun _ e => LinR_go) (fun _ => LinR_no)
    | with_reducible exact LinR_eAIA fun _ _ _ _ => LinR_bnd _ fun _ e => LinR_go
    | with_reducible exact LinR_eIA fun _ _ _ => LinR_go
    | with_reducible exact LinR_e1A fun _ _ => LinR_ite (fun _ => LinR_no) (fun _ => LinR_ite (fun _ => LinR_go) (fun _ => LinR_go))
    | with_reducible exact LinR_e1A fun _ _ => LinR_ite (fun _ => LinR_go) (fun _ => LinR_no)
theorem sK4_rt (cf : CF) (ri : RI) (pc : Nat) (ls : LVs) (st : List AV) (hp : HP) (G : RT → Prop) (hr : ∀ k r, sK12 cf ri pc ls st hp k = some r → G r) : LinR G (fun k => sK4 cf ri pc ls st hp k) := by
  unfold sK4
  split
  all_goals first
    | with_reducible exact LinR_no
    | with_reducible exact LinR_e2I fun _ _ _ => LinR_go
    | with_reducible exact LinR_e2I fun _ _ _ => LinR_ite (fun _ => LinR_no) (fun _ => LinR_go)
    | with_reducible exact LinR_e2I fun _ _ _ => LinR_ite (fun _ => LinR_go) (fun _ => LinR_go)
theorem sK5_rt (cf : CF) (ri : RI) (pc : Nat) (ls : LVs) (st : List AV) (hp : HP) (G : RT → Prop) (hr : ∀ k r, sK12 cf ri pc ls st hp k = some r → G r) : LinR G (fun k => sK5 cf ri pc ls st hp k) := by
  unfold sK5
  split
  all_goals first
    | with_reducible exact LinR_no
    | with_reducible exact LinR_e1I fun _ _ => LinR_t1 fun _ => LinR_go
    | with_reducible exact LinR_e2I fun _ _ _ => LinR_go
    | with_reducible exact LinR_e2I fun _ _ _ => LinR_ite (fun _ => LinR_no) (fun _ => LinR_go)
    | with_reducible exact LinR_e1I fun _ _ => LinR_go
    | with_reducible exact LinR_e1I fun _ _ => LinR_ite (fun _ => LinR_go) (fun _ => LinR_go)
    | with_reducible exact LinR_e2I fun _ _ _ => LinR_ite (fun _ => LinR_go) (fun _ => LinR_go)
    | with_reducible exact LinR_e1I fun _ _ => LinR_swi (fun _ => LinR_go) _ _
    | with_reducible exact LinR_e1I fun _ _ => LinR_ite (fun _ => LinR_go) (fun _ => LinR_no)
theorem sK6_rt (cf : CF) (ri : RI) (pc : Nat) (ls : LVs) (st : List AV) (hp : HP) (G : RT → Prop) (hr : ∀ k r, sK12 cf ri pc ls st hp k = some r → G r) : LinR G (fun k => sK6 cf ri pc ls st hp k) := by
  unfold sK6
  split
  all_goals first
    | with_reducible exact LinR_no
    | with_reducible exact LinR_e1L fun _ _ => LinR_t2 fun _ => LinR_go
    | with_reducible exact LinR_e2L fun _ _ _ => LinR_go
    | with_reducible exact LinR_e2L fun _ _ _ => LinR_ite (fun _ => LinR_no) (fun _ => LinR_go)
    | with_reducible exact LinR_e1L fun _ _ => LinR_go
theorem sK7_rt (cf : CF) (ri : RI) (pc : Nat) (ls : LVs) (st : List AV) (hp : HP) (G : RT → Prop) (hr : ∀ k r, sK12 cf ri pc ls st hp k = some r → G r) : LinR G (fun k => sK7 cf ri pc ls st hp k) := by
  unfold sK7
  split
  all_goals first
    | with_reducible exact LinR_no
    | with_reducible exact LinR_go
    | with_reducible exact LinR_e1I fun _ _ => LinR_t1 fun _ => LinR_go
    | with_reducible exact LinR_e1L fun _ _ => LinR_t2 fun _ => LinR_go
    | with_reducible exact LinR_eLIA fun _ _ _ _ => LinR_bnd _ fun _ e => LinR_go
    | with_reducible exact LinR_e1I fun _ _ => LinR_go
    | with_reducible exact LinR_e2L fun _ _ _ => LinR_go
    | with_reducible exact LinR_e2L fun _ _ _ => LinR_ite (fun _ => LinR_no) (fun _ => LinR_go)
    | with_reducible exact LinR_e1L fun _ _ => LinR_go
    | with_reducible exact LinR_eLI fun _ _ _ => LinR_go
    | with_reducible exact LinR_e1I fun _ _ => LinR_ite (fun _ => LinR_go) (fun _ => LinR_go)
    | with_reducible exact LinR_e1I fun _ _ => LinR_swi (fun _ => LinR_go) _ _
    | with_reducible exact LinR_e1I fun _ _ => LinR_ite (fun _ => LinR_go) (fun _ => LinR_no)
    | (split <;> first | with_reducible exact LinR_no | with_reducible exact LinR_go)
theorem sK8_rt (cf : CF) (ri : RI) (pc : Nat) (ls : LVs) (st : List AV) (hp : HP) (G : RT → Prop) (hr : ∀ k r, sK12 cf ri pc ls st hp k = some r → G r) : LinR G (fun k => sK8 cf ri pc ls st hp k) := by
  unfold sK8
  split
  all_goals first
    | with_reducible exact LinR_no
    | with_reducible exact LinR_eIA fun _ _ _ => LinR_bnd _ fun _ e => LinR_go
    | with_reducible exact LinR_eIA fun _ _ _ => LinR_ite (fun _ => LinR_bnd _ fun _ e => LinR_go) (fun _ => LinR_no)
    | with_reducible exact LinR_eIA fun _ _ _ => LinR_bnd _ fun _ _ => LinR_go
    | with_reducible exact LinR_eIA fun _ _ _ => LinR_go
    | (split <;> first | with_reducible exact LinR_no | with_reducible exact LinR_go)
theorem sK9_rt (cf : CF) (ri : RI) (pc : Nat) (ls : LVs) (st : List AV) (hp : HP) (G : RT → Prop) (hr : ∀ k r, sK12 cf ri pc ls st hp k = some r → G r) : LinR G (fun k => sK9 cf ri pc ls st hp k) := by
  unfold sK9
  split
  all_goals first
    | with_reducible exact LinR_no
    | with_reducible exact LinR_e1I fun _ _ => LinR_t1 fun _ => LinR_go
    | with_reducible exact LinR_e1I fun _ _ => LinR_go
    | with_reducible exact LinR_e1I fun _ _ => LinR_ite (fun _ => LinR_go) (fun _ => LinR_go)
    | with_reducible exact LinR_e1I fun _ _ => LinR_swi (fun _ => LinR_go) _ _
    | with_reducible exact LinR_e1I fun _ _ => LinR_ite (fun _ => LinR_go) (fun _ => LinR_no)
theorem sK10_rt (cf : CF) (ri : RI) (pc : Nat) (ls : LVs) (st : List AV) (hp : HP) (G : RT → Prop) (hr : ∀ k r, sK12 cf ri pc ls st hp k = some r → G r) : LinR G (fun k => sK10 cf ri pc ls st hp k) := by
  unfold sK10
  split
  all_goals first
    | with_reducible exact LinR_no
    | with_reducible exact LinR_e2I fun _ _ _ => LinR_go
    | with_reducible exact LinR_e2I fun _ _ _ => LinR_ite (fun _ => LinR_no) (fun _ => LinR_go)
    | with_reducible exact LinR_e2I fun _ _ _ => LinR_ite (fun _ => LinR_go) (fun _ => LinR_go)
theorem sK11_rt (cf : CF) (ri : RI) (pc : Nat) (ls : LVs) (st : List AV) (hp : HP) (G : RT → Prop) (hr : ∀ k r, sK12 cf ri pc ls st hp k = some r → G r) : LinR G (fun k => sK11 cf ri pc ls st hp k) := by
  unfold sK11
  split
  all_goals first
    | with_reducible exact LinR_no
    | with_reducible exact LinR_go
    | with_reducible exact LinR_e1A fun _ _ => LinR_t1 fun _ => LinR_go
    | with_reducible exact LinR_e1A fun _ _ => LinR_bnd _ fun _ _ => LinR_go
    | with_reducible exact LinR_e1A fun _ _ => LinR_ite (fun _ => LinR_no) (fun _ => LinR_ite (fun _ => LinR_go) (fun _ => LinR_go))
    | with_reducible exact LinR_e1I fun _ _ => LinR_swi (fun _ => LinR_go) _ _
    | with_reducible exact LinR_e1A fun _ _ => LinR_ite (fun _ => LinR_go) (fun _ => LinR_no)
    | (split <;> first | with_reducible exact LinR_no | with_reducible exact LinR_go)
theorem sK12_rt (cf : CF) (ri : RI) (pc : Nat) (ls : LVs) (st : List AV) (hp : HP) (G : RT → Prop) (hr : ∀ k r, sK12 cf ri pc ls st hp k = some r → G r) : LinR G (fun k => sK12 cf ri pc ls st hp k) := by
  have e : ∀ k k', sK12 cf ri pc ls st hp k = sK12 cf ri pc ls st hp k' := fun k k' => rfl
  cases h : sK12 cf ri pc ls st hp (fun _ _ _ _ => none) with
  | none => exact Or.inl fun k => (e k _).trans h
  | some r => exact Or.inr (Or.inl ⟨r, hr _ r h, fun k => (e k _).trans h⟩)
theorem sK13_rt (cf : CF) (ri : RI) (pc : Nat) (ls : LVs) (st : List AV) (hp : HP) (G : RT → Prop) (hr : ∀ k r, sK12 cf ri pc ls st hp k = some r → G r) : LinR G (fun k => sK13 cf ri pc ls st hp k) := by
  unfold sK13
  split
  all_goals first
    | with_reducible exact LinR_no
    | with_reducible exact LinR_ite (fun _ => LinR_bnd _ fun _ e => LinR_go) (fun _ => LinR_no)
    | with_reducible exact LinR_ite (fun _ => LinR_bnd _ fun _ e => LinR_go) (fun _ => LinR_no)
    | with_reducible exact LinR_ite (fun _ => LinR_bnd _ fun _ e => LinR_go) (fun _ => LinR_no)
    | with_reducible exact LinR_ite (fun _ => LinR_bnd _ fun _ e => LinR_go) (fun _ => LinR_no)
theorem sK14_rt (cf : CF) (ri : RI) (pc : Nat) (ls : LVs) (st : List AV) (hp : HP) (G : RT → Prop) (hr : ∀ k r, sK12 cf ri pc ls st hp k = some r → G r) : LinR G (fun k => sK14 cf ri pc ls st hp k) := by
  unfold sK14
  split
  all_goals first
    | with_reducible exact LinR_no
    | with_reducible exact LinR_go
    | with_reducible exact LinR_e1I fun _ _ => LinR_t1 fun _ => LinR_go
    | with_reducible exact LinR_e1A fun _ _ => LinR_t1 fun _ => LinR_go
    | with_reducible exact LinR_e1A fun _ _ => LinR_bnd _ fun _ _ => LinR_go
    | with_reducible exact LinR_e1I fun _ _ => LinR_go
    | with_reducible exact LinR_e1I fun _ _ => LinR_ite (fun _ => LinR_go) (fun _ => LinR_go)
    | with_reducible exact LinR_e1A fun _ _ => LinR_ite (fun _ => LinR_no) (fun _ => LinR_ite (fun _ => LinR_go) (fun _ => LinR_go))
    | with_reducible exact LinR_e1I fun _ _ => LinR_swi (fun _ => LinR_go) _ _
    | with_reducible exact LinR_go
    | with_reducible exact LinR_e1I fun _ _ => LinR_ite (fun _ => LinR_go) (fun _ => LinR_no)
    | with_reducible exact LinR_eCP fun _ _ _ _ _ _ => LinR_ite (fun _ => LinR_bnd _ fun _ e => LinR_go) (fun _ => LinR_no)
    | with_reducible exact LinR_e1A fun _ _ => LinR_ite (fun _ => LinR_go) (fun _ => LinR_no)
    | (split <;> first | with_reducible exact LinR_no | with_reducible exact LinR_go)
theorem stp_rt (cf : CF) (ri : RI) (pc : Nat) (ls : LVs) (st : List AV) (hp : HP) (G : RT → Prop) (hr : ∀ k r, sK12 cf ri pc ls st hp k = some r → G r) : LinR G (stp cf ri pc ls st hp) := by
  show LinR G (fun k => stp cf ri pc ls st hp k)
  unfold stp
  cases Nat.ble ri.1 4 with
  | true => exact sK0_rt cf ri pc ls st hp G hr
  | false =>
  cases Nat.ble ri.1 11 with
  | true => exact sK1_rt cf ri pc ls st hp G hr
  | false =>
  cases Nat.ble ri.1 13 with
  | true => exact sK2_rt cf ri pc ls st hp G hr
  | false =>
  cases Nat.ble ri.1 22 with
  | true => exact sK3_rt cf ri pc ls st hp G hr
  | false =>
  cases Nat.ble ri.1 28 with
  | true => exact sK4_rt cf ri pc ls st hp G hr
  | false =>
  cases Nat.ble ri.1 34 with
  | true => exact sK5_rt cf ri pc ls st hp G hr
  | false =>
  cases Nat.ble ri.1 42 with
  | true => exact sK6_rt cf ri pc ls st hp G hr
  | false =>
  cases Nat.ble ri.1 49 with
  | true => exact sK7_rt cf ri pc ls st hp G hr
  | false =>
  cases Nat.ble ri.1 52 with
  | true => exact sK8_rt cf ri pc ls st hp G hr
  | false =>
  cases Nat.ble ri.1 53 with
  | true => exact sK9_rt cf ri pc ls st hp G hr
  | false =>
  cases Nat.ble ri.1 54 with
  | true => exact sK10_rt cf ri pc ls st hp G hr
  | false =>
  cases Nat.ble ri.1 59 with
  | true => exact sK11_rt cf ri pc ls st hp G hr
  | false =>
  cases Nat.ble ri.1 66 with
  | true => exact sK12_rt cf ri pc ls st hp G hr
  | false =>
  cases Nat.ble ri.1 67 with
  | true => exact sK13_rt cf ri pc ls st hp G hr
  | false =>
  exact sK14_rt cf ri pc ls st hp G hr
theorem inn_rt (cf : CF) (y : Nat) (G : RT → Prop) (hG : ∀ pc ri, cdAt y pc = some ri → ∀ pc ls st hp k r, sK12 cf ri pc ls st hp k = some r → G r) : ∀ (n pc : Nat) (ls : LVs) (st : List AV) (hp : HP) (r : RT), inn cf y n pc ls st hp = some r → G r
  | 0, pc, ls, st, hp, r, h => by simp [inn] at h
  | n + 1, pc, ls, st, hp, r, h => by
    rw [inn_succ] at h
    cases hc : cdAt y pc with
    | none => rw [hc] at h; cases h
    | some ri =>
      rw [hc] at h
      simp only at h
      rcases stp_rt cf ri pc ls st hp G (hG pc ri hc pc ls st hp) with g | ⟨q, gq, g⟩ | ⟨a, b, c, d, g⟩
      · rw [g] at h; cases h
      · rw [g] at h; cases h; exact gq
      · rw [g] at h; exact inn_rt cf y G hG n a b c d r h
def rtI (z : Nat) : Bool := ((codeT[z]?).getD []).all fun ri => ri.1 == 61 || ri.1 == 62 || decide (ri.1 < 60) || decide (66 < ri.1)
def rtL (z : Nat) : Bool := ((codeT[z]?).getD []).all fun ri => ri.1 == 63 || decide (ri.1 < 60) || decide (66 < ri.1)
theorem sK12_i {cf : CF} {ri : RI} {pc : Nat} {ls : LVs} {st : List AV} {hp : HP} {k : KT} {r : RT} (h : (ri.1 == 61 || ri.1 == 62 || decide (ri.1 < 60) || decide (66 < ri.1)) = true) (e : sK12 cf ri pc ls st hp k = some r) : ∃ x, r.1 = [vI x] := by
  unfold sK12 at e
  split at e
  · simp at h
  · split at e
    · cases e; exact ⟨_, rfl⟩
    · cases e
  · split at e
    · split at e
      · cases e; exact ⟨_, rfl⟩
      · cases e
    · cases e
  · simp at h
  · simp at h
  · simp at h
  · simp at h
  · cases e
theorem sK12_l {cf : CF} {ri : RI} {pc : Nat} {ls : LVs} {st : List AV} {hp : HP} {k : KT} {r : RT} (h : (ri.1 == 63 || decide (ri.1 < 60) || decide (66 < ri.1)) = true) (e : sK12 cf ri pc ls st hp k = some r) : ∃ x, r.1 = [vL x] := by
  unfold sK12 at e
  split at e
  · simp at h
  · simp at h
  · simp at h
  · split at e
    · cases e; exact ⟨_, rfl⟩
    · cases e
  · simp at h
  · simp at h
  · simp at h
  · cases e
theorem Cd_rt {d z : Nat} {a : List AV} {h : HP} {r : RT} (hz : rtI z = true) (e : Cd d z a h = some r) : ∃ x, r.1 = [vI x] := by
  obtain ⟨d', rfl, -, -, n, e⟩ := Cd_inv e
  refine inn_rt (Cd d') z _ (fun pc ri hc pc' ls st hp k r he => sK12_i ?_ he) n _ _ _ _ _ e
  unfold cdAt at hc
  exact List.all_eq_true.mp hz ri (List.mem_of_getElem? hc)
theorem Cd_rl {d z : Nat} {a : List AV} {h : HP} {r : RT} (hz : rtL z = true) (e : Cd d z a h = some r) : ∃ x, r.1 = [vL x] := by
  obtain ⟨d', rfl, -, -, n, e⟩ := Cd_inv e
  refine inn_rt (Cd d') z _ (fun pc ri hc pc' ls st hp k r he => sK12_l ?_ he) n _ _ _ _ _ e
  unfold cdAt at hc
  exact List.all_eq_true.mp hz ri (List.mem_of_getElem? hc)
