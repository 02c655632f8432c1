/-! what lies outside stays -/
theorem sK0_kp (cf : CF) (ri : RI) (pc : Nat) (ls : LVs) (st : List AV) (hp : HP) (G : HP → Prop) (h0 : G hp) (hF : ∀ t k o v h, t < 50 → pF hp t k o v = some h → G h) (hA : ∀ a o i v h, a < 10 → pA hp a o i v = some h → G h) (hR : ∀ o i v h, pR hp o i v = some h → G h) (hC : ∀ so sp d dp n h, acp hp so sp d dp n = some h → G h) (hK : ∀ t n, G (mk hp t n)) (hr : ri.1 = 13 → ri.2.1 < 50) (hcf : ∀ z a r, cf z a hp = some r → G r.2) : Lin G (fun k => sK0 cf ri pc ls st hp k) := by
  unfold sK0
  split
  all_goals first
    | with_reducible exact Lin_no
    | with_reducible exact Lin_go h0
    | with_reducible exact Lin_lI fun _ => Lin_go h0
    | with_reducible exact Lin_lL fun _ => Lin_go h0
    | with_reducible exact Lin_lA fun _ => Lin_go h0
    | with_reducible exact Lin_e1I fun _ _ => Lin_t1 fun _ => Lin_go h0
    | with_reducible exact Lin_e1L fun _ _ => Lin_t2 fun _ => Lin_go h0
    | with_reducible exact Lin_e1A fun _ _ => Lin_t1 fun _ => Lin_go h0
    | with_reducible exact Lin_lI fun _ => Lin_t1 fun _ => Lin_go h0
    | with_reducible exact Lin_e1A fun _ _ => Lin_bnd _ fun _ _ => Lin_go h0
    | with_reducible exact Lin_eIA fun _ _ _ => Lin_bnd _ fun _ _ => Lin_go h0
    | with_reducible exact Lin_e2I fun _ _ _ => Lin_go h0
    | with_reducible exact Lin_e2I fun _ _ _ => Lin_ite (fun _ => Lin_no) (fun _ => Lin_go h0)
    | with_reducible exact Lin_e1I fun _ _ => Lin_go h0
    | with_reducible exact Lin_e2L fun _ _ _ => Lin_go h0
    | with_reducible exact Lin_e2L fun _ _ _ => Lin_ite (fun _ => Lin_no) (fun _ => Lin_go h0)
    | with_reducible exact Lin_e1L fun _ _ => Lin_go h0
    | with_reducible exact Lin_eLI fun _ _ _ => Lin_go h0
    | with_reducible exact Lin_eIA fun _ _ _ => Lin_go h0
    | with_reducible exact Lin_e1I fun _ _ => Lin_ite (fun _ => Lin_go h0) (fun _ => Lin_go h0)
    | with_reducible exact Lin_e2I fun _ _ _ => Lin_ite (fun _ => Lin_go h0) (fun _ => Lin_go h0)
    | with_reducible exact Lin_e1A fun _ _ => Lin_ite (fun _ => Lin_no) (fun _ => Lin_ite (fun _ => Lin_go h0) (fun _ => Lin_go h0))
    | with_reducible exact Lin_e1I fun _ _ => Lin_swi (fun _ => Lin_go h0) _ _
    | with_reducible exact Lin_e1A fun _ _ => Lin_ite (fun _ => Lin_go h0) (fun _ => Lin_no)
    | (split <;> first | with_reducible exact Lin_no | with_reducible exact Lin_ret h0 | with_reducible exact Lin_go h0 | with_reducible exact Lin_ite (fun _ => Lin_ret h0) (fun _ => Lin_no) | with_reducible exact Lin_ite (fun _ => Lin_no) (fun _ => Lin_ret h0))
theorem sK1_kp (cf : CF) (ri : RI) (pc : Nat) (ls : LVs) (st : List AV) (hp : HP) (G : HP → Prop) (h0 : G hp) (hF : ∀ t k o v h, t < 50 → pF hp t k o v = some h → G h) (hA : ∀ a o i v h, a < 10 → pA hp a o i v = some h → G h) (hR : ∀ o i v h, pR hp o i v = some h → G h) (hC : ∀ so sp d dp n h, acp hp so sp d dp n = some h → G h) (hK : ∀ t n, G (mk hp t n)) (hr : ri.1 = 13 → ri.2.1 < 50) (hcf : ∀ z a r, cf z a hp = some r → G r.2) : Lin G (fun k => sK1 cf ri pc ls st hp k) := by
  unfold sK1
  split
  all_goals first
    | with_reducible exact Lin_no
    | with_reducible exact Lin_lI fun _ => Lin_go h0
    | with_reducible exact Lin_lL fun _ => Lin_go h0
    | with_reducible exact Lin_lA fun _ => Lin_go h0
    | with_reducible exact Lin_e1I fun _ _ => Lin_t1 fun _ => Lin_go h0
    | with_reducible exact Lin_e1L fun _ _ => Lin_t2 fun _ => Lin_go h0
    | with_reducible exact Lin_e1A fun _ _ => Lin_t1 fun _ => Lin_go h0
    | with_reducible exact Lin_lI fun _ => Lin_t1 fun _ => Lin_go h0
theorem sK2_kp (cf : CF) (ri : RI) (pc : Nat) (ls : LVs) (st : List AV) (hp : HP) (G : HP → Prop) (h0 : G hp) (hF : ∀ t k o v h, t < 50 → pF hp t k o v = some h → G h) (hA : ∀ a o i v h, a < 10 → pA hp a o i v = some h → G h) (hR : ∀ o i v h, pR hp o i v = some h → G h) (hC : ∀ so sp d dp n h, acp hp so sp d dp n = some h → G h) (hK : ∀ t n, G (mk hp t n)) (hr : ri.1 = 13 → ri.2.1 < 50) (hcf : ∀ z a r, cf z a hp = some r → G r.2) : Lin G (fun k => sK2 cf ri pc ls st hp k) := by
  unfold sK2
  split
  all_goals first
    | with_reducible exact Lin_no
    | with_reducible exact Lin_e1A fun _ _ => Lin_t1 fun _ => Lin_go h0
    | with_reducible exact Lin_e1A fun _ _ => Lin_bnd _ fun _ _ => Lin_go h0
    | with_reducible exact Lin_eIA fun _ _ _ => Lin_bnd _ fun _ e => Lin_go (hF _ _ _ _ _ (hr rfl) e)
    | with_reducible exact Lin_eLA fun _ _ _ => Lin_bnd _ fun _ e => Lin_go (hF _ _ _ _ _ (hr rfl) e)
    | with_reducible exact Lin_eAA fun _ _ _ => Lin_bnd _ fun _ e => Lin_go (hF _ _ _ _ _ (hr rfl) e)
    | with_reducible exact Lin_eIA fun _ _ _ => Lin_ite (fun _ => Lin_bnd _ fun _ e => Lin_go (hF _ _ _ _ _ (hr rfl) e)) (fun _ => Lin_no)
    | with_reducible exact Lin_eIA fun _ _ _ => Lin_bnd _ fun _ _ => Lin_go h0
    | with_reducible exact Lin_eIA fun _ _ _ => Lin_go h0
    | with_reducible exact Lin_e1A fun _ _ => Lin_ite (fun _ => Lin_no) (fun _ => Lin_ite (fun _ => Lin_go h0) (fun _ => Lin_go h0))
    | with_reducible exact Lin_e1A fun _ _ => Lin_ite (fun _ => Lin_go h0) (fun _ => Lin_no)
theorem sK3_kp (cf : CF) (ri : RI) (pc : Nat) (ls : LVs) (st : List AV) (hp : HP) (G : HP → Prop) (h0 : G hp) (hF : ∀ t k o v h, t < 50 → pF hp t k o v = some h → G h) (hA : ∀ a o i v h, a < 10 → pA hp a o i v = some h → G h) (hR : ∀ o i v h, pR hp o i v = some h → G h) (hC : ∀ so sp d dp n h, acp hp so sp d dp n = some h → G h) (hK : ∀ t n, G (mk hp t n)) (hr : ri.1 = 13 → ri.2.1 < 50) (hcf : ∀ z a r, cf z a hp = some r → G r.2) : Lin G (fun k => sK3 cf ri pc ls st hp k) := by
  unfold sK3
  split
  all_goals first
    | with_reducible exact Lin_no
    | with_reducible exact Lin_e1A fun _ _ => Lin_t1 fun _ => Lin_go h0
    | with_reducible exact Lin_e1A fun _ _ => Lin_bnd _ fun _ _ => Lin_go h0
    | with_reducible exact Lin_eIA fun _ _ _ => Lin_bnd _ fun _ e => Lin_go (hF _ _ _ _ _ (hr rfl) e)
    | with_reducible exact Lin_eIA fun _ _ _ => Lin_ite (fun _ => Lin_bnd _ fun _ e => Lin_go (hF _ _ _ _ _ (hr rfl) e)) (fun _ => Lin_no)
    | with_reducible exact Lin_eIA fun _ _ _ => Lin_bnd _ fun _ _ => Lin_go h0
    | with_reducible exact Lin_eIIA fun _ _ _ _ => Lin_bnd _ fun _ e => Lin_go (hA _ _ _ _ _ (by decide) e)
    | with_reducible exact Lin_eLIA fun _ _ _ _ => Lin_bnd _ fun _ e => Lin_go (hA _ _ _ _ _ (by decide) e)
    | with_reducible exact Lin_eIIA fun _ _ _ _ => Lin_ite (fun _ => Lin_bnd _ fun _ e => Lin_go (hA _ _ _ _ _ (by decide) e)) (fun _ => Lin_no)
    | with_reducible exact Lin_eAIA fun _ _ _ _ => Lin_bnd _ fun _ e => Lin_go (hR _ _ _ _ e)
    | with_reducible exact Lin_eIA fun _ _ _ => Lin_go h0
    | with_reducible exact Lin_e1A fun _ _ => Lin_ite (fun _ => Lin_no) (fun _ => Lin_ite (fun _ => Lin_go h0) (fun _ => Lin_go h0))
    | with_reducible exact Lin_e1A fun _ _ => Lin_ite (fun _ => Lin_go h0) (fun _ => Lin_no)
theorem sK4_kp (cf : CF) (ri : RI) (pc : Nat) (ls : LVs) (st : List AV) (hp : HP) (G : HP → Prop) (h0 : G hp) (hF : ∀ t k o v h, t < 50 → pF hp t k o v = some h → G h) (hA : ∀ a o i v h, a < 10 → pA hp a o i v = some h → G h) (hR : ∀ o i v h, pR hp o i v = some h → G h) (hC : ∀ so sp d dp n h, acp hp so sp d dp n = some h → G h) (hK : ∀ t n, G (mk hp t n)) (hr : ri.1 = 13 → ri.2.1 < 50) (hcf : ∀ z a r, cf z a hp = some r → G r.2) : Lin G (fun k => sK4 cf ri pc ls st hp k) := by
  unfold sK4
  split
  all_goals first
    | with_reducible exact Lin_no
    | with_reducible exact Lin_e2I fun _ _ _ => Lin_go h0
    | with_reducible exact Lin_e2I fun _ _ _ => Lin_ite (fun _ => Lin_no) (fun _ => Lin_go h0)
    | with_reducible exact Lin_e2I fun _ _ _ => Lin_ite (fun _ => Lin_go h0) (fun _ => Lin_go h0)
theorem sK5_kp (cf : CF) (ri : RI) (pc : Nat) (ls : LVs) (st : List AV) (hp : HP) (G : HP → Prop) (h0 : G hp) (hF : ∀ t k o v h, t < 50 → pF hp t k o v = some h → G h) (hA : ∀ a o i v h, a < 10 → pA hp a o i v = some h → G h) (hR : ∀ o i v h, pR hp o i v = some h → G h) (hC : ∀ so sp d dp n h, acp hp so sp d dp n = some h → G h) (hK : ∀ t n, G (mk hp t n)) (hr : ri.1 = 13 → ri.2.1 < 50) (hcf : ∀ z a r, cf z a hp = some r → G r.2) : Lin G (fun k => sK5 cf ri pc ls st hp k) := by
  unfold sK5
  split
  all_goals first
    | with_reducible exact Lin_no
    | with_reducible exact Lin_e1I fun _ _ => Lin_t1 fun _ => Lin_go h0
    | with_reducible exact Lin_e2I fun _ _ _ => Lin_go h0
    | with_reducible exact Lin_e2I fun _ _ _ => Lin_ite (fun _ => Lin_no) (fun _ => Lin_go h0)
    | with_reducible exact Lin_e1I fun _ _ => Lin_go h0
    | with_reducible exact Lin_e1I fun _ _ => Lin_ite (fun _ => Lin_go h0) (fun _ => Lin_go h0)
    | with_reducible exact Lin_e2I fun _ _ _ => Lin_ite (fun _ => Lin_go h0) (fun _ => Lin_go h0)
    | with_reducible exact Lin_e1I fun _ _ => Lin_swi (fun _ => Lin_go h0) _ _
    | with_reducible exact Lin_e1I fun _ _ => Lin_ite (fun _ => Lin_go (hK _ _)) (fun _ => Lin_no)
theorem sK6_kp (cf : CF) (ri : RI) (pc : Nat) (ls : LVs) (st : List AV) (hp : HP) (G : HP → Prop) (h0 : G hp) (hF : ∀ t k o v h, t < 50 → pF hp t k o v = some h → G h) (hA : ∀ a o i v h, a < 10 → pA hp a o i v = some h → G h) (hR : ∀ o i v h, pR hp o i v = some h → G h) (hC : ∀ so sp d dp n h, acp hp so sp d dp n = some h → G h) (hK : ∀ t n, G (mk hp t n)) (hr : ri.1 = 13 → ri.2.1 < 50) (hcf : ∀ z a r, cf z a hp = some r → G r.2) : Lin G (fun k => sK6 cf ri pc ls st hp k) := by
  unfold sK6
  split
  all_goals first
    | with_reducible exact Lin_no
    | with_reducible exact Lin_e1L fun _ _ => Lin_t2 fun _ => Lin_go h0
    | with_reducible exact Lin_e2L fun _ _ _ => Lin_go h0
    | with_reducible exact Lin_e2L fun _ _ _ => Lin_ite (fun _ => Lin_no) (fun _ => Lin_go h0)
    | with_reducible exact Lin_e1L fun _ _ => Lin_go h0
theorem sK7_kp (cf : CF) (ri : RI) (pc : Nat) (ls : LVs) (st : List AV) (hp : HP) (G : HP → Prop) (h0 : G hp) (hF : ∀ t k o v h, t < 50 → pF hp t k o v = some h → G h) (hA : ∀ a o i v h, a < 10 → pA hp a o i v = some h → G h) (hR : ∀ o i v h, pR hp o i v = some h → G h) (hC : ∀ so sp d dp n h, acp hp so sp d dp n = some h → G h) (hK : ∀ t n, G (mk hp t n)) (hr : ri.1 = 13 → ri.2.1 < 50) (hcf : ∀ z a r, cf z a hp = some r → G r.2) : Lin G (fun k => sK7 cf ri pc ls st hp k) := by
  unfold sK7
  split
  all_goals first
    | with_reducible exact Lin_no
    | with_reducible exact Lin_go h0
    | with_reducible exact Lin_e1I fun _ _ => Lin_t1 fun _ => Lin_go h0
    | with_reducible exact Lin_e1L fun _ _ => Lin_t2 fun _ => Lin_go h0
    | with_reducible exact Lin_eLIA fun _ _ _ _ => Lin_bnd _ fun _ e => Lin_go (hA _ _ _ _ _ (by decide) e)
    | with_reducible exact Lin_e1I fun _ _ => Lin_go h0
    | with_reducible exact Lin_e2L fun _ _ _ => Lin_go h0
    | with_reducible exact Lin_e2L fun _ _ _ => Lin_ite (fun _ => Lin_no) (fun _ => Lin_go h0)
    | with_reducible exact Lin_e1L fun _ _ => Lin_go h0
    | with_reducible exact Lin_eLI fun _ _ _ => Lin_go h0
    | with_reducible exact Lin_e1I fun _ _ => Lin_ite (fun _ => Lin_go h0) (fun _ => Lin_go h0)
    | with_reducible exact Lin_e1I fun _ _ => Lin_swi (fun _ => Lin_go h0) _ _
    | with_reducible exact Lin_e1I fun _ _ => Lin_ite (fun _ => Lin_go (hK _ _)) (fun _ => Lin_no)
    | (split <;> first | with_reducible exact Lin_no | with_reducible exact Lin_ret h0 | with_reducible exact Lin_go h0 | with_reducible exact Lin_ite (fun _ => Lin_ret h0) (fun _ => Lin_no) | with_reducible exact Lin_ite (fun _ => Lin_no) (fun _ => Lin_ret h0))
theorem sK8_kp (cf : CF) (ri : RI) (pc : Nat) (ls : LVs) (st : List AV) (hp : HP) (G : HP → Prop) (h0 : G hp) (hF : ∀ t k o v h, t < 50 → pF hp t k o v = some h → G h) (hA : ∀ a o i v h, a < 10 → pA hp a o i v = some h → G h) (hR : ∀ o i v h, pR hp o i v = some h → G h) (hC : ∀ so sp d dp n h, acp hp so sp d dp n = some h → G h) (hK : ∀ t n, G (mk hp t n)) (hr : ri.1 = 13 → ri.2.1 < 50) (hcf : ∀ z a r, cf z a hp = some r → G r.2) : Lin G (fun k => sK8 cf ri pc ls st hp k) := by
  unfold sK8
  split
  all_goals first
    | with_reducible exact Lin_no
    | with_reducible exact Lin_eIA fun _ _ _ => Lin_bnd _ fun _ e => Lin_go (hF _ _ _ _ _ (hr rfl) e)
    | with_reducible exact Lin_eIA fun _ _ _ => Lin_ite (fun _ => Lin_bnd _ fun _ e => Lin_go (hF _ _ _ _ _ (hr rfl) e)) (fun _ => Lin_no)
    | with_reducible exact Lin_eIA fun _ _ _ => Lin_bnd _ fun _ _ => Lin_go h0
    | with_reducible exact Lin_eIA fun _ _ _ => Lin_go h0
    | (split <;> first | with_reducible exact Lin_no | with_reducible exact Lin_ret h0 | with_reducible exact Lin_go h0 | with_reducible exact Lin_ite (fun _ => Lin_ret h0) (fun _ => Lin_no) | with_reducible exact Lin_ite (fun _ => Lin_no) (fun _ => Lin_ret h0))
theorem sK9_kp (cf : CF) (ri : RI) (pc : Nat) (ls : LVs) (st : List AV) (hp : HP) (G : HP → Prop) (h0 : G hp) (hF : ∀ t k o v h, t < 50 → pF hp t k o v = some h → G h) (hA : ∀ a o i v h, a < 10 → pA hp a o i v = some h → G h) (hR : ∀ o i v h, pR hp o i v = some h → G h) (hC : ∀ so sp d dp n h, acp hp so sp d dp n = some h → G h) (hK : ∀ t n, G (mk hp t n)) (hr : ri.1 = 13 → ri.2.1 < 50) (hcf : ∀ z a r, cf z a hp = some r → G r.2) : Lin G (fun k => sK9 cf ri pc ls st hp k) := by
  unfold sK9
  split
  all_goals first
    | with_reducible exact Lin_no
    | with_reducible exact Lin_e1I fun _ _ => Lin_t1 fun _ => Lin_go h0
    | with_reducible exact Lin_e1I fun _ _ => Lin_go h0
    | with_reducible exact Lin_e1I fun _ _ => Lin_ite (fun _ => Lin_go h0) (fun _ => Lin_go h0)
    | with_reducible exact Lin_e1I fun _ _ => Lin_swi (fun _ => Lin_go h0) _ _
    | with_reducible exact Lin_e1I fun _ _ => Lin_ite (fun _ => Lin_go (hK _ _)) (fun _ => Lin_no)
theorem sK10_kp (cf : CF) (ri : RI) (pc : Nat) (ls : LVs) (st : List AV) (hp : HP) (G : HP → Prop) (h0 : G hp) (hF : ∀ t k o v h, t < 50 → pF hp t k o v = some h → G h) (hA : ∀ a o i v h, a < 10 → pA hp a o i v = some h → G h) (hR : ∀ o i v h, pR hp o i v = some h → G h) (hC : ∀ so sp d dp n h, acp hp so sp d dp n = some h → G h) (hK : ∀ t n, G (mk hp t n)) (hr : ri.1 = 13 → ri.2.1 < 50) (hcf : ∀ z a r, cf z a hp = some r → G r.2) : Lin G (fun k => sK10 cf ri pc ls st hp k) := by
  unfold sK10
  split
  all_goals first
    | with_reducible exact Lin_no
    | with_reducible exact Lin_e2I fun _ _ _ => Lin_go h0
    | with_reducible exact Lin_e2I fun _ _ _ => Lin_ite (fun _ => Lin_no) (fun _ => Lin_go h0)
    | with_reducible exact Lin_e2I fun _ _ _ => Lin_ite (fun _ => Lin_go h0) (fun _ => Lin_go h0)
theorem sK11_kp (cf : CF) (ri : RI) (pc : Nat) (ls : LVs) (st : List AV) (hp : HP) (G : HP → Prop) (h0 : G hp) (hF : ∀ t k o v h, t < 50 → pF hp t k o v = some h → G h) (hA : ∀ a o i v h, a < 10 → pA hp a o i v = some h → G h) (hR : ∀ o i v h, pR hp o i v = some h → G h) (hC : ∀ so sp d dp n h, acp hp so sp d dp n = some h → G h) (hK : ∀ t n, G (mk hp t n)) (hr : ri.1 = 13 → ri.2.1 < 50) (hcf : ∀ z a r, cf z a hp = some r → G r.2) : Lin G (fun k => sK11 cf ri pc ls st hp k) := by
  unfold sK11
  split
  all_goals first
    | with_reducible exact Lin_no
    | with_reducible exact Lin_go h0
    | with_reducible exact Lin_e1A fun _ _ => Lin_t1 fun _ => Lin_go h0
    | with_reducible exact Lin_e1A fun _ _ => Lin_bnd _ fun _ _ => Lin_go h0
    | with_reducible exact Lin_e1A fun _ _ => Lin_ite (fun _ => Lin_no) (fun _ => Lin_ite (fun _ => Lin_go h0) (fun _ => Lin_go h0))
    | with_reducible exact Lin_e1I fun _ _ => Lin_swi (fun _ => Lin_go h0) _ _
    | with_reducible exact Lin_e1A fun _ _ => Lin_ite (fun _ => Lin_go h0) (fun _ => Lin_no)
    | (split <;> first | with_reducible exact Lin_no | with_reducible exact Lin_ret h0 | with_reducible exact Lin_go h0 | with_reducible exact Lin_ite (fun _ => Lin_ret h0) (fun _ => Lin_no) | with_reducible exact Lin_ite (fun _ => Lin_no) (fun _ => Lin_ret h0))
theorem sK12_kp (cf : CF) (ri : RI) (pc : Nat) (ls : LVs) (st : List AV) (hp : HP) (G : HP → Prop) (h0 : G hp) (hF : ∀ t k o v h, t < 50 → pF hp t k o v = some h → G h) (hA : ∀ a o i v h, a < 10 → pA hp a o i v = some h → G h) (hR : ∀ o i v h, pR hp o i v = some h → G h) (hC : ∀ so sp d dp n h, acp hp so sp d dp n = some h → G h) (hK : ∀ t n, G (mk hp t n)) (hr : ri.1 = 13 → ri.2.1 < 50) (hcf : ∀ z a r, cf z a hp = some r → G r.2) : Lin G (fun k => sK12 cf ri pc ls st hp k) := by
  unfold sK12
  split
  all_goals first
    | with_reducible exact Lin_no
    | (split <;> first | with_reducible exact Lin_no | with_reducible exact Lin_ret h0 | with_reducible exact Lin_go h0 | with_reducible exact Lin_ite (fun _ => Lin_ret h0) (fun _ => Lin_no) | with_reducible exact Lin_ite (fun _ => Lin_no) (fun _ => Lin_ret h0))
theorem sK13_kp (cf : CF) (ri : RI) (pc : Nat) (ls : LVs) (st : List AV) (hp : HP) (G : HP → Prop) (h0 : G hp) (hF : ∀ t k o v h, t < 50 → pF hp t k o v = some h → G h) (hA : ∀ a o i v h, a < 10 → pA hp a o i v = some h → G h) (hR : ∀ o i v h, pR hp o i v = some h → G h) (hC : ∀ so sp d dp n h, acp hp so sp d dp n = some h → G h) (hK : ∀ t n, G (mk hp t n)) (hr : ri.1 = 13 → ri.2.1 < 50) (hcf : ∀ z a r, cf z a hp = some r → G r.2) : Lin G (fun k => sK13 cf ri pc ls st hp k) := by
  have hV : ∀ z a q, (cf z a hp).bind toV = some q → G q := fun z a q e => by
    cases hz : cf z a hp with
    | none => rw [hz] at e; simp at e
    | some r => rw [hz] at e; simp only [Option.bind_some] at e; rw [toV_gr e]; exact hcf z a r hz
  have hI : ∀ z a q, (cf z a hp).bind toI = some q → G q.2 := fun z a q e => by
    cases hz : cf z a hp with
    | none => rw [hz] at e; simp at e
    | some r => rw [hz] at e; simp only [Option.bind_some] at e; rw [toI_gr e]; exact hcf z a r hz
  have hL : ∀ z a q, (cf z a hp).bind toL = some q → G q.2 := fun z a q e => by
    cases hz : cf z a hp with
    | none => rw [hz] at e; simp at e
    | some r => rw [hz] at e; simp only [Option.bind_some] at e; rw [toL_gr e]; exact hcf z a r hz
  have hA : ∀ z a q, (cf z a hp).bind toA = some q → G q.2 := fun z a q e => by
    cases hz : cf z a hp with
    | none => rw [hz] at e; simp at e
    | some r => rw [hz] at e; simp only [Option.bind_some] at e; rw [toA_gr e]; exact hcf z a r hz
  unfold sK13
  split
  all_goals first
    | with_reducible exact Lin_no
    | with_reducible exact Lin_ite (fun _ => Lin_bnd _ fun _ e => Lin_go (hV _ _ _ e)) (fun _ => Lin_no)
    | with_reducible exact Lin_ite (fun _ => Lin_bnd _ fun _ e => Lin_go (hI _ _ _ e)) (fun _ => Lin_no)
    | with_reducible exact Lin_ite (fun _ => Lin_bnd _ fun _ e => Lin_go (hL _ _ _ e)) (fun _ => Lin_no)
    | with_reducible exact Lin_ite (fun _ => Lin_bnd _ fun _ e => Lin_go (hA _ _ _ e)) (fun _ => Lin_no)
theorem sK14_kp (cf : CF) (ri : RI) (pc : Nat) (ls : LVs) (st : List AV) (hp : HP) (G : HP → Prop) (h0 : G hp) (hF : ∀ t k o v h, t < 50 → pF hp t k o v = some h → G h) (hA : ∀ a o i v h, a < 10 → pA hp a o i v = some h → G h) (hR : ∀ o i v h, pR hp o i v = some h → G h) (hC : ∀ so sp d dp n h, acp hp so sp d dp n = some h → G h) (hK : ∀ t n, G (mk hp t n)) (hr : ri.1 = 13 → ri.2.1 < 50) (hcf : ∀ z a r, cf z a hp = some r → G r.2) : Lin G (fun k => sK14 cf ri pc ls st hp k) := by
  unfold sK14
  split
  all_goals first
    | with_reducible exact Lin_no
    | with_reducible exact Lin_go h0
    | with_reducible exact Lin_e1I fun _ _ => Lin_t1 fun _ => Lin_go h0
    | with_reducible exact Lin_e1A fun _ _ => Lin_t1 fun _ => Lin_go h0
    | with_reducible exact Lin_e1A fun _ _ => Lin_bnd _ fun _ _ => Lin_go h0
    | with_reducible exact Lin_e1I fun _ _ => Lin_go h0
    | with_reducible exact Lin_e1I fun _ _ => Lin_ite (fun _ => Lin_go h0) (fun _ => Lin_go h0)
    | with_reducible exact Lin_e1A fun _ _ => Lin_ite (fun _ => Lin_no) (fun _ => Lin_ite (fun _ => Lin_go h0) (fun _ => Lin_go h0))
    | with_reducible exact Lin_e1I fun _ _ => Lin_swi (fun _ => Lin_go h0) _ _
    | with_reducible exact Lin_go (hK _ _)
    | with_reducible exact Lin_e1I fun _ _ => Lin_ite (fun _ => Lin_go (hK _ _)) (fun _ => Lin_no)
    | with_reducible exact Lin_eCP fun _ _ _ _ _ _ => Lin_ite (fun _ => Lin_bnd _ fun _ e => Lin_go (hC _ _ _ _ _ _ e)) (fun _ => Lin_no)
    | with_reducible exact Lin_e1A fun _ _ => Lin_ite (fun _ => Lin_go h0) (fun _ => Lin_no)
    | (split <;> first | with_reducible exact Lin_no | with_reducible exact Lin_ret h0 | with_reducible exact Lin_go h0 | with_reducible exact Lin_ite (fun _ => Lin_ret h0) (fun _ => Lin_no) | with_reducible exact Lin_ite (fun _ => Lin_no) (fun _ => Lin_ret h0))
theorem stp_kp (cf : CF) (ri : RI) (pc : Nat) (ls : LVs) (st : List AV) (hp : HP) (G : HP → Prop) (h0 : G hp) (hF : ∀ t k o v h, t < 50 → pF hp t k o v = some h → G h) (hA : ∀ a o i v h, a < 10 → pA hp a o i v = some h → G h) (hR : ∀ o i v h, pR hp o i v = some h → G h) (hC : ∀ so sp d dp n h, acp hp so sp d dp n = some h → G h) (hK : ∀ t n, G (mk hp t n)) (hr : ri.1 = 13 → ri.2.1 < 50) (hcf : ∀ z a r, cf z a hp = some r → G r.2) : Lin G (stp cf ri pc ls st hp) := by
  show Lin G (fun k => stp cf ri pc ls st hp k)
  unfold stp
  cases Nat.ble ri.1 4 with
  | true => exact sK0_kp cf ri pc ls st hp G h0 hF hA hR hC hK hr hcf
  | false =>
  cases Nat.ble ri.1 11 with
  | true => exact sK1_kp cf ri pc ls st hp G h0 hF hA hR hC hK hr hcf
  | false =>
  cases Nat.ble ri.1 13 with
  | true => exact sK2_kp cf ri pc ls st hp G h0 hF hA hR hC hK hr hcf
  | false =>
  cases Nat.ble ri.1 22 with
  | true => exact sK3_kp cf ri pc ls st hp G h0 hF hA hR hC hK hr hcf
  | false =>
  cases Nat.ble ri.1 28 with
  | true => exact sK4_kp cf ri pc ls st hp G h0 hF hA hR hC hK hr hcf
  | false =>
  cases Nat.ble ri.1 34 with
  | true => exact sK5_kp cf ri pc ls st hp G h0 hF hA hR hC hK hr hcf
  | false =>
  cases Nat.ble ri.1 42 with
  | true => exact sK6_kp cf ri pc ls st hp G h0 hF hA hR hC hK hr hcf
  | false =>
  cases Nat.ble ri.1 49 with
  | true => exact sK7_kp cf ri pc ls st hp G h0 hF hA hR hC hK hr hcf
  | false =>
  cases Nat.ble ri.1 52 with
  | true => exact sK8_kp cf ri pc ls st hp G h0 hF hA hR hC hK hr hcf
  | false =>
  cases Nat.ble ri.1 53 with
  | true => exact sK9_kp cf ri pc ls st hp G h0 hF hA hR hC hK hr hcf
  | false =>
  cases Nat.ble ri.1 54 with
  | true => exact sK10_kp cf ri pc ls st hp G h0 hF hA hR hC hK hr hcf
  | false =>
  cases Nat.ble ri.1 59 with
  | true => exact sK11_kp cf ri pc ls st hp G h0 hF hA hR hC hK hr hcf
  | false =>
  cases Nat.ble ri.1 66 with
  | true => exact sK12_kp cf ri pc ls st hp G h0 hF hA hR hC hK hr hcf
  | false =>
  cases Nat.ble ri.1 67 with
  | true => exact sK13_kp cf ri pc ls st hp G h0 hF hA hR hC hK hr hcf
  | false =>
  exact sK14_kp cf ri pc ls st hp G h0 hF hA hR hC hK hr hcf
def codeK : Bool := codeT.all fun l => l.all fun ri => !(ri.1 == 13) || decide (ri.2.1 < 50)
theorem codeK_ok : codeK = true := by decide +kernel
theorem code_k {y pc : Nat} {ri : RI} (h : cdAt y pc = some ri) : ri.1 = 13 → ri.2.1 < 50 := fun e => by
  unfold cdAt at h
  cases hy : codeT[y]? with
  | none => rw [hy] at h; simp at h
  | some l =>
    rw [hy] at h
    simp only [Option.getD_some] at h
    have := List.all_eq_true.mp codeK_ok l (List.mem_of_getElem? hy)
    have := List.all_eq_true.mp this ri (List.mem_of_getElem? h)
    rw [e] at this
    simpa using this
/-- the heap begins with what lies outside -/
def Pre (h : HP) : Prop := ∃ L E, h.1 = xSh L ++ E
theorem Pre.gr {h h' : HP} (p : Pre h) (g : Gr h h') : Pre h' := by
  obtain ⟨L, E, e⟩ := p
  obtain ⟨e', g⟩ := g
  exact ⟨L, E ++ e', by rw [g, e, List.append_assoc]⟩
theorem xSh_tag (L : Nat) {o : Nat} (h : o < 29) : ∃ q, (xSh L)[o]? = some q ∧ (q.1 = 98 ∨ q.1 = 110 ∨ q.1 = 50 ∨ q.1 = 112) := by
  have hm : ∀ q ∈ xSh L, q.1 = 98 ∨ q.1 = 110 ∨ q.1 = 50 ∨ q.1 = 112 := fun q hq => by
    unfold xSh at hq
    rcases List.mem_append.mp hq with hq | hq
    · rcases List.mem_append.mp hq with hq | hq
      · simp only [List.mem_cons, List.not_mem_nil, or_false] at hq
        rcases hq with e | e <;> subst e <;> simp
      · obtain ⟨a, -, e⟩ := List.mem_map.mp hq
        subst e; simp
    · obtain ⟨a, -, e⟩ := List.mem_flatMap.mp hq
      simp only [List.mem_cons, List.not_mem_nil, or_false] at e
      rcases e with e | e <;> subst e <;> simp
  have hl : o < (xSh L).length := by rw [xSh_len]; exact h
  exact ⟨(xSh L)[o], List.getElem?_eq_getElem hl, hm _ (List.getElem_mem hl)⟩
theorem Pre.tag {h : HP} (p : Pre h) {o : Int} {q : Nat × Nat} (hq : gS h o = some q) (hn : ¬ (q.1 = 98 ∨ q.1 = 110 ∨ q.1 = 50 ∨ q.1 = 112)) : 29 ≤ o.toNat := by
  refine Nat.le_of_not_lt (fun w => hn ?_)
  obtain ⟨L, E, e⟩ := p
  unfold gS at hq
  split at hq
  · cases hq
  · rw [e, List.getElem?_append_left (by rw [xSh_len]; exact w)] at hq
    obtain ⟨q', h1, h2⟩ := xSh_tag L w
    rw [h1] at hq
    cases hq; exact h2
/-- nothing outside has changed -/
def Kp (h h' : HP) : Prop := Pre h → ∀ o, o < 29 → h'.2 o = h.2 o
theorem u2_n' {c : Nat → Nat → Int} {i k : Nat} {v : Int} {i' k' : Nat} (h : ¬ i' = i) : u2 c i k v i' k' = c i' k' := by unfold u2; rw [if_neg (fun w => h w.1)]
theorem pF_kp {hp h : HP} {t k : Nat} {o v : Int} (ht : t < 50) (e : pF hp t k o v = some h) : Kp hp h := fun p o' ho => by
  unfold pF at e
  cases hq : gS hp o with
  | none => rw [hq] at e; simp at e
  | some q =>
    rw [hq] at e; simp only [Option.bind_some] at e
    split at e
    · rename_i g
      simp at e; subst e
      have := p.tag hq (by have := g.1; omega)
      funext i; exact u2_n' (by omega)
    · cases e
theorem pA_kp {hp h : HP} {a : Nat} {o i v : Int} (ha : a < 10) (e : pA hp a o i v = some h) : Kp hp h := fun p o' ho => by
  unfold pA at e
  cases hq : gS hp o with
  | none => rw [hq] at e; simp at e
  | some q =>
    rw [hq] at e; simp only [Option.bind_some] at e
    split at e
    · rename_i g
      simp at e; subst e
      have := p.tag hq (by have := g.1; omega)
      funext i; exact u2_n' (by omega)
    · cases e
theorem pR_kp {hp h : HP} {o i v : Int} (e : pR hp o i v = some h) : Kp hp h := fun p o' ho => by
  unfold pR at e
  cases hq : gS hp o with
  | none => rw [hq] at e; simp at e
  | some q =>
    rw [hq] at e; simp only [Option.bind_some] at e
    cases hq2 : gS hp v with
    | none => rw [hq2] at e; simp at e
    | some q2 =>
      rw [hq2] at e; simp only [Option.bind_some] at e
      split at e
      · rename_i g
        simp at e; subst e
        have := p.tag hq (by have := g.1; omega)
        funext i; exact u2_n' (by omega)
      · cases e
theorem acp_kp {hp h : HP} {so sp d dp n : Int} (e : acp hp so sp d dp n = some h) : Kp hp h := fun p o' ho => by
  unfold acp at e
  cases hq : gS hp so with
  | none => rw [hq] at e; simp at e
  | some q =>
    rw [hq] at e; simp only [Option.bind_some] at e
    cases hq2 : gS hp d with
    | none => rw [hq2] at e; simp at e
    | some q2 =>
      rw [hq2] at e; simp only [Option.bind_some] at e
      split at e
      · rename_i g
        simp at e; subst e
        have := p.tag hq2 (by have := g.2.1; omega)
        funext i
        show cpy _ _ _ _ _ _ _ _ = _
        unfold cpy
        rw [if_neg (by omega)]
      · cases e
theorem mk_kp (hp : HP) (t n : Nat) : Kp hp (mk hp t n) := fun p o' ho => by
  obtain ⟨L, E, e⟩ := p
  have : 29 ≤ hp.1.length := by rw [e, List.length_append, xSh_len]; omega
  funext i
  show (if o' = hp.1.length then dfl t i else hp.2 o' i) = _
  rw [if_neg (by omega)]
theorem inn_kp (cf : CF) (hcf : ∀ z a h r, cf z a h = some r → Kp h r.2) (hg : ∀ z a h r, cf z a h = some r → Gr h r.2) (y : Nat) : ∀ (n pc : Nat) (ls : LVs) (st : List AV) (hp : HP) (r : RT), inn cf y n pc ls st hp = some r → Kp hp r.2
  | 0, pc, ls, st, hp, r, h => by simp [inn] at h
  | n + 1, pc, ls, st, hp, r, h => by
    rw [inn_succ] at h
    cases hc : cdAt y pc with
    | none => rw [hc] at h; cases h
    | some ri =>
      rw [hc] at h
      simp only at h
      rcases stp_kp cf ri pc ls st hp (fun h' => Kp hp h' ∧ Gr hp h') ⟨fun _ _ _ => rfl, Gr_rf hp⟩ (fun t k o v h' ht e => ⟨pF_kp ht e, pF_gr e⟩) (fun a o i v h' ha e => ⟨pA_kp ha e, pA_gr e⟩) (fun o i v h' e => ⟨pR_kp e, pR_gr e⟩) (fun so sp d dp n h' e => ⟨acp_kp e, acp_gr e⟩) (fun t n => ⟨mk_kp hp t n, Gr_mk hp t n⟩) (code_k hc) (fun z a r e => ⟨hcf z a hp r e, hg z a hp r e⟩) with g | ⟨q, gq, g⟩ | ⟨a, b, c, d, gd, g⟩
      · rw [g] at h; cases h
      · rw [g] at h; cases h; exact gq.1
      · rw [g] at h
        have := inn_kp cf hcf hg y n a b c d r h
        exact fun p o ho => (this (p.gr gd.2) o ho).trans (gd.1 p o ho)
theorem Cd_kp : ∀ (d z : Nat) (a : List AV) (h : HP) (r : RT), Cd d z a h = some r → Kp h r.2
  | 0, z, a, h, r, e => by simp [Cd] at e
  | d + 1, z, a, h, r, e => by
    rw [Cd_succ] at e
    split at e
    case h_2 => cases e
    rw [Rr_iff] at e
    obtain ⟨n, e⟩ := e
    exact inn_kp (Cd d) (Cd_kp d) (Cd_gr d) z n _ _ _ _ _ e
