/-! tells: the reference -/
def fdU {α : Type} (f : Int → Option α) : Nat → Int → Option α
  | 0, _ => none
  | n + 1, j => match f j with
    | some x => some x
    | none => fdU f n (j + 1)
theorem fdU_cg {α : Type} {f g : Int → Option α} : ∀ (n : Nat) (j : Int), (∀ i, j ≤ i → i < j + n → f i = g i) → fdU f n j = fdU g n j
  | 0, _, _ => rfl
  | n + 1, j, h => by
    simp only [fdU]
    rw [h j (by omega) (by omega), fdU_cg n (j + 1) (fun i h1 h2 => h i (by omega) (by omega))]
def opR (b : Nat → Nat → Int) (k : Nat) (m i r v : Int) : Int := oE (pnt (b 143 (20 + m).toNat) r (asX b m (b 145 (800 * k + 3)) i)) (pnt (b 143 (20 + m).toNat) r (asY b m (b 145 (800 * k + 3)) i)) v
def FO (o : Nat) (b c : Nat → Nat → Int) : Prop := ∀ y i, y ≠ o → c y i = b y i
theorem FO.rf (o : Nat) (b : Nat → Nat → Int) : FO o b b := fun _ _ _ => rfl
theorem FO.tr {o : Nat} {a b c : Nat → Nat → Int} (h : FO o a b) (g : FO o b c) : FO o a c := fun y i hy => (g y i hy).trans (h y i hy)
theorem FO.u {o : Nat} {b c : Nat → Nat → Int} (h : FO o b c) (i : Nat) (v : Int) : FO o b (u2 c o i v) := fun y j hy => by rw [u2_n (fun w => hy w.1)]; exact h y j hy
theorem FO.fm {o : Nat} {b c : Nat → Nat → Int} (h : FO o b c) (ho : o = 157 ∨ o = 158) : Fm [157, 158] [] b c := ⟨fun y hy _ => funext fun i => h y i (fun w => hy (by rcases ho with e | e <;> rw [w, e] <;> decide)), fun i _ => h 142 i (by omega)⟩
theorem MP.fo {o : Nat} {b c : Nat → Nat → Int} {k : Nat} {m : Int} (h : MP b k m) (f : FO o b c) (ho : o = 157 ∨ o = 158) : MP c k m ∧ c 143 = b 143 ∧ c 145 = b 145 := h.mv (f.fm ho) (by decide)
theorem opR_of {b c : Nat → Nat → Int} (e3 : c 143 = b 143) (e5 : c 145 = b 145) (k : Nat) (m i r : Int) : opR c k m i r = opR b k m i r := by
  funext v; unfold opR; rw [e3, e5, asX_of e3, asY_of e3]
section
variable {s : List (Nat × Nat)} {b : Nat → Nat → Int}
theorem m241 (d : Nat) (hs : SpL s) {k : Nat} {m : Int} (hP : MP b k m) {i r v : Int} (i0 : 0 ≤ i) (i1 : i < asN (b 145 (800 * k + 3)) (b 143 (20 + m).toNat) (b 143 (24 + m).toNat)) (r0 : 0 ≤ r) (r1 : r < 2187) (v0 : 0 ≤ v) (v1 : v < 6) : Cd (d + 4) 241 [vA 142, vI m, vI i, vI r, vI v] (s, b) = some ([vI (opR b k m i r v)], (s, b)) := by
  have hm := hP.1.1
  have hM := hP.1.2.2.2.2.1
  have ha := hP.1.2.2.2.2.2
  have bx := asX_b hM hP.2.1 i0 i1
  have p1 := pnt_b (b 143 (20 + m).toNat) r (asX b m (b 145 (800 * k + 3)) i)
  have p2 := pnt_b (b 143 (20 + m).toNat) r (asY b m (b 145 (800 * k + 3)) i)
  have s1 := swp_bd v0 v1 p1.1 p1.2
  have s2 := swp_bd v0 v1 p2.1 p2.2
  rw [c241 (hg := gC142 hs b)]
  repeat (first | rw [bnd_s] | rw [tI_m] | rw [tL_m] | rw [tA_m] | rw [tV_m] | rw [m225 (d + 1) hs hm hM ha hP.2.1 i0 i1] | rw [m226 d hs hm hM ha hP.2.1 i0 i1] | rw [m181 (d + 2) hs hm hM r0 r1 bx.1.1 bx.1.2] | rw [m181 (d + 2) hs hm hM r0 r1 bx.2.1 bx.2.2] | rw [m174 (d + 2) hs hm v0 v1 p1.1 p1.2] | rw [m174 (d + 2) hs hm v0 v1 p2.1 p2.2] | rw [w32_id (z := 3 * swp v (pnt (b 143 (20 + m).toNat) r (asX b m (b 145 (800 * k + 3)) i))) (by omega) (by omega)] | rw [w32_id (z := 3 * swp v (pnt (b 143 (20 + m).toNat) r (asX b m (b 145 (800 * k + 3)) i)) + swp v (pnt (b 143 (20 + m).toNat) r (asY b m (b 145 (800 * k + 3)) i))) (by omega) (by omega)])
  rfl
theorem opR_b {k : Nat} {m i r v : Int} (v0 : 0 ≤ v) (v1 : v < 6) : 0 ≤ opR b k m i r v ∧ opR b k m i r v < 9 := oE_b (pnt_b _ _ _) (pnt_b _ _ _) v0 v1
/-- how often what is opened is x: with the swap v, and in all -/
def hC (b : Nat → Nat → Int) (k : Nat) (m i j r v x : Int) : Int := if j = -1 then b2i (decide (opR b k m i r (drS (b 145 (800 * k + 1)) v) = x)) else sumU (fun v' => if b 145 (800 * k + 2) = 0 ∨ v' = v then b2i (decide (9 * opR b k m i r (drS (b 145 (800 * k + 1)) v) + opR b k m j r (drS (b 145 (800 * k + 1)) v') = x)) else 0) (b 145 (800 * k + 1)).toNat 0
def hT (b : Nat → Nat → Int) (k : Nat) (m i j r x : Int) : Int := sumU (fun v => hC b k m i j r v x) (b 145 (800 * k + 1)).toNat 0
theorem m242_2 (d : Nat) {o : Nat} (ho : s[o]? = some (100, 81)) (m i j r : Int) (o7 o8 : Option AV) : ∀ (n t : Nat) (c : Nat → Nat → Int), t + n = 81 → FO o b c → (∀ x, x < t → c o x = 0) → ∃ c', Rr (Cd d) 242 2 [some (vA 142), some (vI m), some (vI i), some (vI j), some (vI r), some (vA (o : Int)), some (vI (t : Int)), o7, o8] [] (s, c) = Rr (Cd d) 242 13 [some (vA 142), some (vI m), some (vI i), some (vI j), some (vI r), some (vA (o : Int)), some (vI 0), o7, o8] [] (s, c') ∧ FO o b c' ∧ ∀ x, x < 81 → c' o x = 0
  | 0, t, c, h, hF, hZ => ⟨c, by rw [c242_2, if_neg (by omega)], hF, fun x hx => hZ x (by omega)⟩
  | n + 1, t, c, h, hF, hZ => by
    obtain ⟨c', y1, y2, y3⟩ := m242_2 d ho m i j r o7 o8 n (t + 1) (u2 c o t 0) (by omega) (hF.u _ _) (fun x hx => by
      by_cases g : x = t
      · subst g; rw [u2_e]
      · rw [u2_n (fun w => g w.2)]; exact hZ x (by omega))
    refine ⟨c', ?_, y2, y3⟩
    rw [← y1, c242_2, if_pos (by omega), pA_g (a := 0) ho _ _ (by omega) (by omega), bnd_s, Int.toNat_natCast, w32_id (by omega) (by omega)]
    rfl
theorem m242_38 (d : Nat) (hs : SpL s) {o : Nat} (ho : s[o]? = some (100, 81)) (ho2 : o = 157 ∨ o = 158) {k : Nat} {m : Int} (hP : MP b k m) {i j r v : Int} (j0 : 0 ≤ j) (j1 : j < asN (b 145 (800 * k + 3)) (b 143 (20 + m).toNat) (b 143 (24 + m).toNat)) (r0 : 0 ≤ r) (r1 : r < 2187) {q : Int} (q0 : 0 ≤ q) (q1 : q < 9) : ∀ (n : Nat) (v' : Int) (c : Nat → Nat → Int) (B : Int), 0 ≤ v' → v' + n = b 145 (800 * k + 1) → FO o b c → (∀ x : Int, 0 ≤ x → x < 81 → 0 ≤ c o x.toNat ∧ c o x.toNat ≤ B) → B + n ≤ 1000 → ∃ c' o8, Rr (Cd (d + 4)) 242 38 [some (vA 142), some (vI m), some (vI i), some (vI j), some (vI r), some (vA (o : Int)), some (vI v), some (vI q), some (vI v')] [] (s, c) = Rr (Cd (d + 4)) 242 71 [some (vA 142), some (vI m), some (vI i), some (vI j), some (vI r), some (vA (o : Int)), some (vI v), some (vI q), o8] [] (s, c') ∧ FO o b c' ∧ ∀ x : Int, 0 ≤ x → x < 81 → c' o x.toNat = c o x.toNat + sumU (fun v' => if b 145 (800 * k + 2) = 0 ∨ v' = v then b2i (decide (9 * q + opR b k m j r (drS (b 145 (800 * k + 1)) v') = x)) else 0) n v'
  | 0, v', c, B, h0, h, hF, hB, hb => by
    have e25 : c 142 25 = b 145 (800 * k + 1) := (hF 142 25 (by omega)).trans hP.2.2.1
    refine ⟨c, some (vI v'), ?_, hF, fun x _ _ => by simp [sumU]⟩
    rw [c242_38]
    repeat (first | rw [bnd_s] | rw [tI_m] | rw [tL_m] | rw [tA_m] | rw [tV_m] | rw [fC142 hs _ (by decide)] | rw [pC142 hs _ _ (by decide)] | rw [e25] | rw [if_neg (show ¬ v' < b 145 (800 * k + 1) by omega)])
  | n + 1, v', c, B, h0, h, hF, hB, hb => by
    obtain ⟨hP1, e3, e5⟩ := hP.fo hF ho2
    have w6 : b 145 (800 * k + 1) ≤ 6 := by have := hP.2.2.2.1; omega
    have e25 : c 142 25 = b 145 (800 * k + 1) := (hF 142 25 (by omega)).trans hP.2.2.1
    have e28 : c 142 28 = b 145 (800 * k + 2) := (hF 142 28 (by omega)).trans hP.2.2.2.2.1
    have wd := drS_b hP.2.2.2.1 h0 (by omega)
    have q3 := m223 (d + 3) hs e25 h0 (by omega)
    have q4 := m241 d hs hP1 j0 (by rw [e3, e5]; exact j1) r0 r1 wd.1 wd.2
    rw [opR_of e3 e5] at q4
    have ob := opR_b (b := b) (k := k) (m := m) (i := j) (r := r) wd.1 wd.2
    have nj : ¬ j = -1 := by omega
    by_cases g : b 145 (800 * k + 2) = 0 ∨ v' = v
    · have z : ∃ p, p = 9 * q + opR b k m j r (drS (b 145 (800 * k + 1)) v') := ⟨_, rfl⟩
      obtain ⟨p, zp⟩ := z
      have pb := hB p (by omega) (by omega)
      obtain ⟨c', o8, y1, y2, y3⟩ := m242_38 d hs ho ho2 hP j0 j1 r0 r1 q0 q1 n (v' + 1) (u2 c o p.toNat (c o p.toNat + 1)) (B + 1) (by omega) (by omega) (hF.u _ _) (fun x x0 x1 => by
        have xb := hB x x0 x1
        by_cases e : x = p
        · subst e; rw [u2_e]; omega
        · rw [u2_n (by omega)]; omega) (by omega)
      refine ⟨c', o8, ?_, y2, fun x x0 x1 => ?_⟩
      · rw [← y1, c242_38]
        have e51 : Rr (Cd (d + 4)) 242 51 [some (vA 142), some (vI m), some (vI i), some (vI j), some (vI r), some (vA (o : Int)), some (vI v), some (vI q), some (vI v')] [] (s, c) = Rr (Cd (d + 4)) 242 38 [some (vA 142), some (vI m), some (vI i), some (vI j), some (vI r), some (vA (o : Int)), some (vI v), some (vI q), some (vI (v' + 1))] [] (s, u2 c o p.toNat (c o p.toNat + 1)) := by
          rw [c242_51]
          repeat (first | rw [bnd_s] | rw [tI_m] | rw [tL_m] | rw [tA_m] | rw [tV_m] | rw [q3] | rw [q4] | rw [w32_id (z := 9 * q) (by omega) (by omega)] | rw [← zp] | rw [w32_id (z := p) (by omega) (by omega)] | rw [gA_g (a := 0) ho _ (show 0 ≤ p by omega) (by omega)] | rw [pA_g (a := 0) ho _ _ (show 0 ≤ p by omega) (by omega)] | rw [w32_id (z := c o p.toNat + 1) (by omega) (by omega)] | rw [c242_69] | rw [w32_id (z := v' + 1) (by omega) (by omega)])
        repeat (first | rw [bnd_s] | rw [tI_m] | rw [tL_m] | rw [tA_m] | rw [tV_m] | rw [fC142 hs _ (by decide)] | rw [pC142 hs _ _ (by decide)] | rw [e25] | rw [if_pos (show v' < b 145 (800 * k + 1) by omega)] | rw [if_neg nj] | rw [e28])
        by_cases g1 : b 145 (800 * k + 2) = 0
        · rw [if_pos g1]; exact e51
        · rw [if_neg g1, if_pos (g.resolve_left g1)]; exact e51
      · rw [y3 x x0 x1]
        simp only [sumU]
        rw [if_pos g, ← zp]
        by_cases e : x = p
        · subst e; rw [u2_e, decide_eq_true rfl, b2i_t]; omega
        · rw [u2_n (by omega), decide_eq_false (fun w => e w.symm), b2i_f]; omega
    · obtain ⟨c', o8, y1, y2, y3⟩ := m242_38 d hs ho ho2 hP j0 j1 r0 r1 q0 q1 n (v' + 1) c B (by omega) (by omega) hF hB (by omega)
      refine ⟨c', o8, ?_, y2, fun x x0 x1 => ?_⟩
      · rw [← y1, c242_38]
        repeat (first | rw [bnd_s] | rw [tI_m] | rw [tL_m] | rw [tA_m] | rw [tV_m] | rw [fC142 hs _ (by decide)] | rw [pC142 hs _ _ (by decide)] | rw [e25] | rw [if_pos (show v' < b 145 (800 * k + 1) by omega)] | rw [if_neg nj] | rw [e28] | rw [if_neg (show ¬ b 145 (800 * k + 2) = 0 from fun w => g (Or.inl w))] | rw [if_neg (show ¬ v' = v from fun w => g (Or.inr w))] | rw [c242_69] | rw [w32_id (z := v' + 1) (by omega) (by omega)])
      · rw [y3 x x0 x1]
        simp only [sumU]
        rw [if_neg g]; omega
theorem m242_13 (d : Nat) (hs : SpL s) {o : Nat} (ho : s[o]? = some (100, 81)) (ho2 : o = 157 ∨ o = 158) {k : Nat} {m : Int} (hP : MP b k m) {i j r : Int} (i0 : 0 ≤ i) (i1 : i < asN (b 145 (800 * k + 3)) (b 143 (20 + m).toNat) (b 143 (24 + m).toNat)) (j0 : -1 ≤ j) (j1 : j < asN (b 145 (800 * k + 3)) (b 143 (20 + m).toNat) (b 143 (24 + m).toNat)) (r0 : 0 ≤ r) (r1 : r < 2187) : ∀ (n : Nat) (v : Int) (c : Nat → Nat → Int) (B : Int), 0 ≤ v → v + n = b 145 (800 * k + 1) → FO o b c → (∀ x : Int, 0 ≤ x → x < 81 → 0 ≤ c o x.toNat ∧ c o x.toNat ≤ B) → B + 6 * n ≤ 900 → ∀ o7 o8, ∃ c', Rr (Cd (d + 4)) 242 13 [some (vA 142), some (vI m), some (vI i), some (vI j), some (vI r), some (vA (o : Int)), some (vI v), o7, o8] [] (s, c) = some ([], (s, c')) ∧ FO o b c' ∧ ∀ x : Int, 0 ≤ x → x < 81 → c' o x.toNat = c o x.toNat + sumU (fun v => hC b k m i j r v x) n v
  | 0, v, c, B, h0, h, hF, hB, hb, o7, o8 => by
    have e25 : c 142 25 = b 145 (800 * k + 1) := (hF 142 25 (by omega)).trans hP.2.2.1
    refine ⟨c, ?_, hF, fun x _ _ => by simp [sumU]⟩
    rw [c242_13]
    repeat (first | rw [bnd_s] | rw [tI_m] | rw [tL_m] | rw [tA_m] | rw [tV_m] | rw [fC142 hs _ (by decide)] | rw [pC142 hs _ _ (by decide)] | rw [e25] | rw [if_neg (show ¬ v < b 145 (800 * k + 1) by omega)])
  | n + 1, v, c, B, h0, h, hF, hB, hb, o7, o8 => by
    obtain ⟨hP1, e3, e5⟩ := hP.fo hF ho2
    have w6 : 1 ≤ b 145 (800 * k + 1) ∧ b 145 (800 * k + 1) ≤ 6 := by have := hP.2.2.2.1; omega
    have e25 : c 142 25 = b 145 (800 * k + 1) := (hF 142 25 (by omega)).trans hP.2.2.1
    have wd := drS_b hP.2.2.2.1 h0 (by omega)
    have q3 := m223 (d + 3) hs e25 h0 (by omega)
    have q4 := m241 d hs hP1 i0 (by rw [e3, e5]; exact i1) r0 r1 wd.1 wd.2
    rw [opR_of e3 e5] at q4
    have ob := opR_b (b := b) (k := k) (m := m) (i := i) (r := r) wd.1 wd.2
    have z : ∃ p, p = opR b k m i r (drS (b 145 (800 * k + 1)) v) := ⟨_, rfl⟩
    obtain ⟨p, zp⟩ := z
    rw [← zp] at q4 ob
    by_cases g : j = -1
    · have pb := hB p (by omega) (by omega)
      obtain ⟨c', y1, y2, y3⟩ := m242_13 d hs ho ho2 hP i0 i1 j0 j1 r0 r1 n (v + 1) (u2 c o p.toNat (c o p.toNat + 1)) (B + 1) (by omega) (by omega) (hF.u _ _) (fun x x0 x1 => by
        have xb := hB x x0 x1
        by_cases e : x = p
        · subst e; rw [u2_e]; omega
        · rw [u2_n (by omega)]; omega) (by omega) (some (vI p)) (some (vI 0))
      refine ⟨c', ?_, y2, fun x x0 x1 => ?_⟩
      · have e25' : u2 c o p.toNat (c o p.toNat + 1) 142 25 = b 145 (800 * k + 1) := by rw [u2_n (by omega)]; exact e25
        rw [← y1, c242_13]
        repeat (first | rw [bnd_s] | rw [tI_m] | rw [tL_m] | rw [tA_m] | rw [tV_m] | rw [fC142 hs _ (by decide)] | rw [pC142 hs _ _ (by decide)] | rw [e25] | rw [if_pos (show v < b 145 (800 * k + 1) by omega)] | rw [q3] | rw [q4] | rw [if_pos g] | rw [gA_g (a := 0) ho _ (show 0 ≤ p by omega) (by omega)] | rw [pA_g (a := 0) ho _ _ (show 0 ≤ p by omega) (by omega)] | rw [w32_id (z := c o p.toNat + 1) (by omega) (by omega)] | rw [c242_36] | rw [c242_38] | rw [e25'] | rw [if_pos (show (0 : Int) < b 145 (800 * k + 1) by omega)] | rw [c242_71] | rw [w32_id (z := v + 1) (by omega) (by omega)])
      · rw [y3 x x0 x1]
        simp only [sumU]
        rw [hC, if_pos g, ← zp]
        by_cases e : x = p
        · subst e; rw [u2_e, decide_eq_true rfl, b2i_t]; omega
        · rw [u2_n (by omega), decide_eq_false (fun w => e w.symm), b2i_f]; omega
    · obtain ⟨c1, o8', x1, x2, x3⟩ := m242_38 d hs ho ho2 hP (i := i) (v := v) (show 0 ≤ j by omega) j1 r0 r1 ob.1 ob.2 (b 145 (800 * k + 1)).toNat 0 c B (by omega) (by omega) hF hB (by omega)
      have hc : ∀ x : Int, sumU (fun v' => if b 145 (800 * k + 2) = 0 ∨ v' = v then b2i (decide (9 * p + opR b k m j r (drS (b 145 (800 * k + 1)) v') = x)) else 0) (b 145 (800 * k + 1)).toNat 0 = hC b k m i j r v x := fun x => by
        rw [hC, if_neg g, ← zp]
      have hcb : ∀ x : Int, 0 ≤ hC b k m i j r v x ∧ hC b k m i j r v x ≤ 6 := fun x => by
        have := sumU_b (B := 1) (fun v' => if b 145 (800 * k + 2) = 0 ∨ v' = v then b2i (decide (9 * p + opR b k m j r (drS (b 145 (800 * k + 1)) v') = x)) else 0) (b 145 (800 * k + 1)).toNat 0 (fun i _ _ => by
          split
          · exact b2i_b _
          · decide)
        rw [hc] at this
        omega
      obtain ⟨c', y1, y2, y3⟩ := m242_13 d hs ho ho2 hP i0 i1 j0 j1 r0 r1 n (v + 1) c1 (B + 6) (by omega) (by omega) x2 (fun x y0 y1 => by
        have xb := hB x y0 y1
        have := hcb x
        rw [x3 x y0 y1, hc]; omega) (by omega) (some (vI p)) o8'
      refine ⟨c', ?_, y2, fun x y0 y1 => ?_⟩
      · rw [← y1, c242_13]
        repeat (first | rw [bnd_s] | rw [tI_m] | rw [tL_m] | rw [tA_m] | rw [tV_m] | rw [fC142 hs _ (by decide)] | rw [pC142 hs _ _ (by decide)] | rw [e25] | rw [if_pos (show v < b 145 (800 * k + 1) by omega)] | rw [q3] | rw [q4] | rw [if_neg g] | rw [c242_36] | rw [x1] | rw [c242_71] | rw [w32_id (z := v + 1) (by omega) (by omega)])
      · rw [y3 x y0 y1, x3 x y0 y1, hc]
        simp only [sumU]
        omega
theorem m242 (d : Nat) (hs : SpL s) {o : Nat} (ho : s[o]? = some (100, 81)) (ho2 : o = 157 ∨ o = 158) {k : Nat} {m : Int} (hP : MP b k m) {i j r : Int} (i0 : 0 ≤ i) (i1 : i < asN (b 145 (800 * k + 3)) (b 143 (20 + m).toNat) (b 143 (24 + m).toNat)) (j0 : -1 ≤ j) (j1 : j < asN (b 145 (800 * k + 3)) (b 143 (20 + m).toNat) (b 143 (24 + m).toNat)) (r0 : 0 ≤ r) (r1 : r < 2187) : ∃ c', Cd (d + 5) 242 [vA 142, vI m, vI i, vI j, vI r, vA (o : Int)] (s, b) = some ([], (s, c')) ∧ FO o b c' ∧ ∀ x : Int, 0 ≤ x → x < 81 → c' o x.toNat = hT b k m i j r x := by
  obtain ⟨c1, x1, x2, x3⟩ := m242_2 (d + 4) ho m i j r none none 81 0 b (by omega) (FO.rf o b) (fun x hx => by omega)
  have w6 : 1 ≤ b 145 (800 * k + 1) ∧ b 145 (800 * k + 1) ≤ 6 := by have := hP.2.2.2.1; omega
  obtain ⟨c', y1, y2, y3⟩ := m242_13 d hs ho ho2 hP i0 i1 j0 j1 r0 r1 (b 145 (800 * k + 1)).toNat 0 c1 0 (by omega) (by omega) x2 (fun x y0 y1 => by rw [x3 x.toNat (by omega)]; omega) (by omega) none none
  refine ⟨c', ?_, y2, fun x z0 z1 => by rw [y3 x z0 z1, x3 x.toNat (by omega), Int.zero_add]; rfl⟩
  rw [c242 (hg := gC142 hs b)]
  have x1' : Rr (Cd (d + 4)) 242 2 [some (vA 142), some (vI m), some (vI i), some (vI j), some (vI r), some (vA (o : Int)), some (vI 0), none, none] [] (s, b) = Rr (Cd (d + 4)) 242 13 [some (vA 142), some (vI m), some (vI i), some (vI j), some (vI r), some (vA (o : Int)), some (vI 0), none, none] [] (s, c1) := x1
  rw [x1']
  exact y1
theorem m243_13 (d : Nat) (hs : SpL s) {c : Nat → Nat → Int} (hm : MS c) (o1 o2 o3 o4 : Option AV) : ∀ (n : Nat) (x : Int), 0 ≤ x → x + n = 81 → Rr (Cd d) 243 13 [some (vA 142), o1, o2, o3, o4, some (vI x)] [] (s, c) = some ([vI (b2i (anyU (fun x => decide (c 157 x.toNat ≠ c 158 x.toNat)) n x))], (s, c))
  | 0, x, h0, h => by rw [c243_13, if_neg (by omega)]; rfl
  | n + 1, x, h0, h => by
    have ih := m243_13 d hs hm o1 o2 o3 o4 n (x + 1) (by omega) (by omega)
    rw [c243_13, if_pos (by omega)]
    repeat (first | rw [bnd_s] | rw [tI_m] | rw [tL_m] | rw [tA_m] | rw [tV_m] | rw [fC142 hs _ (by decide)] | rw [pC142 hs _ _ (by decide)] | rw [MS_39 hm] | rw [MS_40 hm] | rw [aC157 hs _ h0 (by omega)] | rw [aC158 hs _ h0 (by omega)])
    simp only [anyU]
    by_cases e : c 157 x.toNat = c 158 x.toNat
    · rw [if_pos e, w32_id (by omega) (by omega), ih, decide_eq_false (fun w => w e), Bool.false_or]
    · rw [if_neg e, decide_eq_true e, Bool.true_or]; rfl
def dM (b : Nat → Nat → Int) (k : Nat) (m i j a : Int) : Bool := anyU (fun x => decide (hT b k m i j ((ansL b m).getD 0 0) x ≠ hT b k m i j ((ansL b m).getD a.toNat 0) x)) 81 0
theorem hT_of {b c : Nat → Nat → Int} (e3 : c 143 = b 143) (e5 : c 145 = b 145) (k : Nat) (m i j r x : Int) : hT c k m i j r x = hT b k m i j r x := by
  unfold hT
  rw [e5]
  refine sumU_cg _ _ (fun v _ _ => ?_)
  unfold hC; rw [e5, opR_of e3 e5, opR_of e3 e5]
theorem dM_of {b c : Nat → Nat → Int} (e3 : c 143 = b 143) (e5 : c 145 = b 145) (k : Nat) (m i j a : Int) : dM c k m i j a = dM b k m i j a := by
  unfold dM; rw [ansL_of e3]
  exact anyU_cg _ _ (fun x _ _ => by rw [hT_of e3 e5, hT_of e3 e5])
theorem dM_0 (b : Nat → Nat → Int) (k : Nat) (m i j : Int) : dM b k m i j 0 = false := by
  refine Bool.eq_false_iff.mpr (fun w => ?_)
  obtain ⟨x, -, -, hx⟩ := (anyU_t _ _).mp w
  exact of_decide_eq_true hx rfl
theorem m243 (d : Nat) (hs : SpL s) {k : Nat} {m : Int} (hP : MP b k m) (hA : AnsAt b (ansL b m)) {i j a : Int} (i0 : 0 ≤ i) (i1 : i < asN (b 145 (800 * k + 3)) (b 143 (20 + m).toNat) (b 143 (24 + m).toNat)) (j0 : -1 ≤ j) (j1 : j < asN (b 145 (800 * k + 3)) (b 143 (20 + m).toNat) (b 143 (24 + m).toNat)) (a0 : 0 ≤ a) (a1 : a < (ansL b m).length) (h7 : ∀ x : Int, 0 ≤ x → x < 81 → b 157 x.toNat = hT b k m i j ((ansL b m).getD 0 0) x) : ∃ c', Cd (d + 6) 243 [vA 142, vI m, vI i, vI j, vI a] (s, b) = some ([vI (b2i (dM b k m i j a))], (s, c')) ∧ FO 158 b c' := by
  have hm := hP.1.1
  have hM := hP.1.2.2.2.2.1
  have ll := ansL_len hM
  have al := ansL_at hM (i := a.toNat) (by omega)
  have e8 : b 148 a.toNat = (ansL b m).getD a.toNat 0 := hA.2 a.toNat (by omega)
  obtain ⟨c1, x1, x2, x3⟩ := m242 d hs (sC158 hs) (Or.inr rfl) hP i0 i1 j0 j1 al.1 al.2.2.1
  have hP1 := (hP.fo x2 (Or.inr rfl)).1
  refine ⟨c1, ?_, x2⟩
  have x1' : Cd (d + 5) 242 [vA 142, vI m, vI i, vI j, vI ((ansL b m).getD a.toNat 0), vA 158] (s, b) = some ([], (s, c1)) := x1
  rw [c243 (hg := gC142 hs b)]
  repeat (first | rw [bnd_s] | rw [tI_m] | rw [tL_m] | rw [tA_m] | rw [tV_m] | rw [fC142 hs _ (by decide)] | rw [pC142 hs _ _ (by decide)] | rw [MS_5 hm] | rw [aC148 hs _ a0 (by omega)] | rw [e8] | rw [MS_40 hm] | rw [x1'])
  rw [m243_13 _ hs hP1.1.1 _ _ _ _ 81 0 (by omega) (by omega)]
  have : anyU (fun x => decide (c1 157 x.toNat ≠ c1 158 x.toNat)) 81 0 = dM b k m i j a := anyU_cg _ _ (fun x y0 y1 => by rw [x2 157 _ (by omega), h7 x y0 (by omega), x3 x y0 (by omega)])
  rw [this]
def TM (c : Nat → Nat → Int) : Int × Int × Int := (c 142 41, c 142 42, c 142 43)
def fA (b : Nat → Nat → Int) (k : Nat) (m i j : Int) (a : Int) : Option (Int × Int × Int) := if dM b k m i j a then some (i, j, a) else none
theorem fA_of {b c : Nat → Nat → Int} (e3 : c 143 = b 143) (e5 : c 145 = b 145) (k : Nat) (m i j : Int) : fA c k m i j = fA b k m i j := by
  funext a; unfold fA; rw [dM_of e3 e5]
theorem m244_16 (d : Nat) (hs : SpL s) {k : Nat} {m : Int} (hP : MP b k m) (hA : AnsAt b (ansL b m)) {i j : Int} (i0 : 0 ≤ i) (i1 : i < asN (b 145 (800 * k + 3)) (b 143 (20 + m).toNat) (b 143 (24 + m).toNat)) (j0 : -1 ≤ j) (j1 : j < asN (b 145 (800 * k + 3)) (b 143 (20 + m).toNat) (b 143 (24 + m).toNat)) (h7 : ∀ x : Int, 0 ≤ x → x < 81 → b 157 x.toNat = hT b k m i j ((ansL b m).getD 0 0) x) : ∀ (n : Nat) (a : Int) (c : Nat → Nat → Int), 0 ≤ a → a + n = (ansL b m).length → FO 158 b c → (∃ t c', fdU (fA b k m i j) n a = some t ∧ Rr (Cd (d + 6)) 244 16 [some (vA 142), some (vI m), some (vI i), some (vI j), some (vI a)] [] (s, c) = some ([vI 1], (s, c')) ∧ Fm [157, 158] [41, 42, 43] b c' ∧ TM c' = t) ∨ (∃ c', fdU (fA b k m i j) n a = none ∧ Rr (Cd (d + 6)) 244 16 [some (vA 142), some (vI m), some (vI i), some (vI j), some (vI a)] [] (s, c) = some ([vI 0], (s, c')) ∧ FO 158 b c')
  | 0, a, c, h0, h, hF => by
    have e6 : c 142 6 = (ansL b m).length := (hF 142 6 (by omega)).trans hA.1
    refine Or.inr ⟨c, rfl, ?_, hF⟩
    rw [c244_16]
    repeat (first | rw [bnd_s] | rw [tI_m] | rw [tL_m] | rw [tA_m] | rw [tV_m] | rw [fC142 hs _ (by decide)] | rw [pC142 hs _ _ (by decide)] | rw [e6] | rw [if_neg (show ¬ a < ((ansL b m).length : Int) by omega)])
  | n + 1, a, c, h0, h, hF => by
    have e6 : c 142 6 = (ansL b m).length := (hF 142 6 (by omega)).trans hA.1
    obtain ⟨hP1, e3, e5⟩ := hP.fo hF (Or.inr rfl)
    have hM := hP.1.2.2.2.2.1
    have ll := ansL_len hM
    have eL := ansL_of e3 m
    obtain ⟨c1, x1, x2⟩ := m243 d hs hP1 (by rw [eL]; unfold AnsAt; rw [hF 142 6 (by omega)]; exact ⟨hA.1, fun z hz => (hF 148 z (by omega)).trans (hA.2 z hz)⟩) i0 (by rw [e3, e5]; exact i1) j0 (by rw [e3, e5]; exact j1) h0 (by rw [eL]; omega) (fun x y0 y1 => by rw [hF 157 _ (by omega), h7 x y0 y1, hT_of e3 e5, eL])
    rw [dM_of e3 e5] at x1
    have hF1 := hF.tr x2
    simp only [fdU, fA]
    by_cases g : dM b k m i j a = true
    · refine Or.inl ⟨(i, j, a), u2 (u2 (u2 c1 142 41 i) 142 42 j) 142 43 a, ?_, ?_, (((hF1.fm (Or.inr rfl)).mono (by decide) (by decide)).f _ (by decide)).f _ (by decide) |>.f _ (by decide), ?_⟩
      · rw [if_pos g]
      · rw [g] at x1
        rw [c244_16]
        repeat (first | rw [bnd_s] | rw [tI_m] | rw [tL_m] | rw [tA_m] | rw [tV_m] | rw [fC142 hs _ (by decide)] | rw [pC142 hs _ _ (by decide)] | rw [e6] | rw [if_pos (show a < ((ansL b m).length : Int) by omega)] | rw [x1] | rw [b2i_t] | rw [if_neg (show ¬ (1 : Int) = 0 by decide)])
      · unfold TM; rw [u2_n (by omega), u2_n (by omega), u2_e, u2_n (by omega), u2_e, u2_e]
    · have g' := Bool.eq_false_iff.mpr g
      rw [g'] at x1
      rw [if_neg g]
      have run : Rr (Cd (d + 6)) 244 16 [some (vA 142), some (vI m), some (vI i), some (vI j), some (vI a)] [] (s, c) = Rr (Cd (d + 6)) 244 16 [some (vA 142), some (vI m), some (vI i), some (vI j), some (vI (a + 1))] [] (s, c1) := by
        rw [c244_16]
        repeat (first | rw [bnd_s] | rw [tI_m] | rw [tL_m] | rw [tA_m] | rw [tV_m] | rw [fC142 hs _ (by decide)] | rw [pC142 hs _ _ (by decide)] | rw [e6] | rw [if_pos (show a < ((ansL b m).length : Int) by omega)] | rw [x1] | rw [b2i_f] | rw [if_pos (show (0 : Int) = 0 from rfl)] | rw [w32_id (z := a + 1) (by omega) (by omega)])
      rw [run]
      exact m244_16 d hs hP hA i0 i1 j0 j1 h7 n (a + 1) c1 (by omega) (by omega) hF1
theorem m244 (d : Nat) (hs : SpL s) {k : Nat} {m : Int} (hP : MP b k m) (hA : AnsAt b (ansL b m)) {i j : Int} (i0 : 0 ≤ i) (i1 : i < asN (b 145 (800 * k + 3)) (b 143 (20 + m).toNat) (b 143 (24 + m).toNat)) (j0 : -1 ≤ j) (j1 : j < asN (b 145 (800 * k + 3)) (b 143 (20 + m).toNat) (b 143 (24 + m).toNat)) : (∃ t c', fdU (fA b k m i j) (ansL b m).length 0 = some t ∧ Cd (d + 7) 244 [vA 142, vI m, vI i, vI j] (s, b) = some ([vI 1], (s, c')) ∧ Fm [157, 158] [41, 42, 43] b c' ∧ TM c' = t) ∨ (∃ c', fdU (fA b k m i j) (ansL b m).length 0 = none ∧ Cd (d + 7) 244 [vA 142, vI m, vI i, vI j] (s, b) = some ([vI 0], (s, c')) ∧ Fm [157, 158] [41, 42, 43] b c' ∧ TM c' = TM b) := by
  have hm := hP.1.1
  have hM := hP.1.2.2.2.2.1
  have ll := ansL_len hM
  have e6 := hA.1
  by_cases z : (ansL b m).length = 0
  · refine Or.inr ⟨b, by rw [z]; rfl, ?_, Fm.rf _ _ _, rfl⟩
    rw [c244 (hg := gC142 hs b)]
    repeat (first | rw [bnd_s] | rw [tI_m] | rw [tL_m] | rw [tA_m] | rw [tV_m] | rw [fC142 hs _ (by decide)] | rw [pC142 hs _ _ (by decide)] | rw [e6] | rw [if_neg (show ¬ (0 : Int) < ((ansL b m).length : Int) by omega)] | rw [c244_14] | rw [c244_16] | rw [if_neg (show ¬ (1 : Int) < ((ansL b m).length : Int) by omega)])
  · have al := ansL_at hM (i := 0) (by omega)
    have e8 : b 148 0 = (ansL b m).getD 0 0 := hA.2 0 (by omega)
    obtain ⟨c1, x1, x2, x3⟩ := m242 (d + 1) hs (sC157 hs) (Or.inl rfl) hP i0 i1 j0 j1 al.1 al.2.2.1
    obtain ⟨hP1, e3, e5⟩ := hP.fo x2 (Or.inl rfl)
    have eL := ansL_of e3 m
    have x1' : Cd (d + 6) 242 [vA 142, vI m, vI i, vI j, vI ((ansL b m).getD 0 0), vA 157] (s, b) = some ([], (s, c1)) := x1
    have run : ∀ X, Rr (Cd (d + 6)) 244 16 [some (vA 142), some (vI m), some (vI i), some (vI j), some (vI 1)] [] (s, c1) = X → Cd (d + 7) 244 [vA 142, vI m, vI i, vI j] (s, b) = X := fun X hX => by
      rw [c244 (hg := gC142 hs b)]
      repeat (first | rw [bnd_s] | rw [tI_m] | rw [tL_m] | rw [tA_m] | rw [tV_m] | rw [fC142 hs _ (by decide)] | rw [pC142 hs _ _ (by decide)] | rw [e6] | rw [if_pos (show (0 : Int) < ((ansL b m).length : Int) by omega)] | rw [MS_5 hm] | rw [aC148 hs _ (show (0 : Int) ≤ 0 by decide) (by decide)] | rw [show (0 : Int).toNat = 0 from rfl] | rw [e8] | rw [MS_39 hm] | rw [x1'] | rw [c244_14])
      exact hX
    have H := m244_16 d hs hP1 (by rw [eL]; unfold AnsAt; rw [x2 142 6 (by omega)]; exact ⟨hA.1, fun z hz => (x2 148 z (by omega)).trans (hA.2 z hz)⟩) i0 (by rw [e3, e5]; exact i1) j0 (by rw [e3, e5]; exact j1) (fun x y0 y1 => by rw [x3 x y0 y1, hT_of e3 e5, eL]) ((ansL b m).length - 1) 1 c1 (by omega) (by rw [eL]; omega) (FO.rf _ _)
    have ef : fdU (fA b k m i j) (ansL b m).length 0 = fdU (fA b k m i j) ((ansL b m).length - 1) 1 := by
      rw [show (ansL b m).length = ((ansL b m).length - 1) + 1 by omega]
      simp only [fdU, fA]
      rw [dM_0, if_neg (by decide), show (ansL b m).length - 1 + 1 - 1 = (ansL b m).length - 1 by omega]; rfl
    rw [fA_of e3 e5] at H
    rw [ef]
    have F1 : Fm [157, 158] [41, 42, 43] b c1 := (x2.fm (Or.inl rfl)).mono (by decide) (by decide)
    rcases H with ⟨t, c', h1, h2, h3, h4⟩ | ⟨c', h1, h2, h3⟩
    · exact Or.inl ⟨t, c', h1, run _ h2, F1.tr h3, h4⟩
    · refine Or.inr ⟨c', h1, run _ h2, F1.tr ((h3.fm (Or.inr rfl)).mono (by decide) (by decide)), ?_⟩
      unfold TM
      rw [h3 142 41 (by omega), h3 142 42 (by omega), h3 142 43 (by omega), x2 142 41 (by omega), x2 142 42 (by omega), x2 142 43 (by omega)]
def f1M (b : Nat → Nat → Int) (k : Nat) (m i : Int) : Option (Int × Int × Int) := fdU (fA b k m i (-1)) (ansL b m).length 0
def f2M (b : Nat → Nat → Int) (k : Nat) (m i j : Int) : Option (Int × Int × Int) := fdU (fA b k m i j) (ansL b m).length 0
theorem AnsAt_m {c : Nat → Nat → Int} {l : List Int} (h : AnsAt b l) {L F : List Nat} (f : Fm L F b c) (h1 : L.contains 148 = false) (h2 : F.contains 6 = false) : AnsAt c l := by
  have nn : ∀ {x : Nat} {M : List Nat}, M.contains x = false → x ∉ M := fun {x M} g w => by
    have := List.contains_iff_mem.mpr w
    rw [g] at this; cases this
  unfold AnsAt at h ⊢
  rw [f.2 6 (nn h2), f.1 148 (nn h1) (by decide)]; exact h
theorem m245_31 (d : Nat) (hs : SpL s) {k : Nat} {m : Int} (hP : MP b k m) (hA : AnsAt b (ansL b m)) {i : Int} (i0 : 0 ≤ i) (i1 : i < asN (b 145 (800 * k + 3)) (b 143 (20 + m).toNat) (b 143 (24 + m).toNat)) (a1 : asN (b 145 (800 * k + 3)) (b 143 (20 + m).toNat) (b 143 (24 + m).toNat) ≤ 21) : ∀ (n : Nat) (j : Int) (c : Nat → Nat → Int), 0 ≤ j → j + n = asN (b 145 (800 * k + 3)) (b 143 (20 + m).toNat) (b 143 (24 + m).toNat) → Fm [157, 158] [41, 42, 43] b c → (∃ t c', fdU (f2M b k m i) n j = some t ∧ Rr (Cd (d + 7)) 245 31 [some (vA 142), some (vI m), some (vI 2), some (vI (asN (b 145 (800 * k + 3)) (b 143 (20 + m).toNat) (b 143 (24 + m).toNat))), some (vI i), some (vI j)] [] (s, c) = some ([vI 1], (s, c')) ∧ Fm [157, 158] [41, 42, 43] b c' ∧ TM c' = t) ∨ (∃ c' o5, fdU (f2M b k m i) n j = none ∧ Rr (Cd (d + 7)) 245 31 [some (vA 142), some (vI m), some (vI 2), some (vI (asN (b 145 (800 * k + 3)) (b 143 (20 + m).toNat) (b 143 (24 + m).toNat))), some (vI i), some (vI j)] [] (s, c) = Rr (Cd (d + 7)) 245 15 [some (vA 142), some (vI m), some (vI 2), some (vI (asN (b 145 (800 * k + 3)) (b 143 (20 + m).toNat) (b 143 (24 + m).toNat))), some (vI (i + 1)), o5] [] (s, c') ∧ Fm [157, 158] [41, 42, 43] b c' ∧ TM c' = TM c)
  | 0, j, c, h0, h, hF => Or.inr ⟨c, some (vI j), rfl, by rw [c245_31, if_neg (by omega), c245_47, w32_id (by omega) (by omega)], hF, rfl⟩
  | n + 1, j, c, h0, h, hF => by
    obtain ⟨hP1, e3, e5⟩ := hP.mv hF (by decide)
    have H := m244 d hs hP1 (by rw [ansL_of e3]; exact AnsAt_m hA hF (by decide) (by decide)) i0 (by rw [e3, e5]; exact i1) (show -1 ≤ j by omega) (by rw [e3, e5]; omega)
    rw [fA_of e3 e5, ansL_of e3] at H
    simp only [fdU]
    rcases H with ⟨t, c', h1, h2, h3, h4⟩ | ⟨c', h1, h2, h3, h4⟩
    · have e : f2M b k m i j = some t := h1
      rw [e]
      refine Or.inl ⟨t, c', rfl, ?_, hF.tr h3, h4⟩
      rw [c245_31, if_pos (by omega), if_pos rfl]
      repeat (first | rw [bnd_s] | rw [tI_m] | rw [tL_m] | rw [tA_m] | rw [tV_m] | rw [h2] | rw [if_neg (show ¬ (1 : Int) = 0 by decide)])
    · have e : f2M b k m i j = none := h1
      rw [e]
      have run : Rr (Cd (d + 7)) 245 31 [some (vA 142), some (vI m), some (vI 2), some (vI (asN (b 145 (800 * k + 3)) (b 143 (20 + m).toNat) (b 143 (24 + m).toNat))), some (vI i), some (vI j)] [] (s, c) = Rr (Cd (d + 7)) 245 31 [some (vA 142), some (vI m), some (vI 2), some (vI (asN (b 145 (800 * k + 3)) (b 143 (20 + m).toNat) (b 143 (24 + m).toNat))), some (vI i), some (vI (j + 1))] [] (s, c') := by
        rw [c245_31, if_pos (by omega), if_pos rfl]
        repeat (first | rw [bnd_s] | rw [tI_m] | rw [tL_m] | rw [tA_m] | rw [tV_m] | rw [h2] | rw [if_pos (show (0 : Int) = 0 from rfl)] | rw [w32_id (z := j + 1) (by omega) (by omega)])
      rw [run]
      rcases m245_31 d hs hP hA i0 i1 a1 n (j + 1) c' (by omega) (by omega) (hF.tr h3) with ⟨t, c2, y1, y2, y3, y4⟩ | ⟨c2, o5, y1, y2, y3, y4⟩
      · exact Or.inl ⟨t, c2, y1, y2, y3, y4⟩
      · exact Or.inr ⟨c2, o5, y1, y2, y3, y4.trans h4⟩
def fM (b : Nat → Nat → Int) (k : Nat) (m n i : Int) : Option (Int × Int × Int) := if n = 1 then f1M b k m i else fdU (f2M b k m i) (asN (b 145 (800 * k + 3)) (b 143 (20 + m).toNat) (b 143 (24 + m).toNat)).toNat 0
theorem m245_15 (d : Nat) (hs : SpL s) {k : Nat} {m : Int} (hP : MP b k m) (hA : AnsAt b (ansL b m)) (a1 : asN (b 145 (800 * k + 3)) (b 143 (20 + m).toNat) (b 143 (24 + m).toNat) ≤ 21) {q : Int} (hq : q = 1 ∨ q = 2) : ∀ (n : Nat) (i : Int) (c : Nat → Nat → Int) (o5 : Option AV), 0 ≤ i → i + n = asN (b 145 (800 * k + 3)) (b 143 (20 + m).toNat) (b 143 (24 + m).toNat) → Fm [157, 158] [41, 42, 43] b c → ∃ c', Rr (Cd (d + 7)) 245 15 [some (vA 142), some (vI m), some (vI q), some (vI (asN (b 145 (800 * k + 3)) (b 143 (20 + m).toNat) (b 143 (24 + m).toNat))), some (vI i), o5] [] (s, c) = some ([vI (b2i (fdU (fM b k m q) n i).isSome)], (s, c')) ∧ Fm [157, 158] [41, 42, 43] b c' ∧ TM c' = (fdU (fM b k m q) n i).getD (TM c)
  | 0, i, c, o5, h0, h, hF => ⟨c, by rw [c245_15, if_neg (by omega)]; rfl, hF, rfl⟩
  | n + 1, i, c, o5, h0, h, hF => by
    obtain ⟨hP1, e3, e5⟩ := hP.mv hF (by decide)
    simp only [fdU]
    rcases hq with e | e <;> subst e
    · have H := m244 d hs hP1 (by rw [ansL_of e3]; exact AnsAt_m hA hF (by decide) (by decide)) h0 (by rw [e3, e5]; omega) (show -1 ≤ (-1 : Int) by decide) (by rw [e3, e5]; omega)
      rw [fA_of e3 e5, ansL_of e3] at H
      rcases H with ⟨t, c', h1, h2, h3, h4⟩ | ⟨c', h1, h2, h3, h4⟩
      · have e : fM b k m 1 i = some t := h1
        rw [e]
        refine ⟨c', ?_, hF.tr h3, h4⟩
        rw [c245_15, if_pos (by omega), if_pos rfl]
        repeat (first | rw [bnd_s] | rw [tI_m] | rw [tL_m] | rw [tA_m] | rw [tV_m] | rw [h2] | rw [if_neg (show ¬ (1 : Int) = 0 by decide)])
        rfl
      · have e : fM b k m 1 i = none := h1
        rw [e]
        obtain ⟨c2, y1, y2, y3⟩ := m245_15 d hs hP hA a1 (Or.inl rfl) n (i + 1) c' (some (vI 0)) (by omega) (by omega) (hF.tr h3)
        refine ⟨c2, ?_, y2, by rw [y3, h4]⟩
        rw [c245_15, if_pos (by omega), if_pos rfl]
        repeat (first | rw [bnd_s] | rw [tI_m] | rw [tL_m] | rw [tA_m] | rw [tV_m] | rw [h2] | rw [if_pos (show (0 : Int) = 0 from rfl)] | rw [c245_29] | rw [c245_31] | rw [if_pos (show (0 : Int) < asN (b 145 (800 * k + 3)) (b 143 (20 + m).toNat) (b 143 (24 + m).toNat) by omega)] | rw [if_neg (show ¬ (1 : Int) = 2 by decide)] | rw [c245_47] | rw [w32_id (z := i + 1) (by omega) (by omega)])
        exact y1
    · have E : fM b k m 2 i = fdU (f2M b k m i) (asN (b 145 (800 * k + 3)) (b 143 (20 + m).toNat) (b 143 (24 + m).toNat)).toNat 0 := if_neg (by decide)
      have run : Rr (Cd (d + 7)) 245 15 [some (vA 142), some (vI m), some (vI 2), some (vI (asN (b 145 (800 * k + 3)) (b 143 (20 + m).toNat) (b 143 (24 + m).toNat))), some (vI i), o5] [] (s, c) = Rr (Cd (d + 7)) 245 31 [some (vA 142), some (vI m), some (vI 2), some (vI (asN (b 145 (800 * k + 3)) (b 143 (20 + m).toNat) (b 143 (24 + m).toNat))), some (vI i), some (vI 0)] [] (s, c) := by
        rw [c245_15, if_pos (by omega), if_neg (by decide), c245_29]
      rw [run]
      rcases m245_31 d hs hP hA h0 (by omega) a1 (asN (b 145 (800 * k + 3)) (b 143 (20 + m).toNat) (b 143 (24 + m).toNat)).toNat 0 c (by omega) (by omega) hF with ⟨t, c2, y1, y2, y3, y4⟩ | ⟨c2, o5, y1, y2, y3, y4⟩
      · rw [E, y1]
        exact ⟨c2, y2, y3, y4⟩
      · rw [E, y1, y2]
        obtain ⟨c3, z1, z2, z3⟩ := m245_15 d hs hP hA a1 (Or.inr rfl) n (i + 1) c2 o5 (by omega) (by omega) y3
        exact ⟨c3, z1, z2, by rw [z3, y4]⟩
theorem m245 (d : Nat) (hs : SpL s) {k : Nat} {m : Int} (hP : MP b k m) (hA : AnsAt b (ansL b m)) {q : Int} (hq : q = 1 ∨ q = 2) : ∃ c', Cd (d + 8) 245 [vA 142, vI m, vI q] (s, b) = some ([vI (b2i (fdU (fM b k m q) (asN (b 145 (800 * k + 3)) (b 143 (20 + m).toNat) (b 143 (24 + m).toNat)).toNat 0).isSome)], (s, c')) ∧ Fm [157, 158] [41, 42, 43] b c' ∧ TM c' = (fdU (fM b k m q) (asN (b 145 (800 * k + 3)) (b 143 (20 + m).toNat) (b 143 (24 + m).toNat)).toNat 0).getD (-1, -1, -1) := by
  have hM := hP.1.2.2.2.2.1
  have aN := asN_b (a := b 145 (800 * k + 3)) hM.2.1.1 hM.2.1.2 hM.2.2.1.1 hM.2.2.1.2
  have z : ∃ b', b' = u2 (u2 (u2 b 142 41 (-1)) 142 42 (-1)) 142 43 (-1) := ⟨_, rfl⟩
  obtain ⟨b', zb⟩ := z
  have bf : Fm [157, 158] [41, 42, 43] b b' := by rw [zb]; exact (((Fm.rf _ _ _).f _ (by decide)).f _ (by decide)).f _ (by decide)
  obtain ⟨P, e3, e5⟩ := hP.mv bf (by decide)
  have q4 := P.n224 (d + 6) hs
  rw [e3, e5] at q4
  obtain ⟨c', y1, y2, y3⟩ := m245_15 d hs hP hA aN.2 hq (asN (b 145 (800 * k + 3)) (b 143 (20 + m).toNat) (b 143 (24 + m).toNat)).toNat 0 b' none (by omega) (by omega) bf
  refine ⟨c', ?_, y2, ?_⟩
  · rw [c245 (hg := gC142 hs b)]
    repeat (first | rw [bnd_s] | rw [tI_m] | rw [tL_m] | rw [tA_m] | rw [tV_m] | rw [fC142 hs _ (by decide)] | rw [pC142 hs _ _ (by decide)] | rw [← zb] | rw [q4])
    exact y1
  · rw [y3]
    have : TM b' = (-1, -1, -1) := by unfold TM; rw [zb, u2_n (by omega), u2_n (by omega), u2_e, u2_n (by omega), u2_e, u2_e]
    rw [this]
end
