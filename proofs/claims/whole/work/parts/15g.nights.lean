/-! nights: the class -/
/-- a number of the class: places of 1000000, the highest not 0 -/
def PW (c : Nat → Nat → Int) (o : Nat) (sz : Nat) (x : Int) : Prop := c o 1 = (sz : Int) ∧ sz ≤ 120 ∧ (∀ i, i < sz → 0 ≤ c (o + 1) i ∧ c (o + 1) i < 1000000) ∧ vlo (c (o + 1)) 1000000 sz = x
def PN (c : Nat → Nat → Int) (o : Nat) (sz : Nat) : Prop := 0 < sz → c (o + 1) (sz - 1) ≠ 0
/-- what a number's change leaves alone -/
def PO (o : Nat) (b c : Nat → Nat → Int) : Prop := ∀ x i, ¬ (x = o ∧ i = 1) → x ≠ o + 1 → c x i = b x i
section
variable {s : List (Nat × Nat)}
theorem k63_5 (d : Nat) {o : Nat} (ho : s[o]? = some (5, 2)) (ho1 : s[o + 1]? = some (100, 120)) {b : Nat → Nat → Int} (h0 : b o 0 = ((o + 1 : Nat) : Int)) {x : Int} (o1 : Option AV) : ∀ (n sz : Nat) (r : Int) (c : Nat → Nat → Int), sz + n ≤ 120 → PO o b c → 0 ≤ r → r < 1000000 ^ n → r < 2147483648 → c o 1 = (sz : Int) → (∀ i, i < sz → 0 ≤ c (o + 1) i ∧ c (o + 1) i < 1000000) → vlo (c (o + 1)) 1000000 sz + r * 1000000 ^ sz = x → (r = 0 → PN c o sz) → ∃ c' sz', Rr (Cd d) 63 5 [some (vA (o : Int)), o1, some (vI r)] [] (s, c) = some ([], (s, c')) ∧ PO o b c' ∧ PW c' o sz' x ∧ PN c' o sz'
  | n, sz, r, c, h, hF, r0, r1, r2, e1, hD, hV, hN => by
    by_cases z : r = 0
    · refine ⟨c, sz, ?_, hF, ⟨e1, by omega, hD, by rw [z, Int.zero_mul, Int.add_zero] at hV; exact hV⟩, hN z⟩
      rw [c63_5, if_neg (by omega), c63_30]
    · match n, h, r1 with
      | 0, h, r1 => rw [Int.pow_zero] at r1; omega
      | n + 1, h, r1 =>
        rw [Int.pow_succ] at r1
        have hr : r / 1000000 < 1000000 ^ n := Int.ediv_lt_of_lt_mul (by decide) r1
        have e0 : c o 0 = ((o + 1 : Nat) : Int) := (hF o 0 (by omega) (by omega)).trans h0
        have V2 : vlo (u2 (u2 c (o + 1) sz (r % 1000000)) o 1 ((sz : Int) + 1) (o + 1)) 1000000 (sz + 1) + r / 1000000 * 1000000 ^ (sz + 1) = x := by
          simp only [vlo]
          rw [u2_n (by omega), u2_e, vlo_cg (g := c (o + 1)) sz (fun j hj => by rw [u2_n (by omega), u2_n (by omega)]), ← hV, Int.pow_succ, Int.mul_comm ((1000000 : Int) ^ sz) 1000000, ← Int.mul_assoc, Int.mul_comm (r / 1000000) 1000000, Int.add_assoc, ← Int.add_mul, Int.emod_add_mul_ediv]
        obtain ⟨c', sz', y1, y2, y3, y4⟩ := k63_5 d ho ho1 h0 o1 n (sz + 1) (r / 1000000) (u2 (u2 c (o + 1) sz (r % 1000000)) o 1 ((sz : Int) + 1)) (by omega) (fun x i hx hx2 => by rw [u2_n hx, u2_n (fun w => hx2 w.1)]; exact hF x i hx hx2) (by omega) hr (by omega) (by rw [u2_e]; omega) (fun i hi => by
          rw [u2_n (by omega)]
          by_cases g : i = sz
          · subst g; rw [u2_e]; omega
          · rw [u2_n (by omega)]; exact hD i (by omega)) V2 (fun w _ => by
          rw [u2_n (by omega), show sz + 1 - 1 = sz by omega, u2_e]; omega)
        refine ⟨c', sz', ?_, y2, y3, y4⟩
        have t1 : (sz : Int).toNat = sz := Int.toNat_natCast sz
        have e1' : u2 c (o + 1) sz (r % 1000000) o 1 = (sz : Int) := by rw [u2_n (by omega)]; exact e1
        rw [c63_5, if_pos (by omega)]
        repeat (first | rw [bnd_s] | rw [tI_m] | rw [tL_m] | rw [tA_m] | rw [tV_m] | rw [gF_g ho _ (by decide)] | rw [pF_g ho _ _ (by decide)] | rw [e1] | rw [if_pos (show (sz : Int) < 120 by omega)] | rw [e0] | rw [irem_n r0 r2 (show (0 : Int) < 1000000 by decide) (by decide)] | rw [idiv_n r0 r2 (show (0 : Int) < 1000000 by decide) (by decide)] | rw [pA_g (a := 0) ho1 _ _ (show (0 : Int) ≤ (sz : Int) by omega) (by omega)] | rw [t1] | rw [e1'] | rw [w32_id (z := (sz : Int) + 1) (by omega) (by omega)])
        exact y1
theorem k63 (d : Nat) {o : Nat} (ho : s[o]? = some (5, 2)) (ho1 : s[o + 1]? = some (100, 120)) {b : Nat → Nat → Int} (h0 : b o 0 = ((o + 1 : Nat) : Int)) {x : Int} (x0 : 0 ≤ x) (x1 : x ≤ 1000000000) : ∃ c' sz', Cd (d + 1) 63 [vA (o : Int), vI x] (s, b) = some ([], (s, c')) ∧ PO o b c' ∧ PW c' o sz' x ∧ PN c' o sz' := by
  obtain ⟨c', sz', y1, y2, y3, y4⟩ := k63_5 d ho ho1 h0 (x := x) (some (vI x)) 2 0 x (u2 b o 1 0) (by omega) (fun x i hx hx2 => by rw [u2_n hx]) x0 (Int.lt_of_le_of_lt x1 (by decide)) (by omega) (by rw [u2_e]; rfl) (fun i hi => by omega) (by simp [vlo]) (fun _ w => by omega)
  refine ⟨c', sz', ?_, y2, y3, y4⟩
  rw [c63 (hg := (gS_p s b o).trans ho)]
  repeat (first | rw [bnd_s] | rw [tI_m] | rw [tL_m] | rw [tA_m] | rw [tV_m] | rw [gF_g ho _ (by decide)] | rw [pF_g ho _ _ (by decide)])
  exact y1
theorem k64_48 (d : Nat) {o : Nat} (ho : s[o]? = some (5, 2)) (ho1 : s[o + 1]? = some (100, 120)) {b : Nat → Nat → Int} (h0 : b o 0 = ((o + 1 : Nat) : Int)) {x : Int} (o1 o2 o3 o4 : Option AV) : ∀ (sz : Nat) (c : Nat → Nat → Int), PO o b c → PW c o sz x → ∃ c' sz', Rr (Cd d) 64 48 [some (vA (o : Int)), o1, o2, o3, o4] [] (s, c) = some ([], (s, c')) ∧ PO o b c' ∧ PW c' o sz' x ∧ PN c' o sz'
  | 0, c, hF, hW => by
    have e1 := hW.1
    refine ⟨c, 0, ?_, hF, hW, fun w => by omega⟩
    rw [c64_48]
    repeat (first | rw [bnd_s] | rw [tI_m] | rw [tL_m] | rw [tA_m] | rw [tV_m] | rw [gF_g ho _ (by decide)] | rw [pF_g ho _ _ (by decide)] | rw [e1] | rw [if_neg (show ¬ (0 : Int) < ((0 : Nat) : Int) by decide)] | rw [c64_66])
  | sz + 1, c, hF, hW => by
    obtain ⟨e1, h1, hD, hV⟩ := hW
    have e0 : c o 0 = ((o + 1 : Nat) : Int) := (hF o 0 (by omega) (by omega)).trans h0
    have t1 : (((sz + 1 : Nat) : Int) - 1).toNat = sz := by omega
    by_cases z : c (o + 1) sz = 0
    · obtain ⟨c', sz', y1, y2, y3, y4⟩ := k64_48 d ho ho1 h0 (x := x) o1 o2 o3 o4 sz (u2 c o 1 (sz : Int)) (fun x i hx hx2 => by rw [u2_n hx]; exact hF x i hx hx2) ⟨by rw [u2_e], by omega, fun i hi => by rw [u2_n (by omega)]; exact hD i (by omega), by
        rw [vlo_cg (g := c (o + 1)) sz (fun j hj => by rw [u2_n (by omega)]), ← hV]
        simp only [vlo]
        rw [z, Int.zero_mul, Int.add_zero]⟩
      refine ⟨c', sz', ?_, y2, y3, y4⟩
      rw [c64_48]
      repeat (first | rw [bnd_s] | rw [tI_m] | rw [tL_m] | rw [tA_m] | rw [tV_m] | rw [gF_g ho _ (by decide)] | rw [pF_g ho _ _ (by decide)] | rw [e1] | rw [if_pos (show (0 : Int) < ((sz + 1 : Nat) : Int) by omega)] | rw [e0] | rw [w32_id (z := ((sz + 1 : Nat) : Int) - 1) (by omega) (by omega)] | rw [gA_g (a := 0) ho1 _ (show (0 : Int) ≤ ((sz + 1 : Nat) : Int) - 1 by omega) (by omega)] | rw [t1] | rw [if_pos z])
      rw [show ((sz + 1 : Nat) : Int) - 1 = (sz : Int) by omega]
      exact y1
    · refine ⟨c, sz + 1, ?_, hF, ⟨e1, h1, hD, hV⟩, fun _ => by rw [show sz + 1 - 1 = sz by omega]; exact z⟩
      rw [c64_48]
      repeat (first | rw [bnd_s] | rw [tI_m] | rw [tL_m] | rw [tA_m] | rw [tV_m] | rw [gF_g ho _ (by decide)] | rw [pF_g ho _ _ (by decide)] | rw [e1] | rw [if_pos (show (0 : Int) < ((sz + 1 : Nat) : Int) by omega)] | rw [e0] | rw [w32_id (z := ((sz + 1 : Nat) : Int) - 1) (by omega) (by omega)] | rw [gA_g (a := 0) ho1 _ (show (0 : Int) ≤ ((sz + 1 : Nat) : Int) - 1 by omega) (by omega)] | rw [t1] | rw [if_neg z] | rw [c64_66])
theorem k64_4 (d : Nat) {o : Nat} (ho : s[o]? = some (5, 2)) (ho1 : s[o + 1]? = some (100, 120)) {b : Nat → Nat → Int} (h0 : b o 0 = ((o + 1 : Nat) : Int)) {sz : Nat} {x f : Int} (hW : PW b o sz x) (f0 : 0 ≤ f) (f1 : f ≤ 21) (hx : f * x < 1000000 ^ 120) : ∀ (n i : Nat) (v : Int) (c : Nat → Nat → Int), i + n = sz → 0 ≤ v → v ≤ f → (∀ x j, ¬ (x = o + 1 ∧ j < i) → c x j = b x j) → (∀ j, j < i → 0 ≤ c (o + 1) j ∧ c (o + 1) j < 1000000) → vlo (c (o + 1)) 1000000 i + v * 1000000 ^ i = f * vlo (b (o + 1)) 1000000 i → ∀ o4, ∃ c' sz', Rr (Cd d) 64 4 [some (vA (o : Int)), some (vI f), some (vI v), some (vI (i : Int)), o4] [] (s, c) = some ([], (s, c')) ∧ PO o b c' ∧ PW c' o sz' (f * x) ∧ PN c' o sz'
  | 0, i, v, c, h, v0, v1, hF, hD, hV, o4 => by
    have : i = sz := by omega
    subst this
    obtain ⟨e1, h1, -, hV0⟩ := hW
    rw [hV0] at hV
    have E1 : c o 1 = (i : Int) := (hF o 1 (by omega)).trans e1
    have E0 : c o 0 = ((o + 1 : Nat) : Int) := (hF o 0 (by omega)).trans h0
    have hPO : PO o b c := fun x j hx hx2 => hF x j (fun w => hx2 w.1)
    by_cases z : v = 0
    · obtain ⟨c', sz', y1, y2, y3, y4⟩ := k64_48 d ho ho1 h0 (x := f * x) (some (vI f)) (some (vI v)) (some (vI (i : Int))) o4 i c hPO ⟨E1, h1, hD, by rw [z, Int.zero_mul, Int.add_zero] at hV; exact hV⟩
      refine ⟨c', sz', ?_, y2, y3, y4⟩
      rw [c64_4]
      repeat (first | rw [bnd_s] | rw [tI_m] | rw [tL_m] | rw [tA_m] | rw [tV_m] | rw [gF_g ho _ (by decide)] | rw [pF_g ho _ _ (by decide)] | rw [E1] | rw [if_neg (show ¬ (i : Int) < (i : Int) by omega)] | rw [if_neg (show ¬ 0 < v by omega)])
      exact y1
    · have i1 : i < 120 := by
        refine Nat.lt_of_not_le (fun w => ?_)
        have : i = 120 := by omega
        subst this
        have vb := vlo_b (show (0 : Int) < 1000000 by decide) 120 hD
        have p0 := pw_pos (show (0 : Int) < 1000000 by decide) 120
        generalize (1000000 : Int) ^ 120 = P at *
        have : 1 * P ≤ v * P := Int.mul_le_mul_of_nonneg_right (by omega) (by omega)
        rw [Int.one_mul] at this
        omega
      obtain ⟨c', sz', y1, y2, y3, y4⟩ := k64_48 d ho ho1 h0 (x := f * x) (some (vI f)) (some (vI v)) (some (vI (i : Int))) o4 (i + 1) (u2 (u2 c (o + 1) i v) o 1 ((i : Int) + 1)) (fun x j hx hx2 => by rw [u2_n hx, u2_n (fun w => hx2 w.1)]; exact hPO x j hx hx2) ⟨by rw [u2_e]; omega, by omega, fun j hj => by
        rw [u2_n (by omega)]
        by_cases g : j = i
        · subst g; rw [u2_e]; omega
        · rw [u2_n (by omega)]; exact hD j (by omega), by
        simp only [vlo]
        rw [u2_n (by omega), u2_e, vlo_cg (g := c (o + 1)) i (fun j hj => by rw [u2_n (by omega), u2_n (by omega)])]
        exact hV⟩
      refine ⟨c', sz', ?_, y2, y3, y4⟩
      have t1 : (i : Int).toNat = i := Int.toNat_natCast i
      have e1' : u2 c (o + 1) i v o 1 = (i : Int) := by rw [u2_n (by omega)]; exact E1
      rw [c64_4]
      repeat (first | rw [bnd_s] | rw [tI_m] | rw [tL_m] | rw [tA_m] | rw [tV_m] | rw [gF_g ho _ (by decide)] | rw [pF_g ho _ _ (by decide)] | rw [E1] | rw [if_neg (show ¬ (i : Int) < (i : Int) by omega)] | rw [if_pos (show 0 < v by omega)] | rw [if_pos (show (i : Int) < 120 by omega)] | rw [E0] | rw [pA_g (a := 0) ho1 _ _ (show (0 : Int) ≤ (i : Int) by omega) (by omega)] | rw [t1] | rw [e1'] | rw [w32_id (z := (i : Int) + 1) (by omega) (by omega)])
      exact y1
  | n + 1, i, v, c, h, v0, v1, hF, hD, hV, o4 => by
    obtain ⟨e1, h1, hb, hV0⟩ := id hW
    have di := hb i (by omega)
    have ei : c (o + 1) i = b (o + 1) i := hF (o + 1) i (by omega)
    have E1 : c o 1 = (sz : Int) := (hF o 1 (by omega)).trans e1
    have E0 : c o 0 = ((o + 1 : Nat) : Int) := (hF o 0 (by omega)).trans h0
    have pb : 0 ≤ b (o + 1) i * f ∧ b (o + 1) i * f ≤ 999999 * f := ⟨Int.mul_nonneg di.1 f0, Int.mul_le_mul_of_nonneg_right (by omega) f0⟩
    have z : ∃ p, p = b (o + 1) i * f + v := ⟨_, rfl⟩
    obtain ⟨p, zp⟩ := z
    have hu := vlo_u (f := b (o + 1)) (g := b (o + 1)) (B := 1000000) (bi := b (o + 1) i) hV
    rw [← zp] at hu
    have ih := k64_4 d ho ho1 h0 hW f0 f1 hx n (i + 1) (p / 1000000) (u2 c (o + 1) i (p % 1000000)) (by omega) (by omega) (by omega) (fun x j hx => by rw [u2_n (fun w => hx ⟨w.1, by omega⟩)]; exact hF x j (fun w => hx ⟨w.1, by omega⟩)) (fun j hj => by
      by_cases g : j = i
      · subst g; rw [u2_e]; omega
      · rw [u2_n (fun w => g w.2)]; exact hD j (by omega)) (by
      simp only [vlo]
      rw [u2_e, vlo_cg (g := c (o + 1)) i (fun j hj => by rw [u2_n (by omega)])]
      exact hu) (some (vI p))
    have t1 : (i : Int).toNat = i := Int.toNat_natCast i
    rw [c64_4]
    repeat (first | rw [bnd_s] | rw [tI_m] | rw [tL_m] | rw [tA_m] | rw [tV_m] | rw [gF_g ho _ (by decide)] | rw [pF_g ho _ _ (by decide)] | rw [E1] | rw [if_pos (show (i : Int) < (sz : Int) by omega)] | rw [E0] | rw [gA_g (a := 0) ho1 _ (show (0 : Int) ≤ (i : Int) by omega) (by omega)] | rw [t1] | rw [ei] | rw [w32_id (z := b (o + 1) i * f) (by omega) (by omega)] | rw [← zp] | rw [w32_id (z := p) (by omega) (by omega)] | rw [irem_n (show 0 ≤ p by omega) (by omega) (show (0 : Int) < 1000000 by decide) (by decide)] | rw [idiv_n (show 0 ≤ p by omega) (by omega) (show (0 : Int) < 1000000 by decide) (by decide)] | rw [pA_g (a := 0) ho1 _ _ (show (0 : Int) ≤ (i : Int) by omega) (by omega)] | rw [w32_id (z := (i : Int) + 1) (by omega) (by omega)])
    exact ih
theorem k64 (d : Nat) {o : Nat} (ho : s[o]? = some (5, 2)) (ho1 : s[o + 1]? = some (100, 120)) {b : Nat → Nat → Int} (h0 : b o 0 = ((o + 1 : Nat) : Int)) {sz : Nat} {x f : Int} (hW : PW b o sz x) (f0 : 0 ≤ f) (f1 : f ≤ 21) (hx : f * x < 1000000 ^ 120) : ∃ c' sz', Cd (d + 1) 64 [vA (o : Int), vI f] (s, b) = some ([], (s, c')) ∧ PO o b c' ∧ PW c' o sz' (f * x) ∧ PN c' o sz' := by
  obtain ⟨c', sz', y1, y2, y3, y4⟩ := k64_4 d ho ho1 h0 hW f0 f1 hx sz 0 0 b (by omega) (by omega) f0 (fun _ _ _ => rfl) (fun j hj => by omega) (by simp [vlo]) none
  refine ⟨c', sz', ?_, y2, y3, y4⟩
  rw [c64 (hg := (gS_p s b o).trans ho)]
  exact y1
theorem k65_19 (d : Nat) {o p : Nat} (ho : s[o]? = some (5, 2)) (ho1 : s[o + 1]? = some (100, 120)) (hp : s[p]? = some (5, 2)) (hp1 : s[p + 1]? = some (100, 120)) {c : Nat → Nat → Int} (h0 : c o 0 = ((o + 1 : Nat) : Int)) (h1 : c p 0 = ((p + 1 : Nat) : Int)) {sz : Nat} (hz : sz ≤ 120) (h5 : ∀ i, i < sz → 0 ≤ c (o + 1) i ∧ c (o + 1) i < 1000000) (h6 : ∀ i, i < sz → 0 ≤ c (p + 1) i ∧ c (p + 1) i < 1000000) : ∀ (n : Nat), n ≤ sz → Rr (Cd d) 65 19 [some (vA (o : Int)), some (vA (p : Int)), some (vI ((n : Int) - 1))] [] (s, c) = some ([vI (b2i (decide (vlo (c (p + 1)) 1000000 n < vlo (c (o + 1)) 1000000 n)))], (s, c))
  | 0, h => by rw [c65_19, if_pos (by omega)]; rfl
  | n + 1, h => by
    have ih := k65_19 d ho ho1 hp hp1 h0 h1 hz h5 h6 n (by omega)
    have t1 : (n : Int).toNat = n := Int.toNat_natCast n
    rw [show ((n + 1 : Nat) : Int) - 1 = (n : Int) by omega, c65_19, if_neg (by omega)]
    repeat (first | rw [bnd_s] | rw [tI_m] | rw [tL_m] | rw [tA_m] | rw [tV_m] | rw [gF_g ho _ (by decide)] | rw [gF_g hp _ (by decide)] | rw [h0] | rw [h1] | rw [gA_g (a := 0) ho1 _ (show (0 : Int) ≤ (n : Int) by omega) (by omega)] | rw [gA_g (a := 0) hp1 _ (show (0 : Int) ≤ (n : Int) by omega) (by omega)] | rw [t1])
    by_cases e : c (o + 1) n = c (p + 1) n
    · rw [if_pos e, w32_id (by omega) (by omega), show (n : Int) + -1 = (n : Int) - 1 by omega, ih]
      have : decide (vlo (c (p + 1)) 1000000 (n + 1) < vlo (c (o + 1)) 1000000 (n + 1)) = decide (vlo (c (p + 1)) 1000000 n < vlo (c (o + 1)) 1000000 n) := by
        refine decide_eq_decide.mpr ?_; simp only [vlo]; rw [e]; omega
      rw [this]
    · rw [if_neg e]
      repeat (first | rw [bnd_s] | rw [tI_m] | rw [tL_m] | rw [tA_m] | rw [tV_m] | rw [gF_g ho _ (by decide)] | rw [gF_g hp _ (by decide)] | rw [h0] | rw [h1] | rw [gA_g (a := 0) ho1 _ (show (0 : Int) ≤ (n : Int) by omega) (by omega)] | rw [gA_g (a := 0) hp1 _ (show (0 : Int) ≤ (n : Int) by omega) (by omega)] | rw [t1])
      by_cases g : c (p + 1) n < c (o + 1) n
      · have := vlo_lt (show (0 : Int) < 1000000 by decide) n (fun i hi => h6 i (by omega)) (fun i hi => h5 i (by omega)) g
        rw [if_pos g, c65_42, decide_eq_true this]; rfl
      · have := vlo_lt (show (0 : Int) < 1000000 by decide) n (fun i hi => h5 i (by omega)) (fun i hi => h6 i (by omega)) (show c (o + 1) n < c (p + 1) n by omega)
        rw [if_neg g, c65_42, decide_eq_false (by omega)]; rfl
theorem PW_sz {c : Nat → Nat → Int} {o p : Nat} {sz sz' : Nat} {x y : Int} (h : PW c o sz x) (g : PN c o sz) (h' : PW c p sz' y) (w : sz' < sz) : y < x := by
  match sz, h, g, w with
  | n + 1, h, g, w =>
    have a := vlo_b (show (0 : Int) < 1000000 by decide) n (fun i hi => h.2.2.1 i (by omega))
    have b := vlo_b (show (0 : Int) < 1000000 by decide) sz' h'.2.2.1
    have u := pw_up (show (1 : Int) ≤ 1000000 by decide) sz' (n - sz')
    rw [show sz' + (n - sz') = n by omega] at u
    have dn := h.2.2.1 n (by omega)
    have nz := g (by omega)
    rw [show n + 1 - 1 = n by omega] at nz
    have e := h.2.2.2
    simp only [vlo] at e
    have e' := h'.2.2.2
    have p0 := pw_pos (show (0 : Int) < 1000000 by decide) n
    have : 1 * (1000000 : Int) ^ n ≤ c (o + 1) n * 1000000 ^ n := Int.mul_le_mul_of_nonneg_right (by omega) (by omega)
    rw [Int.one_mul] at this
    omega
theorem k65 (d : Nat) {o p : Nat} (ho : s[o]? = some (5, 2)) (ho1 : s[o + 1]? = some (100, 120)) (hp : s[p]? = some (5, 2)) (hp1 : s[p + 1]? = some (100, 120)) {c : Nat → Nat → Int} (h0 : c o 0 = ((o + 1 : Nat) : Int)) (h1 : c p 0 = ((p + 1 : Nat) : Int)) {sz sz' : Nat} {x y : Int} (hx : PW c o sz x) (nx : PN c o sz) (hy : PW c p sz' y) (ny : PN c p sz') : Cd (d + 1) 65 [vA (o : Int), vA (p : Int)] (s, c) = some ([vI (b2i (decide (y < x)))], (s, c)) := by
  rw [c65 (hg := (gS_p s c o).trans ho)]
  have e1 := hx.1
  have e2 := hy.1
  repeat (first | rw [bnd_s] | rw [tI_m] | rw [tL_m] | rw [tA_m] | rw [tV_m] | rw [gF_g ho _ (by decide)] | rw [gF_g hp _ (by decide)] | rw [e1] | rw [e2])
  by_cases e : (sz : Int) = (sz' : Int)
  · have e' : sz = sz' := by omega
    subst e'
    have z2 := hx.2.1
    rw [if_pos e]
    have := k65_19 d ho ho1 hp hp1 h0 h1 hx.2.1 hx.2.2.1 hy.2.2.1 sz (by omega)
    rw [hx.2.2.2, hy.2.2.2] at this
    repeat (first | rw [bnd_s] | rw [tI_m] | rw [tL_m] | rw [tA_m] | rw [tV_m] | rw [gF_g ho _ (by decide)] | rw [e1] | rw [w32_id (z := (sz : Int) - 1) (by omega) (by omega)])
    exact this
  · rw [if_neg e]
    repeat (first | rw [bnd_s] | rw [tI_m] | rw [tL_m] | rw [tA_m] | rw [tV_m] | rw [gF_g ho _ (by decide)] | rw [gF_g hp _ (by decide)] | rw [e1] | rw [e2])
    by_cases g : (sz' : Int) < (sz : Int)
    · have := PW_sz hx nx hy (by omega)
      rw [if_pos g, c65_13, decide_eq_true this]; rfl
    · have := PW_sz hy ny hx (by omega)
      rw [if_neg g, c65_13, decide_eq_false (by omega)]; rfl
end
