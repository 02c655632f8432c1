/-! judging, as the reference judges -/
theorem m227 (d : Nat) (v : Int) (hp : HP) : Cd (d + 1) 227 [vL v] hp = some ([vL (farV v)], hp) := by
  rw [c227]; unfold farV
  by_cases h1 : 1000000000 < v
  · rw [if_pos ((lcmp_gt _ _).mpr h1), if_pos h1, c227_13]
  · rw [if_neg (fun g => h1 ((lcmp_gt _ _).mp g)), if_neg h1]
    by_cases h2 : v < -1000000000
    · rw [if_pos ((lcmp_lt _ _).mpr h2), if_pos h2, c227_13]
    · rw [if_neg (fun g => h2 ((lcmp_lt _ _).mp g)), if_neg h2, c227_13]
theorem farV_b (v : Int) : -1000000000 ≤ farV v ∧ farV v ≤ 1000000000 := by unfold farV; split <;> (try split) <;> omega
theorem mul_b9 {x y : Int} (hx : -1000000000 ≤ x) (hx2 : x ≤ 1000000000) (hy : -1000000000 ≤ y) (hy2 : y ≤ 1000000000) : -1000000000000000000 ≤ x * y ∧ x * y ≤ 1000000000000000000 := by
  have e : (x * y).natAbs ≤ 1000000000 * 1000000000 := by rw [Int.natAbs_mul]; exact Nat.mul_le_mul (by omega) (by omega)
  omega
theorem m228 (d : Nat) {o x y : Int} (hp : HP) (hx : -1000000000 ≤ x ∧ x ≤ 1000000000) (hy : -1000000000 ≤ y ∧ y ≤ 1000000000) : Cd (d + 2) 228 [vI o, vL x, vL y] hp = some ([vL (twoV o x y)], hp) := by
  have b := mul_b9 hx.1 hx.2 hy.1 hy.2
  rw [c228]; unfold twoV
  by_cases h1 : o = 3
  · rw [if_pos h1, if_pos h1, c228_17, w64_id (by omega) (by omega), m227]; rfl
  · rw [if_neg h1, if_neg h1]
    by_cases h2 : o = 4
    · rw [if_pos h2, if_pos h2, c228_17, w64_id (by omega) (by omega), m227]; rfl
    · rw [if_neg h2, if_neg h2, c228_17, w64_id (by omega) (by omega), m227]; rfl
theorem m229 (d : Nat) (o x y : Int) (hp : HP) : Cd (d + 1) 229 [vI o, vL x, vL y] hp = some ([vI (b2i (soV o x y))], hp) := by
  have z : ∀ b : Bool, Rr (Cd d) 229 62 [some (vI o), some (vL x), none, some (vL y), none] [vI (b2i b)] hp = some ([vI (b2i b)], hp) := fun b => by rw [c229_62, if_pos (b2i_o b)]
  have z0 : Rr (Cd d) 229 62 [some (vI o), some (vL x), none, some (vL y), none] [vI 0] hp = some ([vI (b2i false)], hp) := z false
  have z1 : Rr (Cd d) 229 62 [some (vI o), some (vL x), none, some (vL y), none] [vI 1] hp = some ([vI (b2i true)], hp) := z true
  rw [c229, z0, z1]; unfold soV
  by_cases h0 : o = 10
  · rw [if_pos h0, if_pos h0]
    by_cases g : x < y
    · rw [if_pos ((lcmp_lt _ _).mpr g), decide_eq_true g]
    · rw [if_neg (fun w => g ((lcmp_lt _ _).mp w)), decide_eq_false g]
  · rw [if_neg h0, if_neg h0]
    by_cases h1 : o = 11
    · rw [if_pos h1, if_pos h1]
      by_cases g : y < x
      · rw [if_pos ((lcmp_gt _ _).mpr g), decide_eq_false (by omega)]
      · rw [if_neg (fun w => g ((lcmp_gt _ _).mp w)), decide_eq_true (by omega)]
    · rw [if_neg h1, if_neg h1]
      by_cases h2 : o = 12
      · rw [if_pos h2, if_pos h2]
        by_cases g : y < x
        · rw [if_pos ((lcmp_gt _ _).mpr g), decide_eq_true g]
        · rw [if_neg (fun w => g ((lcmp_gt _ _).mp w)), decide_eq_false g]
      · rw [if_neg h2, if_neg h2]
        by_cases h3 : o = 13
        · rw [if_pos h3, if_pos h3]
          by_cases g : x < y
          · rw [if_pos ((lcmp_lt _ _).mpr g), decide_eq_false (by omega)]
          · rw [if_neg (fun w => g ((lcmp_lt _ _).mp w)), decide_eq_true (by omega)]
        · rw [if_neg h3, if_neg h3]
          by_cases h4 : o = 14
          · rw [if_pos h4, if_pos h4]
            by_cases g : x = y
            · rw [if_pos ((lcmp_eq _ _).mpr g), decide_eq_true g]
            · rw [if_neg (fun w => g ((lcmp_eq _ _).mp w)), decide_eq_false g]
          · rw [if_neg h4, if_neg h4]
            by_cases g : x = y
            · rw [if_pos ((lcmp_eq _ _).mpr g), decide_eq_false (by simpa using g)]
            · rw [if_neg (fun w => g ((lcmp_eq _ _).mp w)), decide_eq_true g]
def stV (c : Nat → Nat → Int) : List Int → Prop
  | [] => True
  | a :: r => c 153 r.length = a ∧ (-1000000000 ≤ a ∧ a ≤ 1000000000) ∧ stV c r
def stT (c : Nat → Nat → Int) : List Bool → Prop
  | [] => True
  | a :: r => c 154 r.length = b2i a ∧ stT c r
theorem stV_of {c c' : Nat → Nat → Int} : ∀ (l : List Int), stV c l → (∀ i, i < l.length → c' 153 i = c 153 i) → stV c' l
  | [], _, _ => trivial
  | a :: r, h, e => ⟨(e _ (by simp)).trans h.1, h.2.1, stV_of r h.2.2 (fun i hi => e i (by simp; omega))⟩
theorem stT_of {c c' : Nat → Nat → Int} : ∀ (l : List Bool), stT c l → (∀ i, i < l.length → c' 154 i = c 154 i) → stT c' l
  | [], _, _ => trivial
  | a :: r, h, e => ⟨(e _ (by simp)).trans h.1, stT_of r h.2 (fun i hi => e i (by simp; omega))⟩
def cdA (tx : Nat → Int) : List (Int × Int) → Nat → Prop
  | [], _ => True
  | q :: r, p => tx p = q.1 ∧ tx (p + 1) = q.2 ∧ cdA tx r (p + 2)
theorem cdA_r (tx : Nat → Int) : ∀ (n p : Nat), cdA tx ((List.range n).map fun i => (tx (p + 2 * i), tx (p + 1 + 2 * i))) p
  | 0, _ => trivial
  | n + 1, p => by
    rw [List.range_succ_eq_map, List.map_cons, List.map_map]
    refine ⟨rfl, rfl, ?_⟩
    have := cdA_r tx n (p + 2)
    have e : ((fun i => (tx (p + 2 * i), tx (p + 1 + 2 * i))) ∘ Nat.succ) = fun i => (tx (p + 2 + 2 * i), tx (p + 2 + 1 + 2 * i)) := by
      funext i
      simp only [Function.comp]
      rw [show p + 2 * Nat.succ i = p + 2 + 2 * i by omega, show p + 1 + 2 * Nat.succ i = p + 2 + 1 + 2 * i by omega]
    rw [e]; exact this
theorem Fm_u {c : Nat → Nat → Int} {o k : Nat} {v : Int} (ho : o = 153 ∨ o = 154) : Fm [153, 154] [] c (u2 c o k v) := by
  refine ⟨fun o' h g => funext fun k' => u2_n (fun q => h ?_), fun k' _ => u2_n (by omega)⟩
  rw [q.1]; rcases ho with rfl | rfl <;> decide
theorem okOp_d {o v : Int} (h : okOp (o, v) = true) : (o = 0 ∧ 0 ≤ v ∧ v ≤ 9999) ∨ (o = 1 ∧ 0 ≤ v ∧ v ≤ 3) ∨ o = 2 ∨ o = 3 ∨ o = 4 ∨ o = 5 ∨ o = 10 ∨ o = 11 ∨ o = 12 ∨ o = 13 ∨ o = 14 ∨ o = 15 ∨ o = 20 ∨ o = 21 ∨ o = 22 := by
  unfold okOp at h
  simp only [Bool.or_eq_true, Bool.and_eq_true, beq_iff_eq, decide_eq_true_eq] at h
  omega
theorem m230_s (d : Nat) {s : List (Nat × Nat)} (hs : SpL s) {k : Nat} (hk : k < 8) {n : Int} (hn : n ≤ 300) {nm : Int → Int} (hnm : ∀ v, 0 ≤ v → v ≤ 3 → -1000000000 ≤ nm v ∧ nm v ≤ 1000000000) {o v : Int} (hok : okOp (o, v) = true) {i : Nat} (hi : (i : Int) < n) {vs : List Int} {ts : List Bool} {w : List Int × List Bool} {c : Nat → Nat → Int} (hm : MS c) (t4 : c 145 (800 * (k : Int) + 4).toNat = n) (t5 : c 145 (800 * (k : Int) + 10 + 2 * (i : Int)).toNat = o) (t6 : c 145 (800 * (k : Int) + 10 + 2 * (i : Int) + 1).toNat = v) (hN : ∀ v, 0 ≤ v → v ≤ 3 → c 152 v.toNat = nm v) (hV : stV c vs) (hT : stT c ts) (lV : vs.length ≤ i) (lT : ts.length ≤ i) (hw : stepM nm o v vs ts = some w) (o6 o7 : Option AV) : ∃ c1 o6' o7', Rr (Cd (d + 2)) 230 12 [some (vA 142), some (vI (k : Int)), some (vI ((vs.length : Nat) : Int)), some (vI ((ts.length : Nat) : Int)), some (vI (800 * (k : Int) + 10)), some (vI ((i : Nat) : Int)), o6, o7] [] (s, c) = Rr (Cd (d + 2)) 230 12 [some (vA 142), some (vI (k : Int)), some (vI ((w.1.length : Nat) : Int)), some (vI ((w.2.length : Nat) : Int)), some (vI (800 * (k : Int) + 10)), some (vI ((i : Int) + 1 : Int)), o6', o7'] [] (s, c1) ∧ stV c1 w.1 ∧ stT c1 w.2 ∧ Fm [153, 154] [] c c1 ∧ w.1.length ≤ i + 1 ∧ w.2.length ≤ i + 1 := by
  have fin : ∀ (a b : Nat) (o6 o7 : Option AV) (c1 : Nat → Nat → Int), Rr (Cd (d + 2)) 230 184 [some (vA 142), some (vI (k : Int)), some (vI ((a : Nat) : Int)), some (vI ((b : Nat) : Int)), some (vI (800 * (k : Int) + 10)), some (vI ((i : Nat) : Int)), o6, o7] [] (s, c1) = Rr (Cd (d + 2)) 230 12 [some (vA 142), some (vI (k : Int)), some (vI ((a : Nat) : Int)), some (vI ((b : Nat) : Int)), some (vI (800 * (k : Int) + 10)), some (vI ((i : Int) + 1 : Int)), o6, o7] [] (s, c1) := fun a b o6 o7 c1 => by
    rw [c230_184, w32_id (by omega) (by omega)]
  have nn : (i : Int) < 300 := by omega
  rcases okOp_d hok with ⟨rfl, hv⟩ | ⟨rfl, hv⟩ | rfl | rfl | rfl | rfl | rfl | rfl | rfl | rfl | rfl | rfl | rfl | rfl | rfl
  · have e : w = (v :: vs, ts) := by simpa [stepM] using hw.symm
    subst e
    refine ⟨u2 c 153 vs.length (v), some (vI 0), some (vI v), ?_, ⟨u2_e _ _ _ _, by omega, stV_of _ hV (fun j hj => u2_n (by omega))⟩, stT_of _ hT (fun j hj => u2_n (by omega)), Fm_u (Or.inl rfl), by simp; omega, Nat.le_succ_of_le lT⟩
    rw [c230_12]
    repeat (first | rw [bnd_s] | rw [tI_m] | rw [tL_m] | rw [tA_m] | rw [tV_m] | rw [fC142 hs _ (by decide)] | rw [pC142 hs _ _ (by decide)] | rw [MS_0 hm] | rw [MS_1 hm] | rw [MS_2 hm] | rw [MS_3 hm] | rw [MS_4 hm] | rw [MS_5 hm] | rw [MS_7 hm] | rw [MS_8 hm] | rw [MS_21 hm] | rw [MS_29 hm] | rw [MS_30 hm] | rw [MS_31 hm] | rw [MS_37 hm] | rw [MS_38 hm] | rw [MS_39 hm] | rw [MS_40 hm] | rw [w32_id (z := 800 * (k : Int)) (by omega) (by omega)] | rw [w32_id (z := 800 * (k : Int) + 4) (by omega) (by omega)] | rw [aC145 hs _ (show 0 ≤ 800 * (k : Int) + 4 by omega) (by omega)] | rw [t4] | rw [if_pos hi] | rw [w32_id (z := 2 * (i : Int)) (by omega) (by omega)] | rw [w32_id (z := 800 * (k : Int) + 10 + 2 * (i : Int)) (by omega) (by omega)] | rw [w32_id (z := 800 * (k : Int) + 10 + 2 * (i : Int) + 1) (by omega) (by omega)] | rw [aC145 hs _ (show 0 ≤ 800 * (k : Int) + 10 + 2 * (i : Int) by omega) (by omega)] | rw [aC145 hs _ (show 0 ≤ 800 * (k : Int) + 10 + 2 * (i : Int) + 1 by omega) (by omega)] | rw [t5] | rw [t6] | rw [if_neg (show ¬ (1 : Int) < 0 by decide)] | rw [if_pos (show (0 : Int) = 0 from rfl)] | rw [if_neg (show ¬ (0 : Int) = 2 by decide)] | rw [if_neg (show ¬ (0 : Int) = 20 by decide)] | rw [if_neg (show ¬ (0 : Int) = 21 by decide)] | rw [if_pos (show (0 : Int) < 10 by decide)] | rw [if_pos (show (0 : Int) < 20 by decide)] | rw [c230_58] | rw [qC153 hs _ _ (show (0 : Int) ≤ (vs.length : Int) by omega) (by omega)] | rw [w32_id (z := (vs.length : Int) + 1) (by omega) (by omega)] | rw [Int.toNat_natCast])
    exact fin (vs.length + 1) ts.length _ _ _
  · have e : w = (nm v :: vs, ts) := by simpa [stepM] using hw.symm
    subst e
    refine ⟨u2 c 153 vs.length (nm v), some (vI 1), some (vI v), ?_, ⟨u2_e _ _ _ _, hnm v hv.1 hv.2, stV_of _ hV (fun j hj => u2_n (by omega))⟩, stT_of _ hT (fun j hj => u2_n (by omega)), Fm_u (Or.inl rfl), by simp; omega, Nat.le_succ_of_le lT⟩
    rw [c230_12]
    repeat (first | rw [bnd_s] | rw [tI_m] | rw [tL_m] | rw [tA_m] | rw [tV_m] | rw [fC142 hs _ (by decide)] | rw [pC142 hs _ _ (by decide)] | rw [MS_0 hm] | rw [MS_1 hm] | rw [MS_2 hm] | rw [MS_3 hm] | rw [MS_4 hm] | rw [MS_5 hm] | rw [MS_7 hm] | rw [MS_8 hm] | rw [MS_21 hm] | rw [MS_29 hm] | rw [MS_30 hm] | rw [MS_31 hm] | rw [MS_37 hm] | rw [MS_38 hm] | rw [MS_39 hm] | rw [MS_40 hm] | rw [w32_id (z := 800 * (k : Int)) (by omega) (by omega)] | rw [w32_id (z := 800 * (k : Int) + 4) (by omega) (by omega)] | rw [aC145 hs _ (show 0 ≤ 800 * (k : Int) + 4 by omega) (by omega)] | rw [t4] | rw [if_pos hi] | rw [w32_id (z := 2 * (i : Int)) (by omega) (by omega)] | rw [w32_id (z := 800 * (k : Int) + 10 + 2 * (i : Int)) (by omega) (by omega)] | rw [w32_id (z := 800 * (k : Int) + 10 + 2 * (i : Int) + 1) (by omega) (by omega)] | rw [aC145 hs _ (show 0 ≤ 800 * (k : Int) + 10 + 2 * (i : Int) by omega) (by omega)] | rw [aC145 hs _ (show 0 ≤ 800 * (k : Int) + 10 + 2 * (i : Int) + 1 by omega) (by omega)] | rw [t5] | rw [t6] | rw [if_neg (show ¬ (1 : Int) < 1 by decide)] | rw [if_neg (show ¬ (1 : Int) = 0 by decide)] | rw [if_neg (show ¬ (1 : Int) = 2 by decide)] | rw [if_neg (show ¬ (1 : Int) = 20 by decide)] | rw [if_neg (show ¬ (1 : Int) = 21 by decide)] | rw [if_pos (show (1 : Int) < 10 by decide)] | rw [if_pos (show (1 : Int) < 20 by decide)] | rw [aC152 hs _ hv.1 (by omega)] | rw [hN v hv.1 hv.2] | rw [c230_58] | rw [qC153 hs _ _ (show (0 : Int) ≤ (vs.length : Int) by omega) (by omega)] | rw [w32_id (z := (vs.length : Int) + 1) (by omega) (by omega)] | rw [Int.toNat_natCast])
    exact fin (vs.length + 1) ts.length _ _ _
  · match vs, hV, lV, hw with
    | [], _, _, hw => simp [stepM] at hw
    | a :: r, hV, lV, hw =>
      have e : w = (-a :: r, ts) := by simpa [stepM] using hw.symm
      subst e
      have hl : (a :: r).length = r.length + 1 := rfl
      rw [hl] at lV ⊢
      refine ⟨u2 c 153 r.length (-a), some (vI 2), some (vI v), ?_, ⟨u2_e _ _ _ _, by have := hV.2.1; omega, stV_of _ hV.2.2 (fun j hj => u2_n (by omega))⟩, stT_of _ hT (fun j hj => u2_n (by omega)), Fm_u (Or.inl rfl), by simp; omega, Nat.le_succ_of_le lT⟩
      have e1 : w32 (((r.length + 1 : Nat) : Int) - 1) = (r.length : Int) := by rw [w32_id (by omega) (by omega)]; omega
      have h0 := hV.1
      have hb := hV.2.1
      rw [c230_12]
      repeat (first | rw [bnd_s] | rw [tI_m] | rw [tL_m] | rw [tA_m] | rw [tV_m] | rw [fC142 hs _ (by decide)] | rw [pC142 hs _ _ (by decide)] | rw [MS_0 hm] | rw [MS_1 hm] | rw [MS_2 hm] | rw [MS_3 hm] | rw [MS_4 hm] | rw [MS_5 hm] | rw [MS_7 hm] | rw [MS_8 hm] | rw [MS_21 hm] | rw [MS_29 hm] | rw [MS_30 hm] | rw [MS_31 hm] | rw [MS_37 hm] | rw [MS_38 hm] | rw [MS_39 hm] | rw [MS_40 hm] | rw [w32_id (z := 800 * (k : Int)) (by omega) (by omega)] | rw [w32_id (z := 800 * (k : Int) + 4) (by omega) (by omega)] | rw [aC145 hs _ (show 0 ≤ 800 * (k : Int) + 4 by omega) (by omega)] | rw [t4] | rw [if_pos hi] | rw [w32_id (z := 2 * (i : Int)) (by omega) (by omega)] | rw [w32_id (z := 800 * (k : Int) + 10 + 2 * (i : Int)) (by omega) (by omega)] | rw [w32_id (z := 800 * (k : Int) + 10 + 2 * (i : Int) + 1) (by omega) (by omega)] | rw [aC145 hs _ (show 0 ≤ 800 * (k : Int) + 10 + 2 * (i : Int) by omega) (by omega)] | rw [aC145 hs _ (show 0 ≤ 800 * (k : Int) + 10 + 2 * (i : Int) + 1 by omega) (by omega)] | rw [t5] | rw [t6] | rw [if_pos (show (1 : Int) < 2 by decide)] | rw [if_neg (show ¬ (2 : Int) = 0 by decide)] | rw [if_pos (show (2 : Int) = 2 from rfl)] | rw [if_neg (show ¬ (2 : Int) = 20 by decide)] | rw [if_neg (show ¬ (2 : Int) = 21 by decide)] | rw [if_pos (show (2 : Int) < 10 by decide)] | rw [if_pos (show (2 : Int) < 20 by decide)] | rw [e1] | rw [aC153 hs _ (show (0 : Int) ≤ (r.length : Int) by omega) (by omega)] | rw [qC153 hs _ _ (show (0 : Int) ≤ (r.length : Int) by omega) (by omega)] | rw [Int.toNat_natCast] | rw [h0] | rw [w64_id (z := -a) (by omega) (by omega)])
      exact fin (r.length + 1) ts.length _ _ _
  · match vs, hV, lV, hw with
    | [], _, _, hw => simp [stepM] at hw
    | [_], _, _, hw => simp [stepM] at hw
    | y :: x :: r, hV, lV, hw =>
      have e : w = (twoV 3 x y :: r, ts) := by simpa [stepM] using hw.symm
      subst e
      have hl : (y :: x :: r).length = r.length + 2 := rfl
      rw [hl] at lV ⊢
      refine ⟨u2 c 153 r.length (twoV 3 x y), some (vI 3), some (vI v), ?_, ⟨u2_e _ _ _ _, farV_b _, stV_of _ hV.2.2.2.2 (fun j hj => u2_n (by omega))⟩, stT_of _ hT (fun j hj => u2_n (by omega)), Fm_u (Or.inl rfl), by simp; omega, Nat.le_succ_of_le lT⟩
      have e1 : w32 (((r.length + 2 : Nat) : Int) + (-1)) = ((r.length + 1 : Nat) : Int) := by rw [w32_id (by omega) (by omega)]; omega
      have e2 : w32 (((r.length + 1 : Nat) : Int) - 1) = (r.length : Int) := by rw [w32_id (by omega) (by omega)]; omega
      have h0 : c 153 (r.length + 1) = y := hV.1
      have h1 := hV.2.2.1
      rw [c230_12]
      repeat (first | rw [bnd_s] | rw [tI_m] | rw [tL_m] | rw [tA_m] | rw [tV_m] | rw [fC142 hs _ (by decide)] | rw [pC142 hs _ _ (by decide)] | rw [MS_0 hm] | rw [MS_1 hm] | rw [MS_2 hm] | rw [MS_3 hm] | rw [MS_4 hm] | rw [MS_5 hm] | rw [MS_7 hm] | rw [MS_8 hm] | rw [MS_21 hm] | rw [MS_29 hm] | rw [MS_30 hm] | rw [MS_31 hm] | rw [MS_37 hm] | rw [MS_38 hm] | rw [MS_39 hm] | rw [MS_40 hm] | rw [w32_id (z := 800 * (k : Int)) (by omega) (by omega)] | rw [w32_id (z := 800 * (k : Int) + 4) (by omega) (by omega)] | rw [aC145 hs _ (show 0 ≤ 800 * (k : Int) + 4 by omega) (by omega)] | rw [t4] | rw [if_pos hi] | rw [w32_id (z := 2 * (i : Int)) (by omega) (by omega)] | rw [w32_id (z := 800 * (k : Int) + 10 + 2 * (i : Int)) (by omega) (by omega)] | rw [w32_id (z := 800 * (k : Int) + 10 + 2 * (i : Int) + 1) (by omega) (by omega)] | rw [aC145 hs _ (show 0 ≤ 800 * (k : Int) + 10 + 2 * (i : Int) by omega) (by omega)] | rw [aC145 hs _ (show 0 ≤ 800 * (k : Int) + 10 + 2 * (i : Int) + 1 by omega) (by omega)] | rw [t5] | rw [t6] | rw [if_pos (show (1 : Int) < 3 by decide)] | rw [if_neg (show ¬ (3 : Int) = 0 by decide)] | rw [if_neg (show ¬ (3 : Int) = 2 by decide)] | rw [if_neg (show ¬ (3 : Int) = 20 by decide)] | rw [if_neg (show ¬ (3 : Int) = 21 by decide)] | rw [if_pos (show (3 : Int) < 10 by decide)] | rw [if_pos (show (3 : Int) < 20 by decide)] | rw [e1] | rw [e2] | rw [aC153 hs _ (show (0 : Int) ≤ ((r.length + 1 : Nat) : Int) by omega) (by omega)] | rw [aC153 hs _ (show (0 : Int) ≤ (r.length : Int) by omega) (by omega)] | rw [qC153 hs _ _ (show (0 : Int) ≤ (r.length : Int) by omega) (by omega)] | rw [Int.toNat_natCast] | rw [h0] | rw [h1] | rw [m228 _ _ hV.2.2.2.1 hV.2.1])
      exact fin (r.length + 1) ts.length _ _ _
  · match vs, hV, lV, hw with
    | [], _, _, hw => simp [stepM] at hw
    | [_], _, _, hw => simp [stepM] at hw
    | y :: x :: r, hV, lV, hw =>
      have e : w = (twoV 4 x y :: r, ts) := by simpa [stepM] using hw.symm
      subst e
      have hl : (y :: x :: r).length = r.length + 2 := rfl
      rw [hl] at lV ⊢
      refine ⟨u2 c 153 r.length (twoV 4 x y), some (vI 4), some (vI v), ?_, ⟨u2_e _ _ _ _, farV_b _, stV_of _ hV.2.2.2.2 (fun j hj => u2_n (by omega))⟩, stT_of _ hT (fun j hj => u2_n (by omega)), Fm_u (Or.inl rfl), by simp; omega, Nat.le_succ_of_le lT⟩
      have e1 : w32 (((r.length + 2 : Nat) : Int) + (-1)) = ((r.length + 1 : Nat) : Int) := by rw [w32_id (by omega) (by omega)]; omega
      have e2 : w32 (((r.length + 1 : Nat) : Int) - 1) = (r.length : Int) := by rw [w32_id (by omega) (by omega)]; omega
      have h0 : c 153 (r.length + 1) = y := hV.1
      have h1 := hV.2.2.1
      rw [c230_12]
      repeat (first | rw [bnd_s] | rw [tI_m] | rw [tL_m] | rw [tA_m] | rw [tV_m] | rw [fC142 hs _ (by decide)] | rw [pC142 hs _ _ (by decide)] | rw [MS_0 hm] | rw [MS_1 hm] | rw [MS_2 hm] | rw [MS_3 hm] | rw [MS_4 hm] | rw [MS_5 hm] | rw [MS_7 hm] | rw [MS_8 hm] | rw [MS_21 hm] | rw [MS_29 hm] | rw [MS_30 hm] | rw [MS_31 hm] | rw [MS_37 hm] | rw [MS_38 hm] | rw [MS_39 hm] | rw [MS_40 hm] | rw [w32_id (z := 800 * (k : Int)) (by omega) (by omega)] | rw [w32_id (z := 800 * (k : Int) + 4) (by omega) (by omega)] | rw [aC145 hs _ (show 0 ≤ 800 * (k : Int) + 4 by omega) (by omega)] | rw [t4] | rw [if_pos hi] | rw [w32_id (z := 2 * (i : Int)) (by omega) (by omega)] | rw [w32_id (z := 800 * (k : Int) + 10 + 2 * (i : Int)) (by omega) (by omega)] | rw [w32_id (z := 800 * (k : Int) + 10 + 2 * (i : Int) + 1) (by omega) (by omega)] | rw [aC145 hs _ (show 0 ≤ 800 * (k : Int) + 10 + 2 * (i : Int) by omega) (by omega)] | rw [aC145 hs _ (show 0 ≤ 800 * (k : Int) + 10 + 2 * (i : Int) + 1 by omega) (by omega)] | rw [t5] | rw [t6] | rw [if_pos (show (1 : Int) < 4 by decide)] | rw [if_neg (show ¬ (4 : Int) = 0 by decide)] | rw [if_neg (show ¬ (4 : Int) = 2 by decide)] | rw [if_neg (show ¬ (4 : Int) = 20 by decide)] | rw [if_neg (show ¬ (4 : Int) = 21 by decide)] | rw [if_pos (show (4 : Int) < 10 by decide)] | rw [if_pos (show (4 : Int) < 20 by decide)] | rw [e1] | rw [e2] | rw [aC153 hs _ (show (0 : Int) ≤ ((r.length + 1 : Nat) : Int) by omega) (by omega)] | rw [aC153 hs _ (show (0 : Int) ≤ (r.length : Int) by omega) (by omega)] | rw [qC153 hs _ _ (show (0 : Int) ≤ (r.length : Int) by omega) (by omega)] | rw [Int.toNat_natCast] | rw [h0] | rw [h1] | rw [m228 _ _ hV.2.2.2.1 hV.2.1])
      exact fin (r.length + 1) ts.length _ _ _
  · match vs, hV, lV, hw with
    | [], _, _, hw => simp [stepM] at hw
    | [_], _, _, hw => simp [stepM] at hw
    | y :: x :: r, hV, lV, hw =>
      have e : w = (twoV 5 x y :: r, ts) := by simpa [stepM] using hw.symm
      subst e
      have hl : (y :: x :: r).length = r.length + 2 := rfl
      rw [hl] at lV ⊢
      refine ⟨u2 c 153 r.length (twoV 5 x y), some (vI 5), some (vI v), ?_, ⟨u2_e _ _ _ _, farV_b _, stV_of _ hV.2.2.2.2 (fun j hj => u2_n (by omega))⟩, stT_of _ hT (fun j hj => u2_n (by omega)), Fm_u (Or.inl rfl), by simp; omega, Nat.le_succ_of_le lT⟩
      have e1 : w32 (((r.length + 2 : Nat) : Int) + (-1)) = ((r.length + 1 : Nat) : Int) := by rw [w32_id (by omega) (by omega)]; omega
      have e2 : w32 (((r.length + 1 : Nat) : Int) - 1) = (r.length : Int) := by rw [w32_id (by omega) (by omega)]; omega
      have h0 : c 153 (r.length + 1) = y := hV.1
      have h1 := hV.2.2.1
      rw [c230_12]
      repeat (first | rw [bnd_s] | rw [tI_m] | rw [tL_m] | rw [tA_m] | rw [tV_m] | rw [fC142 hs _ (by decide)] | rw [pC142 hs _ _ (by decide)] | rw [MS_0 hm] | rw [MS_1 hm] | rw [MS_2 hm] | rw [MS_3 hm] | rw [MS_4 hm] | rw [MS_5 hm] | rw [MS_7 hm] | rw [MS_8 hm] | rw [MS_21 hm] | rw [MS_29 hm] | rw [MS_30 hm] | rw [MS_31 hm] | rw [MS_37 hm] | rw [MS_38 hm] | rw [MS_39 hm] | rw [MS_40 hm] | rw [w32_id (z := 800 * (k : Int)) (by omega) (by omega)] | rw [w32_id (z := 800 * (k : Int) + 4) (by omega) (by omega)] | rw [aC145 hs _ (show 0 ≤ 800 * (k : Int) + 4 by omega) (by omega)] | rw [t4] | rw [if_pos hi] | rw [w32_id (z := 2 * (i : Int)) (by omega) (by omega)] | rw [w32_id (z := 800 * (k : Int) + 10 + 2 * (i : Int)) (by omega) (by omega)] | rw [w32_id (z := 800 * (k : Int) + 10 + 2 * (i : Int) + 1) (by omega) (by omega)] | rw [aC145 hs _ (show 0 ≤ 800 * (k : Int) + 10 + 2 * (i : Int) by omega) (by omega)] | rw [aC145 hs _ (show 0 ≤ 800 * (k : Int) + 10 + 2 * (i : Int) + 1 by omega) (by omega)] | rw [t5] | rw [t6] | rw [if_pos (show (1 : Int) < 5 by decide)] | rw [if_neg (show ¬ (5 : Int) = 0 by decide)] | rw [if_neg (show ¬ (5 : Int) = 2 by decide)] | rw [if_neg (show ¬ (5 : Int) = 20 by decide)] | rw [if_neg (show ¬ (5 : Int) = 21 by decide)] | rw [if_pos (show (5 : Int) < 10 by decide)] | rw [if_pos (show (5 : Int) < 20 by decide)] | rw [e1] | rw [e2] | rw [aC153 hs _ (show (0 : Int) ≤ ((r.length + 1 : Nat) : Int) by omega) (by omega)] | rw [aC153 hs _ (show (0 : Int) ≤ (r.length : Int) by omega) (by omega)] | rw [qC153 hs _ _ (show (0 : Int) ≤ (r.length : Int) by omega) (by omega)] | rw [Int.toNat_natCast] | rw [h0] | rw [h1] | rw [m228 _ _ hV.2.2.2.1 hV.2.1])
      exact fin (r.length + 1) ts.length _ _ _
  · match vs, hV, lV, hw with
    | [], _, _, hw => simp [stepM] at hw
    | [_], _, _, hw => simp [stepM] at hw
    | _ :: _ :: _ :: _, _, _, hw => simp [stepM] at hw
    | [y, x], hV, lV, hw =>
      have e : w = ([], soV 10 x y :: ts) := by simpa [stepM] using hw.symm
      subst e
      refine ⟨u2 c 154 ts.length (b2i (soV 10 x y)), some (vI 10), some (vI v), ?_, trivial, ⟨u2_e _ _ _ _, stT_of _ hT (fun j hj => u2_n (by omega))⟩, Fm_u (Or.inr rfl), by simp, by simp; omega⟩
      have e1 : w32 ((([y, x].length : Nat) : Int) + (-2)) = 0 := (show w32 (((2 : Nat) : Int) + (-2)) = 0 by decide +kernel)
      have e2 : w32 ((0 : Int) + 1) = 1 := by decide +kernel
      have h0 : c 153 1 = y := hV.1
      have h1 : c 153 0 = x := hV.2.2.1
      rw [c230_12]
      repeat (first | rw [bnd_s] | rw [tI_m] | rw [tL_m] | rw [tA_m] | rw [tV_m] | rw [fC142 hs _ (by decide)] | rw [pC142 hs _ _ (by decide)] | rw [MS_0 hm] | rw [MS_1 hm] | rw [MS_2 hm] | rw [MS_3 hm] | rw [MS_4 hm] | rw [MS_5 hm] | rw [MS_7 hm] | rw [MS_8 hm] | rw [MS_21 hm] | rw [MS_29 hm] | rw [MS_30 hm] | rw [MS_31 hm] | rw [MS_37 hm] | rw [MS_38 hm] | rw [MS_39 hm] | rw [MS_40 hm] | rw [w32_id (z := 800 * (k : Int)) (by omega) (by omega)] | rw [w32_id (z := 800 * (k : Int) + 4) (by omega) (by omega)] | rw [aC145 hs _ (show 0 ≤ 800 * (k : Int) + 4 by omega) (by omega)] | rw [t4] | rw [if_pos hi] | rw [w32_id (z := 2 * (i : Int)) (by omega) (by omega)] | rw [w32_id (z := 800 * (k : Int) + 10 + 2 * (i : Int)) (by omega) (by omega)] | rw [w32_id (z := 800 * (k : Int) + 10 + 2 * (i : Int) + 1) (by omega) (by omega)] | rw [aC145 hs _ (show 0 ≤ 800 * (k : Int) + 10 + 2 * (i : Int) by omega) (by omega)] | rw [aC145 hs _ (show 0 ≤ 800 * (k : Int) + 10 + 2 * (i : Int) + 1 by omega) (by omega)] | rw [t5] | rw [t6] | rw [if_pos (show (1 : Int) < 10 by decide)] | rw [if_neg (show ¬ (10 : Int) = 0 by decide)] | rw [if_neg (show ¬ (10 : Int) = 2 by decide)] | rw [if_neg (show ¬ (10 : Int) = 20 by decide)] | rw [if_neg (show ¬ (10 : Int) = 21 by decide)] | rw [if_neg (show ¬ (10 : Int) < 10 by decide)] | rw [if_pos (show (10 : Int) < 20 by decide)] | rw [e1] | rw [e2] | rw [aC153 hs _ (show (0 : Int) ≤ 0 by decide) (by decide)] | rw [aC153 hs _ (show (0 : Int) ≤ 1 by decide) (by decide)] | rw [show (0 : Int).toNat = 0 from rfl] | rw [show (1 : Int).toNat = 1 from rfl] | rw [h0] | rw [h1] | rw [m229] | rw [if_pos (b2i_o _)] | rw [qC154 hs _ _ (show (0 : Int) ≤ (ts.length : Int) by omega) (by omega)] | rw [w32_id (z := (ts.length : Int) + 1) (by omega) (by omega)] | rw [Int.toNat_natCast])
      exact fin 0 (ts.length + 1) _ _ _
  · match vs, hV, lV, hw with
    | [], _, _, hw => simp [stepM] at hw
    | [_], _, _, hw => simp [stepM] at hw
    | _ :: _ :: _ :: _, _, _, hw => simp [stepM] at hw
    | [y, x], hV, lV, hw =>
      have e : w = ([], soV 11 x y :: ts) := by simpa [stepM] using hw.symm
      subst e
      refine ⟨u2 c 154 ts.length (b2i (soV 11 x y)), some (vI 11), some (vI v), ?_, trivial, ⟨u2_e _ _ _ _, stT_of _ hT (fun j hj => u2_n (by omega))⟩, Fm_u (Or.inr rfl), by simp, by simp; omega⟩
      have e1 : w32 ((([y, x].length : Nat) : Int) + (-2)) = 0 := (show w32 (((2 : Nat) : Int) + (-2)) = 0 by decide +kernel)
      have e2 : w32 ((0 : Int) + 1) = 1 := by decide +kernel
      have h0 : c 153 1 = y := hV.1
      have h1 : c 153 0 = x := hV.2.2.1
      rw [c230_12]
      repeat (first | rw [bnd_s] | rw [tI_m] | rw [tL_m] | rw [tA_m] | rw [tV_m] | rw [fC142 hs _ (by decide)] | rw [pC142 hs _ _ (by decide)] | rw [MS_0 hm] | rw [MS_1 hm] | rw [MS_2 hm] | rw [MS_3 hm] | rw [MS_4 hm] | rw [MS_5 hm] | rw [MS_7 hm] | rw [MS_8 hm] | rw [MS_21 hm] | rw [MS_29 hm] | rw [MS_30 hm] | rw [MS_31 hm] | rw [MS_37 hm] | rw [MS_38 hm] | rw [MS_39 hm] | rw [MS_40 hm] | rw [w32_id (z := 800 * (k : Int)) (by omega) (by omega)] | rw [w32_id (z := 800 * (k : Int) + 4) (by omega) (by omega)] | rw [aC145 hs _ (show 0 ≤ 800 * (k : Int) + 4 by omega) (by omega)] | rw [t4] | rw [if_pos hi] | rw [w32_id (z := 2 * (i : Int)) (by omega) (by omega)] | rw [w32_id (z := 800 * (k : Int) + 10 + 2 * (i : Int)) (by omega) (by omega)] | rw [w32_id (z := 800 * (k : Int) + 10 + 2 * (i : Int) + 1) (by omega) (by omega)] | rw [aC145 hs _ (show 0 ≤ 800 * (k : Int) + 10 + 2 * (i : Int) by omega) (by omega)] | rw [aC145 hs _ (show 0 ≤ 800 * (k : Int) + 10 + 2 * (i : Int) + 1 by omega) (by omega)] | rw [t5] | rw [t6] | rw [if_pos (show (1 : Int) < 11 by decide)] | rw [if_neg (show ¬ (11 : Int) = 0 by decide)] | rw [if_neg (show ¬ (11 : Int) = 2 by decide)] | rw [if_neg (show ¬ (11 : Int) = 20 by decide)] | rw [if_neg (show ¬ (11 : Int) = 21 by decide)] | rw [if_neg (show ¬ (11 : Int) < 10 by decide)] | rw [if_pos (show (11 : Int) < 20 by decide)] | rw [e1] | rw [e2] | rw [aC153 hs _ (show (0 : Int) ≤ 0 by decide) (by decide)] | rw [aC153 hs _ (show (0 : Int) ≤ 1 by decide) (by decide)] | rw [show (0 : Int).toNat = 0 from rfl] | rw [show (1 : Int).toNat = 1 from rfl] | rw [h0] | rw [h1] | rw [m229] | rw [if_pos (b2i_o _)] | rw [qC154 hs _ _ (show (0 : Int) ≤ (ts.length : Int) by omega) (by omega)] | rw [w32_id (z := (ts.length : Int) + 1) (by omega) (by omega)] | rw [Int.toNat_natCast])
      exact fin 0 (ts.length + 1) _ _ _
  · match vs, hV, lV, hw with
    | [], _, _, hw => simp [stepM] at hw
    | [_], _, _, hw => simp [stepM] at hw
    | _ :: _ :: _ :: _, _, _, hw => simp [stepM] at hw
    | [y, x], hV, lV, hw =>
      have e : w = ([], soV 12 x y :: ts) := by simpa [stepM] using hw.symm
      subst e
      refine ⟨u2 c 154 ts.length (b2i (soV 12 x y)), some (vI 12), some (vI v), ?_, trivial, ⟨u2_e _ _ _ _, stT_of _ hT (fun j hj => u2_n (by omega))⟩, Fm_u (Or.inr rfl), by simp, by simp; omega⟩
      have e1 : w32 ((([y, x].length : Nat) : Int) + (-2)) = 0 := (show w32 (((2 : Nat) : Int) + (-2)) = 0 by decide +kernel)
      have e2 : w32 ((0 : Int) + 1) = 1 := by decide +kernel
      have h0 : c 153 1 = y := hV.1
      have h1 : c 153 0 = x := hV.2.2.1
      rw [c230_12]
      repeat (first | rw [bnd_s] | rw [tI_m] | rw [tL_m] | rw [tA_m] | rw [tV_m] | rw [fC142 hs _ (by decide)] | rw [pC142 hs _ _ (by decide)] | rw [MS_0 hm] | rw [MS_1 hm] | rw [MS_2 hm] | rw [MS_3 hm] | rw [MS_4 hm] | rw [MS_5 hm] | rw [MS_7 hm] | rw [MS_8 hm] | rw [MS_21 hm] | rw [MS_29 hm] | rw [MS_30 hm] | rw [MS_31 hm] | rw [MS_37 hm] | rw [MS_38 hm] | rw [MS_39 hm] | rw [MS_40 hm] | rw [w32_id (z := 800 * (k : Int)) (by omega) (by omega)] | rw [w32_id (z := 800 * (k : Int) + 4) (by omega) (by omega)] | rw [aC145 hs _ (show 0 ≤ 800 * (k : Int) + 4 by omega) (by omega)] | rw [t4] | rw [if_pos hi] | rw [w32_id (z := 2 * (i : Int)) (by omega) (by omega)] | rw [w32_id (z := 800 * (k : Int) + 10 + 2 * (i : Int)) (by omega) (by omega)] | rw [w32_id (z := 800 * (k : Int) + 10 + 2 * (i : Int) + 1) (by omega) (by omega)] | rw [aC145 hs _ (show 0 ≤ 800 * (k : Int) + 10 + 2 * (i : Int) by omega) (by omega)] | rw [aC145 hs _ (show 0 ≤ 800 * (k : Int) + 10 + 2 * (i : Int) + 1 by omega) (by omega)] | rw [t5] | rw [t6] | rw [if_pos (show (1 : Int) < 12 by decide)] | rw [if_neg (show ¬ (12 : Int) = 0 by decide)] | rw [if_neg (show ¬ (12 : Int) = 2 by decide)] | rw [if_neg (show ¬ (12 : Int) = 20 by decide)] | rw [if_neg (show ¬ (12 : Int) = 21 by decide)] | rw [if_neg (show ¬ (12 : Int) < 10 by decide)] | rw [if_pos (show (12 : Int) < 20 by decide)] | rw [e1] | rw [e2] | rw [aC153 hs _ (show (0 : Int) ≤ 0 by decide) (by decide)] | rw [aC153 hs _ (show (0 : Int) ≤ 1 by decide) (by decide)] | rw [show (0 : Int).toNat = 0 from rfl] | rw [show (1 : Int).toNat = 1 from rfl] | rw [h0] | rw [h1] | rw [m229] | rw [if_pos (b2i_o _)] | rw [qC154 hs _ _ (show (0 : Int) ≤ (ts.length : Int) by omega) (by omega)] | rw [w32_id (z := (ts.length : Int) + 1) (by omega) (by omega)] | rw [Int.toNat_natCast])
      exact fin 0 (ts.length + 1) _ _ _
  · match vs, hV, lV, hw with
    | [], _, _, hw => simp [stepM] at hw
    | [_], _, _, hw => simp [stepM] at hw
    | _ :: _ :: _ :: _, _, _, hw => simp [stepM] at hw
    | [y, x], hV, lV, hw =>
      have e : w = ([], soV 13 x y :: ts) := by simpa [stepM] using hw.symm
      subst e
      refine ⟨u2 c 154 ts.length (b2i (soV 13 x y)), some (vI 13), some (vI v), ?_, trivial, ⟨u2_e _ _ _ _, stT_of _ hT (fun j hj => u2_n (by omega))⟩, Fm_u (Or.inr rfl), by simp, by simp; omega⟩
      have e1 : w32 ((([y, x].length : Nat) : Int) + (-2)) = 0 := (show w32 (((2 : Nat) : Int) + (-2)) = 0 by decide +kernel)
      have e2 : w32 ((0 : Int) + 1) = 1 := by decide +kernel
      have h0 : c 153 1 = y := hV.1
      have h1 : c 153 0 = x := hV.2.2.1
      rw [c230_12]
      repeat (first | rw [bnd_s] | rw [tI_m] | rw [tL_m] | rw [tA_m] | rw [tV_m] | rw [fC142 hs _ (by decide)] | rw [pC142 hs _ _ (by decide)] | rw [MS_0 hm] | rw [MS_1 hm] | rw [MS_2 hm] | rw [MS_3 hm] | rw [MS_4 hm] | rw [MS_5 hm] | rw [MS_7 hm] | rw [MS_8 hm] | rw [MS_21 hm] | rw [MS_29 hm] | rw [MS_30 hm] | rw [MS_31 hm] | rw [MS_37 hm] | rw [MS_38 hm] | rw [MS_39 hm] | rw [MS_40 hm] | rw [w32_id (z := 800 * (k : Int)) (by omega) (by omega)] | rw [w32_id (z := 800 * (k : Int) + 4) (by omega) (by omega)] | rw [aC145 hs _ (show 0 ≤ 800 * (k : Int) + 4 by omega) (by omega)] | rw [t4] | rw [if_pos hi] | rw [w32_id (z := 2 * (i : Int)) (by omega) (by omega)] | rw [w32_id (z := 800 * (k : Int) + 10 + 2 * (i : Int)) (by omega) (by omega)] | rw [w32_id (z := 800 * (k : Int) + 10 + 2 * (i : Int) + 1) (by omega) (by omega)] | rw [aC145 hs _ (show 0 ≤ 800 * (k : Int) + 10 + 2 * (i : Int) by omega) (by omega)] | rw [aC145 hs _ (show 0 ≤ 800 * (k : Int) + 10 + 2 * (i : Int) + 1 by omega) (by omega)] | rw [t5] | rw [t6] | rw [if_pos (show (1 : Int) < 13 by decide)] | rw [if_neg (show ¬ (13 : Int) = 0 by decide)] | rw [if_neg (show ¬ (13 : Int) = 2 by decide)] | rw [if_neg (show ¬ (13 : Int) = 20 by decide)] | rw [if_neg (show ¬ (13 : Int) = 21 by decide)] | rw [if_neg (show ¬ (13 : Int) < 10 by decide)] | rw [if_pos (show (13 : Int) < 20 by decide)] | rw [e1] | rw [e2] | rw [aC153 hs _ (show (0 : Int) ≤ 0 by decide) (by decide)] | rw [aC153 hs _ (show (0 : Int) ≤ 1 by decide) (by decide)] | rw [show (0 : Int).toNat = 0 from rfl] | rw [show (1 : Int).toNat = 1 from rfl] | rw [h0] | rw [h1] | rw [m229] | rw [if_pos (b2i_o _)] | rw [qC154 hs _ _ (show (0 : Int) ≤ (ts.length : Int) by omega) (by omega)] | rw [w32_id (z := (ts.length : Int) + 1) (by omega) (by omega)] | rw [Int.toNat_natCast])
      exact fin 0 (ts.length + 1) _ _ _
  · match vs, hV, lV, hw with
    | [], _, _, hw => simp [stepM] at hw
    | [_], _, _, hw => simp [stepM] at hw
    | _ :: _ :: _ :: _, _, _, hw => simp [stepM] at hw
    | [y, x], hV, lV, hw =>
      have e : w = ([], soV 14 x y :: ts) := by simpa [stepM] using hw.symm
      subst e
      refine ⟨u2 c 154 ts.length (b2i (soV 14 x y)), some (vI 14), some (vI v), ?_, trivial, ⟨u2_e _ _ _ _, stT_of _ hT (fun j hj => u2_n (by omega))⟩, Fm_u (Or.inr rfl), by simp, by simp; omega⟩
      have e1 : w32 ((([y, x].length : Nat) : Int) + (-2)) = 0 := (show w32 (((2 : Nat) : Int) + (-2)) = 0 by decide +kernel)
      have e2 : w32 ((0 : Int) + 1) = 1 := by decide +kernel
      have h0 : c 153 1 = y := hV.1
      have h1 : c 153 0 = x := hV.2.2.1
      rw [c230_12]
      repeat (first | rw [bnd_s] | rw [tI_m] | rw [tL_m] | rw [tA_m] | rw [tV_m] | rw [fC142 hs _ (by decide)] | rw [pC142 hs _ _ (by decide)] | rw [MS_0 hm] | rw [MS_1 hm] | rw [MS_2 hm] | rw [MS_3 hm] | rw [MS_4 hm] | rw [MS_5 hm] | rw [MS_7 hm] | rw [MS_8 hm] | rw [MS_21 hm] | rw [MS_29 hm] | rw [MS_30 hm] | rw [MS_31 hm] | rw [MS_37 hm] | rw [MS_38 hm] | rw [MS_39 hm] | rw [MS_40 hm] | rw [w32_id (z := 800 * (k : Int)) (by omega) (by omega)] | rw [w32_id (z := 800 * (k : Int) + 4) (by omega) (by omega)] | rw [aC145 hs _ (show 0 ≤ 800 * (k : Int) + 4 by omega) (by omega)] | rw [t4] | rw [if_pos hi] | rw [w32_id (z := 2 * (i : Int)) (by omega) (by omega)] | rw [w32_id (z := 800 * (k : Int) + 10 + 2 * (i : Int)) (by omega) (by omega)] | rw [w32_id (z := 800 * (k : Int) + 10 + 2 * (i : Int) + 1) (by omega) (by omega)] | rw [aC145 hs _ (show 0 ≤ 800 * (k : Int) + 10 + 2 * (i : Int) by omega) (by omega)] | rw [aC145 hs _ (show 0 ≤ 800 * (k : Int) + 10 + 2 * (i : Int) + 1 by omega) (by omega)] | rw [t5] | rw [t6] | rw [if_pos (show (1 : Int) < 14 by decide)] | rw [if_neg (show ¬ (14 : Int) = 0 by decide)] | rw [if_neg (show ¬ (14 : Int) = 2 by decide)] | rw [if_neg (show ¬ (14 : Int) = 20 by decide)] | rw [if_neg (show ¬ (14 : Int) = 21 by decide)] | rw [if_neg (show ¬ (14 : Int) < 10 by decide)] | rw [if_pos (show (14 : Int) < 20 by decide)] | rw [e1] | rw [e2] | rw [aC153 hs _ (show (0 : Int) ≤ 0 by decide) (by decide)] | rw [aC153 hs _ (show (0 : Int) ≤ 1 by decide) (by decide)] | rw [show (0 : Int).toNat = 0 from rfl] | rw [show (1 : Int).toNat = 1 from rfl] | rw [h0] | rw [h1] | rw [m229] | rw [if_pos (b2i_o _)] | rw [qC154 hs _ _ (show (0 : Int) ≤ (ts.length : Int) by omega) (by omega)] | rw [w32_id (z := (ts.length : Int) + 1) (by omega) (by omega)] | rw [Int.toNat_natCast])
      exact fin 0 (ts.length + 1) _ _ _
  · match vs, hV, lV, hw with
    | [], _, _, hw => simp [stepM] at hw
    | [_], _, _, hw => simp [stepM] at hw
    | _ :: _ :: _ :: _, _, _, hw => simp [stepM] at hw
    | [y, x], hV, lV, hw =>
      have e : w = ([], soV 15 x y :: ts) := by simpa [stepM] using hw.symm
      subst e
      refine ⟨u2 c 154 ts.length (b2i (soV 15 x y)), some (vI 15), some (vI v), ?_, trivial, ⟨u2_e _ _ _ _, stT_of _ hT (fun j hj => u2_n (by omega))⟩, Fm_u (Or.inr rfl), by simp, by simp; omega⟩
      have e1 : w32 ((([y, x].length : Nat) : Int) + (-2)) = 0 := (show w32 (((2 : Nat) : Int) + (-2)) = 0 by decide +kernel)
      have e2 : w32 ((0 : Int) + 1) = 1 := by decide +kernel
      have h0 : c 153 1 = y := hV.1
      have h1 : c 153 0 = x := hV.2.2.1
      rw [c230_12]
      repeat (first | rw [bnd_s] | rw [tI_m] | rw [tL_m] | rw [tA_m] | rw [tV_m] | rw [fC142 hs _ (by decide)] | rw [pC142 hs _ _ (by decide)] | rw [MS_0 hm] | rw [MS_1 hm] | rw [MS_2 hm] | rw [MS_3 hm] | rw [MS_4 hm] | rw [MS_5 hm] | rw [MS_7 hm] | rw [MS_8 hm] | rw [MS_21 hm] | rw [MS_29 hm] | rw [MS_30 hm] | rw [MS_31 hm] | rw [MS_37 hm] | rw [MS_38 hm] | rw [MS_39 hm] | rw [MS_40 hm] | rw [w32_id (z := 800 * (k : Int)) (by omega) (by omega)] | rw [w32_id (z := 800 * (k : Int) + 4) (by omega) (by omega)] | rw [aC145 hs _ (show 0 ≤ 800 * (k : Int) + 4 by omega) (by omega)] | rw [t4] | rw [if_pos hi] | rw [w32_id (z := 2 * (i : Int)) (by omega) (by omega)] | rw [w32_id (z := 800 * (k : Int) + 10 + 2 * (i : Int)) (by omega) (by omega)] | rw [w32_id (z := 800 * (k : Int) + 10 + 2 * (i : Int) + 1) (by omega) (by omega)] | rw [aC145 hs _ (show 0 ≤ 800 * (k : Int) + 10 + 2 * (i : Int) by omega) (by omega)] | rw [aC145 hs _ (show 0 ≤ 800 * (k : Int) + 10 + 2 * (i : Int) + 1 by omega) (by omega)] | rw [t5] | rw [t6] | rw [if_pos (show (1 : Int) < 15 by decide)] | rw [if_neg (show ¬ (15 : Int) = 0 by decide)] | rw [if_neg (show ¬ (15 : Int) = 2 by decide)] | rw [if_neg (show ¬ (15 : Int) = 20 by decide)] | rw [if_neg (show ¬ (15 : Int) = 21 by decide)] | rw [if_neg (show ¬ (15 : Int) < 10 by decide)] | rw [if_pos (show (15 : Int) < 20 by decide)] | rw [e1] | rw [e2] | rw [aC153 hs _ (show (0 : Int) ≤ 0 by decide) (by decide)] | rw [aC153 hs _ (show (0 : Int) ≤ 1 by decide) (by decide)] | rw [show (0 : Int).toNat = 0 from rfl] | rw [show (1 : Int).toNat = 1 from rfl] | rw [h0] | rw [h1] | rw [m229] | rw [if_pos (b2i_o _)] | rw [qC154 hs _ _ (show (0 : Int) ≤ (ts.length : Int) by omega) (by omega)] | rw [w32_id (z := (ts.length : Int) + 1) (by omega) (by omega)] | rw [Int.toNat_natCast])
      exact fin 0 (ts.length + 1) _ _ _
  · match vs, ts, hT, lT, hw with
    | _ :: _, _, _, _, hw => simp [stepM] at hw
    | [], [], _, _, hw => simp [stepM] at hw
    | [], a :: r, hT, lT, hw =>
      have e : w = ([], (!a) :: r) := by simpa [stepM] using hw.symm
      subst e
      have hl : (a :: r).length = r.length + 1 := rfl
      rw [hl] at lT ⊢
      refine ⟨u2 c 154 r.length (b2i (!a)), some (vI 20), some (vI v), ?_, trivial, ⟨u2_e _ _ _ _, stT_of _ hT.2 (fun j hj => u2_n (by omega))⟩, Fm_u (Or.inr rfl), by simp, by simp; omega⟩
      have e1 : w32 (((r.length + 1 : Nat) : Int) - 1) = (r.length : Int) := by rw [w32_id (by omega) (by omega)]; omega
      have h0 := hT.1
      rw [c230_12]
      repeat (first | rw [bnd_s] | rw [tI_m] | rw [tL_m] | rw [tA_m] | rw [tV_m] | rw [fC142 hs _ (by decide)] | rw [pC142 hs _ _ (by decide)] | rw [MS_0 hm] | rw [MS_1 hm] | rw [MS_2 hm] | rw [MS_3 hm] | rw [MS_4 hm] | rw [MS_5 hm] | rw [MS_7 hm] | rw [MS_8 hm] | rw [MS_21 hm] | rw [MS_29 hm] | rw [MS_30 hm] | rw [MS_31 hm] | rw [MS_37 hm] | rw [MS_38 hm] | rw [MS_39 hm] | rw [MS_40 hm] | rw [w32_id (z := 800 * (k : Int)) (by omega) (by omega)] | rw [w32_id (z := 800 * (k : Int) + 4) (by omega) (by omega)] | rw [aC145 hs _ (show 0 ≤ 800 * (k : Int) + 4 by omega) (by omega)] | rw [t4] | rw [if_pos hi] | rw [w32_id (z := 2 * (i : Int)) (by omega) (by omega)] | rw [w32_id (z := 800 * (k : Int) + 10 + 2 * (i : Int)) (by omega) (by omega)] | rw [w32_id (z := 800 * (k : Int) + 10 + 2 * (i : Int) + 1) (by omega) (by omega)] | rw [aC145 hs _ (show 0 ≤ 800 * (k : Int) + 10 + 2 * (i : Int) by omega) (by omega)] | rw [aC145 hs _ (show 0 ≤ 800 * (k : Int) + 10 + 2 * (i : Int) + 1 by omega) (by omega)] | rw [t5] | rw [t6] | rw [if_pos (show (1 : Int) < 20 by decide)] | rw [if_neg (show ¬ (20 : Int) = 0 by decide)] | rw [if_neg (show ¬ (20 : Int) = 2 by decide)] | rw [if_pos (show (20 : Int) = 20 from rfl)] | rw [if_neg (show ¬ (20 : Int) = 21 by decide)] | rw [if_neg (show ¬ (20 : Int) < 10 by decide)] | rw [if_neg (show ¬ (20 : Int) < 20 by decide)] | rw [e1] | rw [aC154 hs _ (show (0 : Int) ≤ (r.length : Int) by omega) (by omega)] | rw [Int.toNat_natCast] | rw [h0] | rw [if_b0])
      cases a
      · rw [cond_f, c230_141, if_pos (Or.inr rfl), qC154 hs _ _ (show (0 : Int) ≤ (r.length : Int) by omega) (by omega), bnd_s, Int.toNat_natCast]
        exact fin 0 (r.length + 1) _ _ _
      · rw [cond_t, c230_141, if_pos (Or.inl rfl), qC154 hs _ _ (show (0 : Int) ≤ (r.length : Int) by omega) (by omega), bnd_s, Int.toNat_natCast]
        exact fin 0 (r.length + 1) _ _ _
  · match vs, ts, hT, lT, hw with
    | _ :: _, _, _, _, hw => simp [stepM] at hw
    | [], [], _, _, hw => simp [stepM] at hw
    | [], [_], _, _, hw => simp [stepM] at hw
    | [], u :: t0 :: r, hT, lT, hw =>
      have e : w = ([], (t0 && u) :: r) := by simpa [stepM] using hw.symm
      subst e
      have hl : (u :: t0 :: r).length = r.length + 2 := rfl
      rw [hl] at lT ⊢
      refine ⟨u2 c 154 r.length (b2i (t0 && u)), some (vI 21), some (vI v), ?_, trivial, ⟨u2_e _ _ _ _, stT_of _ hT.2.2 (fun j hj => u2_n (by omega))⟩, Fm_u (Or.inr rfl), by simp, by simp; omega⟩
      have e1 : w32 (((r.length + 2 : Nat) : Int) + (-1)) = ((r.length + 1 : Nat) : Int) := by rw [w32_id (by omega) (by omega)]; omega
      have e2 : w32 (((r.length + 1 : Nat) : Int) - 1) = (r.length : Int) := by rw [w32_id (by omega) (by omega)]; omega
      have h0 : c 154 (r.length + 1) = b2i u := hT.1
      have h1 := hT.2.1
      rw [c230_12]
      repeat (first | rw [bnd_s] | rw [tI_m] | rw [tL_m] | rw [tA_m] | rw [tV_m] | rw [fC142 hs _ (by decide)] | rw [pC142 hs _ _ (by decide)] | rw [MS_0 hm] | rw [MS_1 hm] | rw [MS_2 hm] | rw [MS_3 hm] | rw [MS_4 hm] | rw [MS_5 hm] | rw [MS_7 hm] | rw [MS_8 hm] | rw [MS_21 hm] | rw [MS_29 hm] | rw [MS_30 hm] | rw [MS_31 hm] | rw [MS_37 hm] | rw [MS_38 hm] | rw [MS_39 hm] | rw [MS_40 hm] | rw [w32_id (z := 800 * (k : Int)) (by omega) (by omega)] | rw [w32_id (z := 800 * (k : Int) + 4) (by omega) (by omega)] | rw [aC145 hs _ (show 0 ≤ 800 * (k : Int) + 4 by omega) (by omega)] | rw [t4] | rw [if_pos hi] | rw [w32_id (z := 2 * (i : Int)) (by omega) (by omega)] | rw [w32_id (z := 800 * (k : Int) + 10 + 2 * (i : Int)) (by omega) (by omega)] | rw [w32_id (z := 800 * (k : Int) + 10 + 2 * (i : Int) + 1) (by omega) (by omega)] | rw [aC145 hs _ (show 0 ≤ 800 * (k : Int) + 10 + 2 * (i : Int) by omega) (by omega)] | rw [aC145 hs _ (show 0 ≤ 800 * (k : Int) + 10 + 2 * (i : Int) + 1 by omega) (by omega)] | rw [t5] | rw [t6] | rw [if_pos (show (1 : Int) < 21 by decide)] | rw [if_neg (show ¬ (21 : Int) = 0 by decide)] | rw [if_neg (show ¬ (21 : Int) = 2 by decide)] | rw [if_neg (show ¬ (21 : Int) = 20 by decide)] | rw [if_pos (show (21 : Int) = 21 from rfl)] | rw [if_neg (show ¬ (21 : Int) < 10 by decide)] | rw [if_neg (show ¬ (21 : Int) < 20 by decide)] | rw [e1] | rw [e2] | rw [aC154 hs _ (show (0 : Int) ≤ (r.length : Int) by omega) (by omega)] | rw [aC154 hs _ (show (0 : Int) ≤ ((r.length + 1 : Nat) : Int) by omega) (by omega)] | rw [Int.toNat_natCast] | rw [h0] | rw [h1] | rw [if_b0])
      cases t0
      · rw [cond_f]
        rw [c230_166, c230_183, if_pos (Or.inl rfl), qC154 hs _ _ (show (0 : Int) ≤ (r.length : Int) by omega) (by omega), bnd_s, Int.toNat_natCast]
        exact fin 0 (r.length + 1) _ _ _
      · rw [cond_t]
        repeat (first | rw [bnd_s] | rw [tI_m] | rw [tL_m] | rw [tA_m] | rw [tV_m] | rw [fC142 hs _ (by decide)] | rw [pC142 hs _ _ (by decide)] | rw [MS_0 hm] | rw [MS_1 hm] | rw [MS_2 hm] | rw [MS_3 hm] | rw [MS_4 hm] | rw [MS_5 hm] | rw [MS_7 hm] | rw [MS_8 hm] | rw [MS_21 hm] | rw [MS_29 hm] | rw [MS_30 hm] | rw [MS_31 hm] | rw [MS_37 hm] | rw [MS_38 hm] | rw [MS_39 hm] | rw [MS_40 hm] | rw [e1] | rw [e2] | rw [aC154 hs _ (show (0 : Int) ≤ (r.length : Int) by omega) (by omega)] | rw [aC154 hs _ (show (0 : Int) ≤ ((r.length + 1 : Nat) : Int) by omega) (by omega)] | rw [Int.toNat_natCast] | rw [h0] | rw [h1] | rw [if_b0])
        cases u
        · rw [cond_f]
          rw [c230_166, c230_183, if_pos (Or.inl rfl), qC154 hs _ _ (show (0 : Int) ≤ (r.length : Int) by omega) (by omega), bnd_s, Int.toNat_natCast]
          exact fin 0 (r.length + 1) _ _ _
        · rw [cond_t]
          rw [c230_183, if_pos (Or.inr rfl), qC154 hs _ _ (show (0 : Int) ≤ (r.length : Int) by omega) (by omega), bnd_s, Int.toNat_natCast]
          exact fin 0 (r.length + 1) _ _ _
  · match vs, ts, hT, lT, hw with
    | _ :: _, _, _, _, hw => simp [stepM] at hw
    | [], [], _, _, hw => simp [stepM] at hw
    | [], [_], _, _, hw => simp [stepM] at hw
    | [], u :: t0 :: r, hT, lT, hw =>
      have e : w = ([], (t0 || u) :: r) := by simpa [stepM] using hw.symm
      subst e
      have hl : (u :: t0 :: r).length = r.length + 2 := rfl
      rw [hl] at lT ⊢
      refine ⟨u2 c 154 r.length (b2i (t0 || u)), some (vI 22), some (vI v), ?_, trivial, ⟨u2_e _ _ _ _, stT_of _ hT.2.2 (fun j hj => u2_n (by omega))⟩, Fm_u (Or.inr rfl), by simp, by simp; omega⟩
      have e1 : w32 (((r.length + 2 : Nat) : Int) + (-1)) = ((r.length + 1 : Nat) : Int) := by rw [w32_id (by omega) (by omega)]; omega
      have e2 : w32 (((r.length + 1 : Nat) : Int) - 1) = (r.length : Int) := by rw [w32_id (by omega) (by omega)]; omega
      have h0 : c 154 (r.length + 1) = b2i u := hT.1
      have h1 := hT.2.1
      rw [c230_12]
      repeat (first | rw [bnd_s] | rw [tI_m] | rw [tL_m] | rw [tA_m] | rw [tV_m] | rw [fC142 hs _ (by decide)] | rw [pC142 hs _ _ (by decide)] | rw [MS_0 hm] | rw [MS_1 hm] | rw [MS_2 hm] | rw [MS_3 hm] | rw [MS_4 hm] | rw [MS_5 hm] | rw [MS_7 hm] | rw [MS_8 hm] | rw [MS_21 hm] | rw [MS_29 hm] | rw [MS_30 hm] | rw [MS_31 hm] | rw [MS_37 hm] | rw [MS_38 hm] | rw [MS_39 hm] | rw [MS_40 hm] | rw [w32_id (z := 800 * (k : Int)) (by omega) (by omega)] | rw [w32_id (z := 800 * (k : Int) + 4) (by omega) (by omega)] | rw [aC145 hs _ (show 0 ≤ 800 * (k : Int) + 4 by omega) (by omega)] | rw [t4] | rw [if_pos hi] | rw [w32_id (z := 2 * (i : Int)) (by omega) (by omega)] | rw [w32_id (z := 800 * (k : Int) + 10 + 2 * (i : Int)) (by omega) (by omega)] | rw [w32_id (z := 800 * (k : Int) + 10 + 2 * (i : Int) + 1) (by omega) (by omega)] | rw [aC145 hs _ (show 0 ≤ 800 * (k : Int) + 10 + 2 * (i : Int) by omega) (by omega)] | rw [aC145 hs _ (show 0 ≤ 800 * (k : Int) + 10 + 2 * (i : Int) + 1 by omega) (by omega)] | rw [t5] | rw [t6] | rw [if_pos (show (1 : Int) < 22 by decide)] | rw [if_neg (show ¬ (22 : Int) = 0 by decide)] | rw [if_neg (show ¬ (22 : Int) = 2 by decide)] | rw [if_neg (show ¬ (22 : Int) = 20 by decide)] | rw [if_neg (show ¬ (22 : Int) = 21 by decide)] | rw [if_neg (show ¬ (22 : Int) < 10 by decide)] | rw [if_neg (show ¬ (22 : Int) < 20 by decide)] | rw [e1] | rw [e2] | rw [aC154 hs _ (show (0 : Int) ≤ (r.length : Int) by omega) (by omega)] | rw [aC154 hs _ (show (0 : Int) ≤ ((r.length + 1 : Nat) : Int) by omega) (by omega)] | rw [Int.toNat_natCast] | rw [h0] | rw [h1] | rw [if_b0])
      cases t0
      · rw [cond_f]
        repeat (first | rw [bnd_s] | rw [tI_m] | rw [tL_m] | rw [tA_m] | rw [tV_m] | rw [fC142 hs _ (by decide)] | rw [pC142 hs _ _ (by decide)] | rw [MS_0 hm] | rw [MS_1 hm] | rw [MS_2 hm] | rw [MS_3 hm] | rw [MS_4 hm] | rw [MS_5 hm] | rw [MS_7 hm] | rw [MS_8 hm] | rw [MS_21 hm] | rw [MS_29 hm] | rw [MS_30 hm] | rw [MS_31 hm] | rw [MS_37 hm] | rw [MS_38 hm] | rw [MS_39 hm] | rw [MS_40 hm] | rw [e1] | rw [e2] | rw [aC154 hs _ (show (0 : Int) ≤ (r.length : Int) by omega) (by omega)] | rw [aC154 hs _ (show (0 : Int) ≤ ((r.length + 1 : Nat) : Int) by omega) (by omega)] | rw [Int.toNat_natCast] | rw [h0] | rw [h1] | rw [if_b0])
        cases u
        · rw [cond_f]
          rw [c230_183, if_pos (Or.inl rfl), qC154 hs _ _ (show (0 : Int) ≤ (r.length : Int) by omega) (by omega), bnd_s, Int.toNat_natCast]
          exact fin 0 (r.length + 1) _ _ _
        · rw [cond_t]
          rw [c230_180, c230_183, if_pos (Or.inr rfl), qC154 hs _ _ (show (0 : Int) ≤ (r.length : Int) by omega) (by omega), bnd_s, Int.toNat_natCast]
          exact fin 0 (r.length + 1) _ _ _
      · rw [cond_t]
        rw [c230_180, c230_183, if_pos (Or.inr rfl), qC154 hs _ _ (show (0 : Int) ≤ (r.length : Int) by omega) (by omega), bnd_s, Int.toNat_natCast]
        exact fin 0 (r.length + 1) _ _ _
theorem m230_12 (d : Nat) {s : List (Nat × Nat)} (hs : SpL s) {k : Nat} (hk : k < 8) {n : Int} (hn : n ≤ 300) {nm : Int → Int} (hnm : ∀ v, 0 ≤ v → v ≤ 3 → -1000000000 ≤ nm v ∧ nm v ≤ 1000000000) {u : Bool} : ∀ (l : List (Int × Int)) (i : Nat) (vs : List Int) (ts : List Bool) (c : Nat → Nat → Int), MS c → c 145 (800 * (k : Int) + 4).toNat = n → cdA (c 145) l (800 * k + 10 + 2 * i) → (i : Int) + l.length = n → (∀ q ∈ l, okOp q = true) → (∀ v, 0 ≤ v → v ≤ 3 → c 152 v.toNat = nm v) → stV c vs → stT c ts → vs.length ≤ i → ts.length ≤ i → runM nm l vs ts = some ([], [u]) → ∀ o6 o7, ∃ c', Rr (Cd (d + 2)) 230 12 [some (vA 142), some (vI (k : Int)), some (vI ((vs.length : Nat) : Int)), some (vI ((ts.length : Nat) : Int)), some (vI (800 * (k : Int) + 10)), some (vI ((i : Nat) : Int)), o6, o7] [] (s, c) = some ([vI (b2i u)], (s, c')) ∧ Fm [153, 154] [] c c'
  | [], i, vs, ts, c, hm, t4, ha, hl, hok, hN, hV, hT, lV, lT, hr, o6, o7 => by
    simp only [runM, Option.some.injEq, Prod.mk.injEq] at hr
    obtain ⟨rfl, rfl⟩ := hr
    have h0 : c 154 0 = b2i u := hT.1
    simp only [List.length_nil] at hl
    refine ⟨c, ?_, Fm.rf _ _ _⟩
    rw [c230_12]
    repeat (first | rw [bnd_s] | rw [tI_m] | rw [tL_m] | rw [tA_m] | rw [tV_m] | rw [fC142 hs _ (by decide)] | rw [pC142 hs _ _ (by decide)] | rw [MS_0 hm] | rw [MS_1 hm] | rw [MS_2 hm] | rw [MS_3 hm] | rw [MS_4 hm] | rw [MS_5 hm] | rw [MS_7 hm] | rw [MS_8 hm] | rw [MS_21 hm] | rw [MS_29 hm] | rw [MS_30 hm] | rw [MS_31 hm] | rw [MS_37 hm] | rw [MS_38 hm] | rw [MS_39 hm] | rw [MS_40 hm] | rw [w32_id (z := 800 * (k : Int)) (by omega) (by omega)] | rw [w32_id (z := 800 * (k : Int) + 4) (by omega) (by omega)] | rw [aC145 hs _ (show 0 ≤ 800 * (k : Int) + 4 by omega) (by omega)] | rw [t4] | rw [if_neg (show ¬ (i : Int) < n by omega)] | rw [aC154 hs _ (show (0 : Int) ≤ 0 by decide) (by decide)] | rw [show (0 : Int).toNat = 0 from rfl] | rw [h0] | rw [if_pos (b2i_o _)])
  | (o, v) :: l, i, vs, ts, c, hm, t4, ha, hl, hok, hN, hV, hT, lV, lT, hr, o6, o7 => by
    simp only [runM] at hr
    obtain ⟨w, hw, hr⟩ := Option.bind_eq_some_iff.mp hr
    simp only [List.length_cons] at hl
    obtain ⟨a1, a2, a3⟩ := ha
    obtain ⟨c1, p6, p7, r1, hV1, hT1, f1, lV1, lT1⟩ := m230_s d hs hk hn hnm (hok (o, v) (by simp)) (i := i) (by omega) hm t4 (by rw [show (800 * (k : Int) + 10 + 2 * (i : Int)).toNat = 800 * k + 10 + 2 * i by omega]; exact a1) (by rw [show (800 * (k : Int) + 10 + 2 * (i : Int) + 1).toNat = 800 * k + 10 + 2 * i + 1 by omega]; exact a2) hN hV hT lV lT hw o6 o7
    have e5 : c1 145 = c 145 := f1.1 145 (by decide) (by decide)
    have e2 : c1 152 = c 152 := f1.1 152 (by decide) (by decide)
    have hm1 : MS c1 := MS_of hm (fun q _ => f1.2 _ (by simp)) (f1.1 146 (by decide) (by decide)) (f1.1 147 (by decide) (by decide))
    obtain ⟨c2, r2, f2⟩ := m230_12 d hs hk hn hnm l (i + 1) w.1 w.2 c1 hm1 (by rw [e5]; exact t4) (by rw [e5, show 800 * k + 10 + 2 * (i + 1) = 800 * k + 10 + 2 * i + 2 by omega]; exact a3) (by omega) (fun q hq => hok q (by simp [hq])) (by rw [e2]; exact hN) hV1 hT1 lV1 lT1 hr p6 p7
    exact ⟨c2, r1.trans (by rw [← r2]; rfl), f1.tr f2⟩
theorem m230 (d : Nat) {s : List (Nat × Nat)} (hs : SpL s) {k : Nat} (hk : k < 8) {n : Int} (hn : n ≤ 300) {nm : Int → Int} (hnm : ∀ v, 0 ≤ v → v ≤ 3 → -1000000000 ≤ nm v ∧ nm v ≤ 1000000000) {c : Nat → Nat → Int} (hm : MS c) (hc : codeOK (c 145) k) (h1 : c 145 (800 * k) = 1) (t4 : c 145 (800 * k + 4) = n) (hN : ∀ v, 0 ≤ v → v ≤ 3 → c 152 v.toNat = nm v) : ∃ u c', runM nm (codeOf (c 145) k) [] [] = some ([], [u]) ∧ Cd (d + 3) 230 [vA 142, vI (k : Int)] (s, c) = some ([vI (b2i u)], (s, c')) ∧ Fm [153, 154] [] c c' := by
  obtain ⟨-, hb, hg⟩ := hc
  obtain ⟨g1, g2⟩ := hg h1
  obtain ⟨u, hu⟩ := g2 nm
  have ha : cdA (c 145) (codeOf (c 145) k) (800 * k + 10 + 2 * 0) := by
    have := cdA_r (c 145) (c 145 (800 * k + 4)).toNat (800 * k + 10)
    exact this
  have hl : ((0 : Nat) : Int) + (codeOf (c 145) k).length = n := by
    unfold codeOf; rw [List.length_map, List.length_range, t4]; omega
  obtain ⟨c', r, f⟩ := m230_12 d hs hk hn hnm (codeOf (c 145) k) 0 [] [] c hm (by rw [show (800 * (k : Int) + 4).toNat = 800 * k + 4 by omega]; exact t4) ha hl g1 hN trivial trivial (by simp) (by simp) hu none none
  refine ⟨u, c', hu, ?_, f⟩
  rw [c230 (hg := gC142 hs c), w32_id (z := 800 * (k : Int)) (by omega) (by omega), w32_id (z := 800 * (k : Int) + 10) (by omega) (by omega)]
  exact r
