/-! nights: numbers of many places -/
def vlo (f : Nat → Int) (B : Int) : Nat → Int
  | 0 => 0
  | n + 1 => vlo f B n + f n * B ^ n
theorem vlo_cg {f g : Nat → Int} {B : Int} : ∀ (n : Nat), (∀ i, i < n → f i = g i) → vlo f B n = vlo g B n
  | 0, _ => rfl
  | n + 1, h => by simp only [vlo]; rw [vlo_cg n (fun i hi => h i (by omega)), h n (by omega)]
theorem pw_pos {B : Int} (hB : 0 < B) : ∀ n : Nat, 0 < B ^ n
  | 0 => by rw [Int.pow_zero]; decide
  | n + 1 => by rw [Int.pow_succ]; exact Int.mul_pos (pw_pos hB n) hB
theorem vlo_b {f : Nat → Int} {B : Int} (hB : 0 < B) : ∀ (n : Nat), (∀ i, i < n → 0 ≤ f i ∧ f i < B) → 0 ≤ vlo f B n ∧ vlo f B n < B ^ n
  | 0, _ => by simp only [vlo, Int.pow_zero]; decide
  | n + 1, h => by
    have ih := vlo_b hB n (fun i hi => h i (by omega))
    have hn := h n (by omega)
    have hp := pw_pos hB n
    simp only [vlo]
    have a1 : 0 ≤ f n * B ^ n := Int.mul_nonneg hn.1 (by omega)
    have a2 : (f n + 1) * B ^ n ≤ B * B ^ n := Int.mul_le_mul_of_nonneg_right (by omega) (by omega)
    rw [Int.add_mul, Int.one_mul] at a2
    rw [Int.pow_succ, Int.mul_comm (B ^ n) B]
    omega
theorem vlo_lt {f g : Nat → Int} {B : Int} (hB : 0 < B) (n : Nat) (hf : ∀ i, i < n → 0 ≤ f i ∧ f i < B) (hg : ∀ i, i < n → 0 ≤ g i ∧ g i < B) (h : f n < g n) : vlo f B (n + 1) < vlo g B (n + 1) := by
  have a := vlo_b hB n hf
  have b := vlo_b hB n hg
  have hp := pw_pos hB n
  have a2 : (f n + 1) * B ^ n ≤ g n * B ^ n := Int.mul_le_mul_of_nonneg_right (by omega) (by omega)
  rw [Int.add_mul, Int.one_mul] at a2
  simp only [vlo]
  omega
theorem vlo_u {f g : Nat → Int} {B V v fa W bi : Int} {i : Nat} (hV : V + v * B ^ i = fa * W) : V + (bi * fa + v) % B * B ^ i + (bi * fa + v) / B * B ^ (i + 1) = fa * (W + bi * B ^ i) := by
  have e1 : (bi * fa + v) / B * B ^ (i + 1) = (B * ((bi * fa + v) / B)) * B ^ i := by
    rw [Int.pow_succ, Int.mul_comm (B ^ i) B, ← Int.mul_assoc, Int.mul_comm ((bi * fa + v) / B) B]
  rw [e1, Int.add_assoc, ← Int.add_mul, Int.emod_add_mul_ediv, Int.add_mul, Int.mul_add, ← hV, Int.mul_comm bi fa, Int.mul_assoc]
  omega
theorem pw_mono {a b : Int} (h0 : 0 ≤ a) (h : a ≤ b) : ∀ n : Nat, 0 ≤ a ^ n ∧ a ^ n ≤ b ^ n
  | 0 => by rw [Int.pow_zero, Int.pow_zero]; decide
  | n + 1 => by
    have ih := pw_mono h0 h n
    rw [Int.pow_succ, Int.pow_succ]
    exact ⟨Int.mul_nonneg ih.1 h0, Int.mul_le_mul ih.2 h h0 (by omega)⟩
theorem pw_up {a : Int} (h : 1 ≤ a) (n : Nat) : ∀ k : Nat, a ^ n ≤ a ^ (n + k)
  | 0 => by rw [Nat.add_zero]; exact Int.le_refl _
  | k + 1 => by
    have ih := pw_up h n k
    have hp := pw_pos (show 0 < a by omega) (n + k)
    rw [← Nat.add_assoc, Int.pow_succ]
    have : a ^ (n + k) * 1 ≤ a ^ (n + k) * a := Int.mul_le_mul_of_nonneg_left h (by omega)
    rw [Int.mul_one] at this
    omega
theorem pw_mul (a b : Int) : ∀ n : Nat, (a * b) ^ n = a ^ n * b ^ n
  | 0 => by rw [Int.pow_zero, Int.pow_zero, Int.pow_zero]; rfl
  | n + 1 => by
    rw [Int.pow_succ, Int.pow_succ, Int.pow_succ, pw_mul a b n, Int.mul_assoc, Int.mul_assoc, ← Int.mul_assoc (b ^ n) a b, Int.mul_comm (b ^ n) a, Int.mul_assoc a (b ^ n) b]
theorem num_1 : (1000000000 : Int) * 21 ^ 425 < 1000000 ^ 120 := by decide +kernel
theorem num_2 : (1000000000 : Int) * 21 ^ 425 < 10000 ^ 200 := by decide +kernel
theorem num_3 : (1000000000 : Int) * 20 ^ 425 ≤ 21 ^ 425 := by decide +kernel
/-- the values stay below what the places hold -/
theorem ng_b {x b : Int} (x0 : 0 ≤ x) (x1 : x ≤ 1000000000) (b0 : 0 ≤ b) (b1 : b ≤ 21) {t : Nat} (ht : t ≤ 425) : 0 ≤ x * b ^ t ∧ x * b ^ t ≤ 1000000000 * 21 ^ 425 := by
  have a := pw_mono b0 b1 t
  have u := pw_up (show (1 : Int) ≤ 21 by decide) t (425 - t)
  rw [show t + (425 - t) = 425 by omega] at u
  exact ⟨Int.mul_nonneg x0 a.1, Int.mul_le_mul x1 (by omega) a.1 (by decide)⟩
theorem ng_e {x b A : Int} (x0 : 0 ≤ x) (x1 : x ≤ 1000000000) (b0 : 0 ≤ b) (b1 : b < A) (a1 : A ≤ 21) : x * b ^ 425 ≤ A ^ 425 := by
  have h1 := pw_mono (a := 21 * b) (b := 20 * A) (by omega) (by omega) 425
  rw [pw_mul, pw_mul] at h1
  have h2 := (pw_mono b0 (Int.le_refl b) 425).1
  have h3 := (pw_mono (show 0 ≤ A by omega) (Int.le_refl A) 425).1
  have n3 := num_3
  have p21 : (0 : Int) < 21 ^ 425 := pw_pos (by decide) 425
  generalize (21 : Int) ^ 425 = P at *
  generalize (20 : Int) ^ 425 = Q at *
  generalize b ^ 425 = X at *
  generalize A ^ 425 = Y at *
  have g1 : x * X ≤ 1000000000 * X := Int.mul_le_mul_of_nonneg_right x1 h2
  have g2 : P * (1000000000 * X) ≤ P * Y := by
    have e1 : P * (1000000000 * X) = 1000000000 * (P * X) := by rw [← Int.mul_assoc, Int.mul_comm P 1000000000, Int.mul_assoc]
    have e2 : 1000000000 * (P * X) ≤ 1000000000 * (Q * Y) := Int.mul_le_mul_of_nonneg_left h1.2 (by decide)
    have e3 : 1000000000 * (Q * Y) = (1000000000 * Q) * Y := by rw [Int.mul_assoc]
    have e4 : (1000000000 * Q) * Y ≤ P * Y := Int.mul_le_mul_of_nonneg_right n3 h3
    rw [e1]; exact Int.le_trans e2 (e3 ▸ e4)
  exact Int.le_trans g1 (Int.le_of_mul_le_mul_left g2 p21)
/-- the first night that is sure -/
def ngN (x b A : Int) : Nat → Nat → Int
  | 0, t => t
  | n + 1, t => if x * b ^ t ≤ A ^ t then (t : Int) else ngN x b A n (t + 1)
section
variable {s : List (Nat × Nat)}
theorem m238_4 (d : Nat) {o : Nat} (ho : s[o]? = some (100, 200)) {b : Nat → Nat → Int} (hb : ∀ i, i < 200 → 0 ≤ b o i ∧ b o i < 10000) {f : Int} (f0 : 0 ≤ f) (f1 : f ≤ 1000000000) : ∀ (n i : Nat) (v : Int) (c : Nat → Nat → Int), i + n = 200 → 0 ≤ v → v ≤ f → (∀ x j, ¬ (x = o ∧ j < i) → c x j = b x j) → (∀ j, j < i → 0 ≤ c o j ∧ c o j < 10000) → vlo (c o) 10000 i + v * 10000 ^ i = f * vlo (b o) 10000 i → ∀ o3 o5 o6, ∃ c' v', Rr (Cd d) 238 4 [some (vA (o : Int)), some (vI f), some (vL v), o3, some (vI (i : Int)), o5, o6] [] (s, c) = some ([], (s, c')) ∧ (∀ x j, x ≠ o → c' x j = b x j) ∧ (∀ j, j < 200 → 0 ≤ c' o j ∧ c' o j < 10000) ∧ 0 ≤ v' ∧ vlo (c' o) 10000 200 + v' * 10000 ^ 200 = f * vlo (b o) 10000 200
  | 0, i, v, c, h, v0, v1, hF, hD, hV, o3, o5, o6 => by
    have : i = 200 := by omega
    subst this
    exact ⟨c, v, by rw [c238_4, if_neg (by omega)], fun x j hx => hF x j (fun w => hx w.1), hD, v0, hV⟩
  | n + 1, i, v, c, h, v0, v1, hF, hD, hV, o3, o5, o6 => by
    have di := hb i (by omega)
    have ei : c o i = b o i := hF o i (by omega)
    have pb : 0 ≤ b o i * f ∧ b o i * f ≤ 9999 * f := ⟨Int.mul_nonneg di.1 f0, Int.mul_le_mul_of_nonneg_right (by omega) f0⟩
    have z : ∃ p, p = b o i * f + v := ⟨_, rfl⟩
    obtain ⟨p, zp⟩ := z
    have hu := vlo_u (f := b o) (g := b o) (B := 10000) (bi := b o i) hV
    rw [← zp] at hu
    have ih := m238_4 d ho hb f0 f1 n (i + 1) (p / 10000) (u2 c o i (p % 10000)) (by omega) (by omega) (by omega) (fun x j hx => by rw [u2_n (fun w => hx ⟨w.1, by omega⟩)]; exact hF x j (fun w => hx ⟨w.1, by omega⟩)) (fun j hj => by
      by_cases g : j = i
      · subst g; rw [u2_e]; omega
      · rw [u2_n (fun w => g w.2)]; exact hD j (by omega)) (by
      simp only [vlo]
      rw [u2_e, vlo_cg (g := c o) i (fun j hj => by rw [u2_n (by omega)])]
      exact hu) none (some (vL p)) none
    rw [c238_4, if_pos (by omega), gA_g (a := 0) ho _ (by omega) (by omega), bnd_s, Int.toNat_natCast, ei, w64_id (z := b o i * f) (by omega) (by omega), ← zp, w64_id (z := p) (by omega) (by omega), llrem_n (by omega) (by omega) (by decide) (by decide), lldiv_n (by omega) (by omega) (by decide) (by decide), w32_id (z := p % 10000) (by omega) (by omega), pA_g (a := 0) ho _ _ (by omega) (by omega), bnd_s, Int.toNat_natCast, w32_id (z := (i : Int) + 1) (by omega) (by omega)]
    exact ih
/-- a number of the reference, 200 places of 10000 -/
def DV (c : Nat → Nat → Int) (o : Nat) (x : Int) : Prop := (∀ i, i < 200 → 0 ≤ c o i ∧ c o i < 10000) ∧ vlo (c o) 10000 200 = x
theorem m238 (d : Nat) {o : Nat} (ho : s[o]? = some (100, 200)) {b : Nat → Nat → Int} {x f : Int} (hb : DV b o x) (f0 : 0 ≤ f) (f1 : f ≤ 1000000000) (hx : f * x < 10000 ^ 200) : ∃ c', Cd (d + 1) 238 [vA (o : Int), vI f] (s, b) = some ([], (s, c')) ∧ (∀ x j, x ≠ o → c' x j = b x j) ∧ DV c' o (f * x) := by
  obtain ⟨c', v', r, g1, g2, g3, g4⟩ := m238_4 d ho hb.1 f0 f1 200 0 0 b (by omega) (by omega) f0 (fun _ _ _ => rfl) (fun j hj => by omega) (by simp [vlo]) none none none
  refine ⟨c', by rw [c238]; exact r, g1, g2, ?_⟩
  rw [hb.2] at g4
  have vb := vlo_b (show (0 : Int) < 10000 by decide) 200 g2
  have p0 := pw_pos (show (0 : Int) < 10000 by decide) 200
  generalize (10000 : Int) ^ 200 = P at *
  by_cases z : v' = 0
  · rw [z, Int.zero_mul, Int.add_zero] at g4; exact g4
  · have : 1 * P ≤ v' * P := Int.mul_le_mul_of_nonneg_right (by omega) (by omega)
    rw [Int.one_mul] at this
    omega
theorem m239_2 (d : Nat) {c : Nat → Nat → Int} (hs : SpL s) (hm : MS c) (h5 : ∀ i, i < 200 → 0 ≤ c 155 i ∧ c 155 i < 10000) (h6 : ∀ i, i < 200 → 0 ≤ c 156 i ∧ c 156 i < 10000) : ∀ (n : Nat), n ≤ 200 → Rr (Cd d) 239 2 [some (vA 142), some (vI ((n : Int) - 1))] [] (s, c) = some ([vI (b2i (decide (vlo (c 156) 10000 n < vlo (c 155) 10000 n)))], (s, c))
  | 0, h => by rw [c239_2, if_pos (by omega)]; rfl
  | n + 1, h => by
    have ih := m239_2 d hs hm h5 h6 n (by omega)
    rw [show ((n + 1 : Nat) : Int) - 1 = (n : Int) by omega, c239_2, if_neg (by omega)]
    have t1 : (n : Int).toNat = n := Int.toNat_natCast n
    repeat (first | rw [bnd_s] | rw [tI_m] | rw [tL_m] | rw [tA_m] | rw [tV_m] | rw [fC142 hs _ (by decide)] | rw [pC142 hs _ _ (by decide)] | rw [MS_37 hm] | rw [MS_38 hm] | rw [aC155 hs _ (show (0 : Int) ≤ (n : Int) by omega) (by omega)] | rw [aC156 hs _ (show (0 : Int) ≤ (n : Int) by omega) (by omega)] | rw [t1])
    by_cases e : c 155 n = c 156 n
    · rw [if_pos e, w32_id (by omega) (by omega), show (n : Int) + -1 = (n : Int) - 1 by omega, ih]
      have : decide (vlo (c 156) 10000 (n + 1) < vlo (c 155) 10000 (n + 1)) = decide (vlo (c 156) 10000 n < vlo (c 155) 10000 n) := by
        refine decide_eq_decide.mpr ?_; simp only [vlo]; rw [e]; omega
      rw [this]
    · rw [if_neg e]
      repeat (first | rw [bnd_s] | rw [tI_m] | rw [tL_m] | rw [tA_m] | rw [tV_m] | rw [fC142 hs _ (by decide)] | rw [pC142 hs _ _ (by decide)] | rw [MS_37 hm] | rw [MS_38 hm] | rw [aC155 hs _ (show (0 : Int) ≤ (n : Int) by omega) (by omega)] | rw [aC156 hs _ (show (0 : Int) ≤ (n : Int) by omega) (by omega)] | rw [t1])
      by_cases g : c 156 n < c 155 n
      · have := vlo_lt (show (0 : Int) < 10000 by decide) n (fun i hi => h6 i (by omega)) (fun i hi => h5 i (by omega)) g
        rw [if_pos g, c239_25, decide_eq_true this]; rfl
      · have := vlo_lt (show (0 : Int) < 10000 by decide) n (fun i hi => h5 i (by omega)) (fun i hi => h6 i (by omega)) (show c 155 n < c 156 n by omega)
        rw [if_neg g, c239_25, decide_eq_false (by omega)]; rfl
theorem m239 (d : Nat) {c : Nat → Nat → Int} (hs : SpL s) (hm : MS c) {x y : Int} (h5 : DV c 155 x) (h6 : DV c 156 y) : Cd (d + 1) 239 [vA 142] (s, c) = some ([vI (b2i (decide (y < x)))], (s, c)) := by
  rw [c239 (hg := gC142 hs c)]
  have := m239_2 d hs hm h5.1 h6.1 200 (by omega)
  rw [h5.2, h6.2] at this
  exact this
theorem DV_of {c c' : Nat → Nat → Int} {o : Nat} {x : Int} (h : DV c o x) (e : ∀ i, c' o i = c o i) : DV c' o x := by
  have : c' o = c o := funext e
  unfold DV at h ⊢; rw [this]; exact h
theorem m240_66 (d : Nat) (hs : SpL s) {b : Nat → Nat → Int} {k : Nat} {m x : Int} (hP : MP b k m) (x0 : 0 ≤ x) (x1 : x ≤ 1000000000) (b0 : 0 ≤ b 142 36) (b1 : b 142 36 < asN (b 145 (800 * k + 3)) (b 143 (20 + m).toNat) (b 143 (24 + m).toNat)) (a1 : asN (b 145 (800 * k + 3)) (b 143 (20 + m).toNat) (b 143 (24 + m).toNat) ≤ 21) (o1 o3 : Option AV) : ∀ (n t : Nat) (c : Nat → Nat → Int), t + n = 425 → Fm [155, 156] [] b c → DV c 155 (x * b 142 36 ^ t) → DV c 156 ((asN (b 145 (800 * k + 3)) (b 143 (20 + m).toNat) (b 143 (24 + m).toNat)) ^ t) → ∃ c', Rr (Cd (d + 2)) 240 66 [some (vA 142), o1, some (vI m), o3, some (vI (t : Int))] [] (s, c) = some ([vI (ngN x (b 142 36) (asN (b 145 (800 * k + 3)) (b 143 (20 + m).toNat) (b 143 (24 + m).toNat)) n t)], (s, c')) ∧ Fm [155, 156] [] b c'
  | 0, t, c, h, hF, h5, h6 => by
    obtain ⟨hP1, e3, e5⟩ := hP.mv hF (by decide)
    have : t = 425 := by omega
    subst this
    have q := m239 (d + 1) hs hP1.1.1 h5 h6
    have e := ng_e x0 x1 b0 b1 a1
    rw [decide_eq_false (by omega)] at q
    refine ⟨c, ?_, hF⟩
    rw [c240_66]
    repeat (first | rw [bnd_s] | rw [tI_m] | rw [tL_m] | rw [tA_m] | rw [tV_m] | rw [q] | rw [b2i_f] | rw [if_pos (show (0 : Int) = 0 from rfl)])
    rfl
  | n + 1, t, c, h, hF, h5, h6 => by
    obtain ⟨hP1, e3, e5⟩ := hP.mv hF (by decide)
    have hm1 := hP1.1.1
    have q := m239 (d + 1) hs hm1 h5 h6
    by_cases g : x * b 142 36 ^ t ≤ (asN (b 145 (800 * k + 3)) (b 143 (20 + m).toNat) (b 143 (24 + m).toNat)) ^ t
    · rw [decide_eq_false (by omega)] at q
      refine ⟨c, ?_, hF⟩
      simp only [ngN]
      rw [c240_66, if_pos g]
      repeat (first | rw [bnd_s] | rw [tI_m] | rw [tL_m] | rw [tA_m] | rw [tV_m] | rw [q] | rw [b2i_f] | rw [if_pos (show (0 : Int) = 0 from rfl)])
    · rw [decide_eq_true (by omega)] at q
      have e36 : c 142 36 = b 142 36 := hF.2 36 (by decide)
      have n2 := num_2
      have B1 := ng_b x0 x1 b0 (show b 142 36 ≤ 21 by omega) (show t + 1 ≤ 425 by omega)
      have B2 := ng_b (x := 1) (by decide) (by decide) (show 0 ≤ asN (b 145 (800 * k + 3)) (b 143 (20 + m).toNat) (b 143 (24 + m).toNat) by omega) a1 (show t + 1 ≤ 425 by omega)
      rw [Int.one_mul] at B2
      have E1 : b 142 36 * (x * b 142 36 ^ t) = x * b 142 36 ^ (t + 1) := by
        rw [Int.pow_succ, Int.mul_comm (b 142 36), Int.mul_assoc]
      have E2 : (asN (b 145 (800 * k + 3)) (b 143 (20 + m).toNat) (b 143 (24 + m).toNat)) * (asN (b 145 (800 * k + 3)) (b 143 (20 + m).toNat) (b 143 (24 + m).toNat)) ^ t = (asN (b 145 (800 * k + 3)) (b 143 (20 + m).toNat) (b 143 (24 + m).toNat)) ^ (t + 1) := by
        rw [Int.pow_succ, Int.mul_comm]
      obtain ⟨c1, r1, f1, g1⟩ := m238 (d + 1) (sC155 hs) h5 b0 (by omega) (by rw [E1]; omega)
      have F1 : Fm [155, 156] [] b c1 := hF.tr ⟨fun o ho _ => funext fun i => f1 o i (fun w => ho (by rw [w]; decide)), fun k _ => f1 142 k (by decide)⟩
      obtain ⟨hP2, e3', e5'⟩ := hP.mv F1 (by decide)
      have q4 := hP2.n224 (d + 1) hs
      rw [e3', e5'] at q4
      obtain ⟨c2, r2, f2, g2⟩ := m238 (d + 1) (sC156 hs) (DV_of h6 (fun i => f1 156 i (by decide))) (show 0 ≤ asN (b 145 (800 * k + 3)) (b 143 (20 + m).toNat) (b 143 (24 + m).toNat) by omega) (by omega) (by rw [E2]; omega)
      have F2 : Fm [155, 156] [] b c2 := F1.tr ⟨fun o ho _ => funext fun i => f2 o i (fun w => ho (by rw [w]; decide)), fun k _ => f2 142 k (by decide)⟩
      rw [E1] at g1
      rw [E2] at g2
      obtain ⟨c3, r3, f3⟩ := m240_66 d hs hP x0 x1 b0 b1 a1 o1 o3 n (t + 1) c2 (by omega) F2 (DV_of g1 (fun i => f2 155 i (by decide))) g2
      refine ⟨c3, ?_, f3⟩
      simp only [ngN]
      rw [c240_66, if_neg g]
      have r1' : Cd (d + 2) 238 [vA 155, vI (b 142 36)] (s, c) = some ([], (s, c1)) := r1
      have r2' : Cd (d + 2) 238 [vA 156, vI (asN (b 145 (800 * k + 3)) (b 143 (20 + m).toNat) (b 143 (24 + m).toNat))] (s, c1) = some ([], (s, c2)) := r2
      repeat (first | rw [bnd_s] | rw [tI_m] | rw [tL_m] | rw [tA_m] | rw [tV_m] | rw [q] | rw [b2i_t] | rw [if_neg (show ¬ (1 : Int) = 0 by decide)] | rw [fC142 hs _ (by decide)] | rw [pC142 hs _ _ (by decide)] | rw [MS_37 hm1] | rw [MS_38 hP2.1.1] | rw [e36] | rw [r1'] | rw [q4] | rw [r2'] | rw [w32_id (z := (t : Int) + 1) (by omega) (by omega)])
      exact r3
theorem m240_37 (d : Nat) (hs : SpL s) {b : Nat → Nat → Int} (hm : MS b) (o1 : Option AV) (v2 v3 : Int) : ∀ (n i : Nat) (c : Nat → Nat → Int), i + n = 200 → Fm [155, 156] [] b c → (∀ j, j < i → c 155 j = (if j = 0 then 1 else 0) ∧ c 156 j = (if j = 0 then 1 else 0)) → ∃ c', Rr (Cd d) 240 37 [some (vA 142), o1, some (vI v2), some (vI v3), some (vI (i : Int))] [] (s, c) = Rr (Cd d) 240 37 [some (vA 142), o1, some (vI v2), some (vI v3), some (vI 200)] [] (s, c') ∧ Fm [155, 156] [] b c' ∧ (∀ j, j < 200 → c' 155 j = (if j = 0 then 1 else 0) ∧ c' 156 j = (if j = 0 then 1 else 0))
  | 0, i, c, h, hF, hD => by
    have : i = 200 := by omega
    subst this
    exact ⟨c, rfl, hF, hD⟩
  | n + 1, i, c, h, hF, hD => by
    have hm1 : MS c := hF.ms hm (by decide)
    have z : ∃ e : Int, e = if i = 0 then 1 else 0 := ⟨_, rfl⟩
    obtain ⟨e, ze⟩ := z
    have hF2 : Fm [155, 156] [] b (u2 (u2 c 155 i e) 156 i e) := (hF.a _ (by decide) (by decide)).a _ (by decide) (by decide)
    obtain ⟨c2, r2, f2, g2⟩ := m240_37 d hs hm o1 v2 v3 n (i + 1) _ (by omega) hF2 (fun j hj => by
      by_cases g : j = i
      · subst g; rw [u2_e, u2_n (by omega), u2_e, ze]; exact ⟨rfl, rfl⟩
      · rw [u2_n (by omega), u2_n (by omega), u2_n (by omega), u2_n (by omega)]; exact hD j (by omega))
    refine ⟨c2, ?_, f2, g2⟩
    have hm2 : MS (u2 c 155 i e) := (hF.a (o := 155) (k := i) e (by decide) (by decide)).ms hm (by decide)
    have t1 : (i : Int).toNat = i := Int.toNat_natCast i
    rw [← r2, c240_37, if_pos (by omega)]
    by_cases w : i = 0
    · have w2 : (i : Int) = 0 := by omega
      rw [if_pos w] at ze
      subst ze
      repeat (first | rw [bnd_s] | rw [tI_m] | rw [tL_m] | rw [tA_m] | rw [tV_m] | rw [fC142 hs _ (by decide)] | rw [pC142 hs _ _ (by decide)] | rw [MS_37 hm1] | rw [if_pos w2] | rw [c240_48] | rw [qC155 hs _ _ (show (0 : Int) ≤ (i : Int) by omega) (by omega)] | rw [t1] | rw [MS_38 hm2] | rw [c240_57] | rw [qC156 hs _ _ (show (0 : Int) ≤ (i : Int) by omega) (by omega)] | rw [w32_id (z := (i : Int) + 1) (by omega) (by omega)])
      rfl
    · have w2 : ¬ (i : Int) = 0 := by omega
      rw [if_neg w] at ze
      subst ze
      repeat (first | rw [bnd_s] | rw [tI_m] | rw [tL_m] | rw [tA_m] | rw [tV_m] | rw [fC142 hs _ (by decide)] | rw [pC142 hs _ _ (by decide)] | rw [MS_37 hm1] | rw [if_neg w2] | rw [c240_48] | rw [qC155 hs _ _ (show (0 : Int) ≤ (i : Int) by omega) (by omega)] | rw [t1] | rw [MS_38 hm2] | rw [c240_57] | rw [qC156 hs _ _ (show (0 : Int) ≤ (i : Int) by omega) (by omega)] | rw [w32_id (z := (i : Int) + 1) (by omega) (by omega)])
      rfl
theorem vlo_1 {f : Nat → Int} {B : Int} : ∀ (n : Nat), (∀ j, j < n + 1 → f j = if j = 0 then 1 else 0) → vlo f B (n + 1) = 1
  | 0, h => by simp only [vlo]; rw [h 0 (by omega)]; simp
  | n + 1, h => by
    rw [vlo, vlo_1 n (fun j hj => h j (by omega)), h (n + 1) (by omega), if_neg (by omega), Int.zero_mul]; rfl
end
