/-! a new border -/
def btOr : Bool := (List.range 128).all fun a => (List.range 7).all fun y => decide (0 ≤ ior (a : Nat) (ishl 1 (y : Nat)) ∧ ior (a : Nat) (ishl 1 (y : Nat)) < 128) && (List.range 7).all fun o => bt (ior (a : Nat) (ishl 1 (y : Nat))) (o : Nat) == (bt (a : Nat) (o : Nat) || o == y)
theorem btOr_ok : btOr = true := by decide +kernel
theorem bt_or {a y : Int} (h0 : 0 ≤ a) (h1 : a < 128) (h2 : 0 ≤ y) (h3 : y < 7) : (0 ≤ ior a (ishl 1 y) ∧ ior a (ishl 1 y) < 128) ∧ ∀ o, 0 ≤ o → o < 7 → bt (ior a (ishl 1 y)) o = (bt a o || decide (o = y)) := by
  have h := List.all_eq_true.mp (List.all_eq_true.mp btOr_ok a.toNat (List.mem_range.mpr (by omega))) y.toNat (List.mem_range.mpr (by omega))
  simp only [Bool.and_eq_true, decide_eq_true_eq, Int.toNat_of_nonneg h0, Int.toNat_of_nonneg h2] at h
  refine ⟨h.1, fun o ho ho2 => ?_⟩
  have g := List.all_eq_true.mp h.2 o.toNat (List.mem_range.mpr (by omega))
  simp only [beq_iff_eq, Int.toNat_of_nonneg ho] at g
  rw [g]
  congr 1
  rw [Bool.eq_iff_iff]
  simp; omega
theorem anyU_last (f : Int → Bool) : ∀ (n : Nat) (j : Int), anyU f (n + 1) j = (anyU f n j || f (j + n))
  | 0, j => by simp [anyU]
  | n + 1, j => by
    rw [show anyU f (n + 1 + 1) j = (f j || anyU f (n + 1) (j + 1)) from rfl, anyU_last f n (j + 1), show anyU f (n + 1) j = (f j || anyU f n (j + 1)) from rfl, Bool.or_assoc, show j + 1 + (n : Int) = j + ((n + 1 : Nat) : Int) by omega]
/-- the class's new border -/
def joinC (c : Nat → Nat → Int) (q : Nat) (k x y : Int) : Nat → Nat → Int := u2 (u2 (u2 (u2 (u2 (u2 c (q + 1) k.toNat x) (q + 2) k.toNat y) (q + 3) x.toNat (ior (c (q + 3) x.toNat) (ishl 1 y))) (q + 3) y.toNat (ior (c (q + 3) y.toNat) (ishl 1 x))) q 5 (k + 1)) q 9 0
theorem k10 (d : Nat) {s : List (Nat × Nat)} {c : Nat → Nat → Int} {q : Nat} (hc : CH s c q) {x y : Int} (h5 : 0 ≤ c q 5) (h5' : c q 5 < 15) (hx : 0 ≤ x) (hx2 : x < 7) (hy : 0 ≤ y) (hy2 : y < 7) (hxy : x ≠ y) : Cd (d + 1) 10 [vA q, vI x, vI y] (s, c) = some ([], (s, joinC c q (c q 5) x y)) := by
  rw [c10 (hg := hc.g)]
  repeat (first | rw [bnd_s] | rw [tI_m] | rw [tL_m] | rw [tA_m] | rw [tV_m] | rw [gF_g hc.1.1 _ (by decide)] | rw [pF_g hc.1.1 _ _ (by decide)] | rw [u2_e] | rw [u2_n (by omega)] | rw [hc.2.1] | rw [hc.2.2.1] | rw [hc.2.2.2.1] | rw [gA_g (a := 0) hc.1.2.2.2.1 _ (by omega) (by omega)] | rw [pA_g (a := 0) hc.1.2.1 _ _ (by omega) (by omega)] | rw [pA_g (a := 0) hc.1.2.2.1 _ _ (by omega) (by omega)] | rw [pA_g (a := 0) hc.1.2.2.2.1 _ _ (by omega) (by omega)] | rw [w32_id (by omega) (by omega)])
  all_goals rfl
theorem k118 (d : Nat) {s : List (Nat × Nat)} {c : Nat → Nat → Int} {n : Nat} (hI : Inv s c n) (m x y : Int) : Cd (d + 3) 118 [vA 29, vI m, vI x, vI y] (s, c) = if (0 ≤ m ∧ m < c 143 0) ∧ (0 ≤ x ∧ x < c 143 (20 + m).toNat) ∧ (0 ≤ y ∧ y < c 143 (20 + m).toNat) ∧ x ≠ y ∧ isB c m x y = false ∧ c 143 (24 + m).toNat ≠ 15 then some ([vI (c 143 (24 + m).toNat)], (s, joinC c (40 + 5 * m.toNat) (c 143 (24 + m).toNat) x y)) else some ([vI (-1)], (s, c)) := by
  have hs := hI.1.l
  have hc := hI.2.2.2.1
  have hn := hI.nM
  have n1 := hn.1
  have n2 := hn.2
  rw [c118 (hg := gC29 hs c), fC29 hs _ (by decide), bnd_s, CS_29_0 hc, k113 _ hs hc hI.2.2.2.2.1.1.1 hn, bnd_s, tA_m, bnd_s]
  by_cases h : 0 ≤ m ∧ m < c 143 0
  · rw [if_pos h, if_neg (by omega), if_neg (by omega)]
    have hr := hI.map (m := m.toNat) (by omega)
    have hch := chN hs hc (m := m.toNat) (by omega)
    rw [Int.toNat_of_nonneg h.1] at hr
    have b5 := hr.2.2.1
    have b7 := hr.2.1.2
    rw [k9 _ hch hr, bnd_s, tI_m, bnd_s, if_b0]
    by_cases h1 : (0 ≤ x ∧ x < c 143 (20 + m).toNat) ∧ (0 ≤ y ∧ y < c 143 (20 + m).toNat) ∧ x ≠ y ∧ c 143 (24 + m).toNat < 15
    · rw [decide_eq_true h1, Bool.true_and]
      cases hB : isB c m x y with
      | true =>
        rw [Bool.not_true, cond_f, c118_12, if_neg (fun g => by have := g.2.2.2.2.1; simp at this)]
      | false =>
        rw [Bool.not_false, cond_t, k10 _ hch (by rw [hr.1.2]; omega) (by rw [hr.1.2]; omega) h1.1.1 (by omega) h1.2.1.1 (by omega) h1.2.2.1, bnd_s, tV_m, bnd_s, hr.1.2, gF_g hch.1.1 _ (by decide), bnd_s, if_pos ⟨h, h1.1, h1.2.1, h1.2.2.1, rfl, by omega⟩]
        unfold joinC
        rw [u2_n (by omega), u2_e, w32_id (by omega) (by omega), show c 143 (24 + m).toNat + 1 - 1 = c 143 (24 + m).toNat by omega]
    · rw [decide_eq_false h1, Bool.false_and, cond_f, c118_12, if_neg (fun g => h1 ⟨g.2.1, g.2.2.1, g.2.2.2.1, by have := g.2.2.2.2.2; omega⟩)]
  · rw [if_neg h, if_neg (show ¬ (-1 : Int) = 0 by decide), if_pos (show (-1 : Int) < 0 by decide), c118_12, if_neg (fun g => h g.1)]
theorem op_border (m x y : Int) : Op 118 179 [vI m, vI x, vI y] := by
  intro s c n hI
  have hs := hI.1.l
  have hc := hI.2.2.2.1
  have hn := hI.nM
  have n1 := hn.1
  have n2 := hn.2
  have r1 := k118 996 hI m x y
  have r2 := m179 996 hs hI.2.2.1 hn hI.mok m x y
  by_cases h : (0 ≤ m ∧ m < c 143 0) ∧ (0 ≤ x ∧ x < c 143 (20 + m).toNat) ∧ (0 ≤ y ∧ y < c 143 (20 + m).toNat) ∧ x ≠ y ∧ isB c m x y = false ∧ c 143 (24 + m).toNat ≠ 15
  case neg =>
    rw [if_neg h] at r1 r2
    exact ⟨_, s, s, c, c, n, r1, r2, by omega, hI⟩
  rw [if_pos h] at r1
  clear r2
  obtain ⟨⟨hm0, hm1⟩, hx, hy, hxy, hB, h15⟩ := h
  have hr := hI.map (m := m.toNat) (by omega)
  rw [Int.toNat_of_nonneg hm0] at hr
  obtain ⟨⟨e4, e5⟩, ⟨k2, k3⟩, ⟨k4, k5⟩, k6, k7⟩ := hr
  have hmok := hI.mok
  -- the class's cells
  have j1 : ∀ o k, ¬ (40 + 5 * m.toNat ≤ o ∧ o ≤ 40 + 5 * m.toNat + 3) → joinC c (40 + 5 * m.toNat) (c 143 (24 + m).toNat) x y o k = c o k := fun o k ho => by
    unfold joinC; rw [u2_n (by omega), u2_n (by omega), u2_n (by omega), u2_n (by omega), u2_n (by omega), u2_n (by omega)]
  have j2 : ∀ k, k ≠ 5 → k ≠ 9 → joinC c (40 + 5 * m.toNat) (c 143 (24 + m).toNat) x y (40 + 5 * m.toNat) k = c (40 + 5 * m.toNat) k := fun k h1 h2 => by
    unfold joinC; rw [u2_n (by omega), u2_n (by omega), u2_n (by omega), u2_n (by omega), u2_n (by omega), u2_n (by omega)]
  have j3 : joinC c (40 + 5 * m.toNat) (c 143 (24 + m).toNat) x y (40 + 5 * m.toNat) 5 = c 143 (24 + m).toNat + 1 := by
    unfold joinC; rw [u2_n (by omega), u2_e]
  have j4 : joinC c (40 + 5 * m.toNat) (c 143 (24 + m).toNat) x y (40 + 5 * m.toNat) 9 = 0 := by
    unfold joinC; rw [u2_e]
  have j5 : ∀ b : Int, 0 ≤ b → joinC c (40 + 5 * m.toNat) (c 143 (24 + m).toNat) x y (40 + 5 * m.toNat + 1) b.toNat = if b = c 143 (24 + m).toNat then x else c (40 + 5 * m.toNat + 1) b.toNat := fun b hb => by
    unfold joinC; rw [u2_n (by omega), u2_n (by omega), u2_n (by omega), u2_n (by omega), u2_n (by omega)]
    split
    · rename_i g; rw [g, u2_e]
    · rw [u2_n (by omega)]
  have j6 : ∀ b : Int, 0 ≤ b → joinC c (40 + 5 * m.toNat) (c 143 (24 + m).toNat) x y (40 + 5 * m.toNat + 2) b.toNat = if b = c 143 (24 + m).toNat then y else c (40 + 5 * m.toNat + 2) b.toNat := fun b hb => by
    unfold joinC; rw [u2_n (by omega), u2_n (by omega), u2_n (by omega), u2_n (by omega)]
    split
    · rename_i g; rw [g, u2_e]
    · rw [u2_n (by omega), u2_n (by omega)]
  have j7 : ∀ l : Int, 0 ≤ l → joinC c (40 + 5 * m.toNat) (c 143 (24 + m).toNat) x y (40 + 5 * m.toNat + 3) l.toNat = if l = x then ior (c (40 + 5 * m.toNat + 3) x.toNat) (ishl 1 y) else if l = y then ior (c (40 + 5 * m.toNat + 3) y.toNat) (ishl 1 x) else c (40 + 5 * m.toNat + 3) l.toNat := fun l hl => by
    unfold joinC; rw [u2_n (by omega), u2_n (by omega)]
    split
    · rename_i g; rw [g, u2_n (by omega), u2_e]
    · split
      · rename_i g; rw [g, u2_e]
      · rw [u2_n (by omega), u2_n (by omega), u2_n (by omega), u2_n (by omega)]
  generalize hc1 : joinC c (40 + 5 * m.toNat) (c 143 (24 + m).toNat) x y = c1 at *
  have e143 : c1 143 = c 143 := funext fun k => j1 _ _ (by omega)
  have hms1 : MS c1 := MS_of hI.2.2.1 (fun q _ => j1 _ _ (by omega)) (funext fun k => j1 _ _ (by omega)) (funext fun k => j1 _ _ (by omega))
  have hk1 : ∀ m, 0 ≤ m → m < c1 143 0 → MapOK c1 m := fun m' h0 h1 => MapOK_of (hmok m' h0 (by rw [← e143]; exact h1)) e143
  have r2 := m179 996 hs hms1 (show nM c1 by unfold nM; rw [e143]; exact hn) hk1 m x y
  rw [e143, isB_of e143, if_pos ⟨⟨hm0, hm1⟩, hx, hy, hxy, hB, h15⟩] at r2
  refine ⟨_, s, s, c1, _, n, r1, r2, by omega, ?_⟩
  clear r1 r2 hk1 hms1
  generalize hK : c 143 (24 + m).toNat = K at *
  have f2 : ∀ o k, o ≠ 143 → (u2 (u2 (u2 c1 143 (30 + 30 * m + 2 * K).toNat x) 143 (30 + 30 * m + 2 * K + 1).toNat y) 143 (24 + m).toNat (K + 1)) o k = c1 o k := fun o k ho => by rw [u2_n (by omega), u2_n (by omega), u2_n (by omega)]
  have fK : (u2 (u2 (u2 c1 143 (30 + 30 * m + 2 * K).toNat x) 143 (30 + 30 * m + 2 * K + 1).toNat y) 143 (24 + m).toNat (K + 1)) 143 (24 + m).toNat = K + 1 := u2_e _ _ _ _
  have f1 : (u2 (u2 (u2 c1 143 (30 + 30 * m + 2 * K).toNat x) 143 (30 + 30 * m + 2 * K + 1).toNat y) 143 (24 + m).toNat (K + 1)) 143 (30 + 30 * m + 2 * K).toNat = x := by rw [u2_n (by omega), u2_n (by omega), u2_e]
  have f3 : (u2 (u2 (u2 c1 143 (30 + 30 * m + 2 * K).toNat x) 143 (30 + 30 * m + 2 * K + 1).toNat y) 143 (24 + m).toNat (K + 1)) 143 (30 + 30 * m + 2 * K + 1).toNat = y := by rw [u2_n (by omega), u2_e]
  have fo : ∀ k, k ≠ (24 + m).toNat → k ≠ (30 + 30 * m + 2 * K).toNat → k ≠ (30 + 30 * m + 2 * K + 1).toNat → (u2 (u2 (u2 c1 143 (30 + 30 * m + 2 * K).toNat x) 143 (30 + 30 * m + 2 * K + 1).toNat y) 143 (24 + m).toNat (K + 1)) 143 k = c 143 k := fun k h1 h2 h3 => by rw [u2_n (by omega), u2_n (by omega), u2_n (by omega), e143]
  generalize (u2 (u2 (u2 c1 143 (30 + 30 * m + 2 * K).toNat x) 143 (30 + 30 * m + 2 * K + 1).toNat y) 143 (24 + m).toNat (K + 1)) = c2 at *
  have fr2 : ∀ o k, o ≠ 143 → ¬ (40 + 5 * m.toNat ≤ o ∧ o ≤ 40 + 5 * m.toNat + 3) → c2 o k = c o k := fun o k h0 h1 => (f2 o k h0).trans (j1 o k h1)
  have frc : ∀ o, o ≠ 143 → ¬ (40 + 5 * m.toNat ≤ o ∧ o ≤ 40 + 5 * m.toNat + 3) → c2 o = c o := fun o h0 h1 => funext fun k => fr2 o k h0 h1
  obtain ⟨i1, i2, i3, i4, i5, i6, i7, i8, i9, i10⟩ := hI
  obtain ⟨a1, a4, a5, a6, a9, a10, a11, a12, a13⟩ := i5
  have hE : ∀ u v b, 0 ≤ b → b < K → edf (c2 143) m u v b = edf (c 143) m u v b := fun u v b hb hb2 => by
    unfold edf
    rw [fo _ (by omega) (by omega) (by omega), fo _ (by omega) (by omega) (by omega)]
  have hBf : ∀ u v, isBf (c2 143) m u v = (isBf (c 143) m u v || decide ((x = u ∧ y = v) ∨ (x = v ∧ y = u))) := fun u v => by
    unfold isBf
    rw [fK, hK, show (K + 1).toNat = K.toNat + 1 by omega, anyU_last, anyU_cg (g := edf (c 143) m u v) _ _ (fun i hi hi2 => hE u v i hi (by omega)), Int.zero_add, Int.toNat_of_nonneg k4]
    congr 1
    unfold edf
    rw [f1, f3]
  refine ⟨i1, Xt_of i2 (fun o k ho => fr2 o k (by omega) (by omega)), MS_of i3 (fun q _ => fr2 _ _ (by omega) (by omega)) (frc _ (by omega) (by omega)) (frc _ (by omega) (by omega)), CS_k i4 (fun o k hk => ?_) (frc _ (by omega) (by omega)), ⟨?_, fun m' hm' => ?_, fun m' hm' hm2 => ?_, ?_, fun k hk => ?_, ?_, ?_, ?_, ?_⟩, ?_, ?_, RefI_of i8 (fun m' hm' => ?_), fun m' hm' hm2 => ?_, ?_⟩
  · have := isRf_n hk
    by_cases ho : o = 40 + 5 * m.toNat
    · subst ho; rw [f2 _ _ (by omega)]; exact j2 k (by omega) (by omega)
    · exact fr2 o k (by omega) (by omega)
  · rw [frc 30 (by omega) (by omega), fo 0 (by omega) (by omega) (by omega)]; exact a1
  · rw [fo 0 (by omega) (by omega) (by omega)] at hm'
    by_cases hmm : (m' : Int) = m
    · have e2 : m' = m.toNat := by omega
      subst e2
      rw [show ((m.toNat : Nat) : Int) = m from Int.toNat_of_nonneg hm0, show 30 + 10 + 5 * m.toNat = 40 + 5 * m.toNat by omega]
      refine ⟨⟨?_, ?_⟩, ?_, ?_, fun b hb hb2 => ?_, fun l hl hl2 => ?_⟩
      · rw [f2 _ _ (by omega), j2 4 (by decide) (by decide), fo _ (by omega) (by omega) (by omega)]; exact e4
      · rw [f2 _ _ (by omega), j3, fK]
      · rw [fo _ (by omega) (by omega) (by omega)]; exact ⟨k2, k3⟩
      · rw [fK]; omega
      · rw [fK] at hb2
        rw [f2 (40 + 5 * m.toNat + 1) _ (by omega), f2 (40 + 5 * m.toNat + 2) _ (by omega), j5 b hb, j6 b hb, fo (20 + m).toNat (by omega) (by omega) (by omega)]
        by_cases hbK : b = K
        · subst hbK
          rw [if_pos rfl, if_pos rfl, f1, f3]
          refine ⟨⟨rfl, rfl⟩, hx, hy, hxy, fun b' h1 h2 => ?_⟩
          rw [hE _ _ b' h1 h2]
          have := hB
          rw [← isBf_c] at this
          cases g : edf (c 143) m x y b' with
          | false => rfl
          | true =>
            have : isBf (c 143) m x y = true := (anyU_iff _ _ _).mpr ⟨b', by omega, by rw [hK]; omega, g⟩
            rw [isBf_c, hB] at this; cases this
        · have hbl : b < K := by omega
          obtain ⟨g1, g2, g3, g4, g5⟩ := k6 b hb hbl
          rw [if_neg hbK, if_neg hbK, fo (30 + 30 * m + 2 * b).toNat (by omega) (by omega) (by omega), fo (30 + 30 * m + 2 * b + 1).toNat (by omega) (by omega) (by omega)]
          exact ⟨g1, g2, g3, g4, fun b' h1 h2 => by rw [hE _ _ b' h1 (by omega)]; exact g5 b' h1 h2⟩
      · rw [f2 _ _ (by omega), j7 l hl]
        have kx := k7 x hx.1 (by omega)
        have ky := k7 y hy.1 (by omega)
        have kl := k7 l hl hl2
        by_cases hlx : l = x
        · subst hlx
          rw [if_pos rfl]
          have g := bt_or kx.1.1 kx.1.2 hy.1 (show y < 7 by omega)
          refine ⟨g.1, fun o ho ho2 => ?_⟩
          rw [g.2 o ho ho2, kx.2 o ho ho2, hBf]
          congr 1
          exact decide_eq_decide.mpr (by constructor <;> intro g <;> omega)
        · rw [if_neg hlx]
          by_cases hly : l = y
          · subst hly
            rw [if_pos rfl]
            have g := bt_or ky.1.1 ky.1.2 hx.1 (show x < 7 by omega)
            refine ⟨g.1, fun o ho ho2 => ?_⟩
            rw [g.2 o ho ho2, ky.2 o ho ho2, hBf]
            congr 1
            exact decide_eq_decide.mpr (by constructor <;> intro g <;> omega)
          · rw [if_neg hly]
            refine ⟨kl.1, fun o ho ho2 => ?_⟩
            rw [kl.2 o ho ho2, hBf, decide_eq_false (by omega), Bool.or_false]
    · refine MapRel_f (f := c 143) (MapRel_of (a4 m' hm') ⟨fr2 _ _ (by omega) (by omega), fr2 _ _ (by omega) (by omega)⟩ (frc _ (by omega) (by omega)) (frc _ (by omega) (by omega)) (frc _ (by omega) (by omega))) (by omega) (by omega) (fun k hk => fo k (by omega) (by omega) (by omega))
  · rw [fo 0 (by omega) (by omega) (by omega)] at hm2
    rw [fo _ (by omega) (by omega) (by omega)]
    exact a5 m' hm' hm2
  · rw [frc 30 (by omega) (by omega), fo 1 (by omega) (by omega) (by omega)]; exact a6
  · rw [fo 1 (by omega) (by omega) (by omega)] at hk
    have := a6.2.2
    rw [frc 145 (by omega) (by omega)]
    exact ShRel_of (a9 k hk) (frc _ (by omega) (by omega)) (frc _ (by omega) (by omega))
  · exact SeeRel_of a10 (fun k h1 h2 => fo k (by omega) (by omega) (by omega)) (frc _ (by omega) (by omega)) (frc _ (by omega) (by omega))
  · exact BoxRel_of a11 (fo 4 (by omega) (by omega) (by omega)) (fo 5 (by omega) (by omega) (by omega)) (by rw [fo 0 (by omega) (by omega) (by omega)]; omega) (fun h1 h2 => fo _ (by omega) (by omega) (by omega)) (fun k h1 h2 => fo k (by omega) (by omega) (by omega)) (frc _ (by omega) (by omega))
  · exact LockRel_of a12 (fun k h1 h2 => fo k (by omega) (by omega) (by omega)) (frc _ (by omega) (by omega))
  · exact RidRel_of a13 (fo 2 (by omega) (by omega) (by omega)) (fo 3 (by omega) (by omega) (by omega)) (fun k h1 h2 => fo k (by omega) (by omega) (by omega)) (frc _ (by omega) (by omega)) (frc _ (by omega) (by omega))
  · rw [frc 144 (by omega) (by omega), frc 145 (by omega) (by omega)]
    exact StRel_of i6 (fun o k h1 h2 _ _ _ _ _ => fr2 o k (by omega) (by omega))
  · rw [frc 144 (by omega) (by omega), fo 1 (by omega) (by omega) (by omega)]; exact i7
  · by_cases hmm : m' = m.toNat
    · subst hmm; rw [f2 _ _ (by omega), f2 _ _ (by omega)]; exact ⟨j2 6 (by decide) (by decide), j2 7 (by decide) (by decide)⟩
    · exact ⟨fr2 _ _ (by omega) (by omega), fr2 _ _ (by omega) (by omega)⟩
  · rw [fo 0 (by omega) (by omega) (by omega)] at hm2
    by_cases hmm : m' = m.toNat
    · subst hmm; rw [f2 _ _ (by omega)]; exact Or.inl j4
    · rw [fo _ (by omega) (by omega) (by omega), ansL_f (hmok m' (by omega) hm2) (fun k hk => fo k (by omega) (by omega) (by omega)), fr2 _ _ (by omega) (by omega)]
      rcases i9 m' hm' hm2 with g | g
      · exact Or.inl g
      · exact Or.inr (AnsC_of g ⟨[], by simp⟩ (fun k => fr2 _ _ (by omega) (by omega)) (fun r hr _ => ⟨frc _ (by omega) (by omega), frc _ (by omega) (by omega)⟩))
  · unfold TapeRel at i10 ⊢
    rw [frc 142 (by omega) (by omega), frc 150 (by omega) (by omega), frc 122 (by omega) (by omega), frc 123 (by omega) (by omega)]
    exact i10
