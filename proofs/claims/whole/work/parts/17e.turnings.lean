/-! turnings, asked -/
def tuN (c : Nat → Nat → Int) (m m' : Int) : Int := if c 143 (20 + m).toNat = c 143 (20 + m').toNat ∧ c 143 (24 + m).toNat = c 143 (24 + m').toNat then sumL (fun z => b2i (tuP c m m' z)) (perL (c 143 (20 + m).toNat).toNat (c 143 (20 + m).toNat).toNat []) else 0
theorem tuN_of {b c : Nat → Nat → Int} (e3 : c 143 = b 143) (m m' : Int) : tuN c m m' = tuN b m m' := by
  unfold tuN; rw [e3, tuP_of e3]
section
variable {s : List (Nat × Nat)}
theorem m190 (d : Nat) {b : Nat → Nat → Int} (hs : SpL s) (hm : MS b) {m m' : Int} (hM : MapOK b m) (hM' : MapOK b m') : ∃ c', Cd (d + 3) 190 [vA 142, vI m, vI m'] (s, b) = some ([vI (tuN b m m')], (s, c')) ∧ Fm [149] [] b c' := by
  obtain ⟨⟨k0, k1⟩, ⟨k2, k3⟩, -⟩ := id hM
  obtain ⟨⟨j0, j1⟩, ⟨j2, j3⟩, -⟩ := id hM'
  unfold tuN
  have hd : ∀ X, (if b 143 (20 + m).toNat = b 143 (20 + m').toNat then (if b 143 (24 + m).toNat = b 143 (24 + m').toNat then ((Cd (d + 2) 188 [vA 142, vI (b 143 (20 + m).toNat)] (s, b)).bind toV).bind fun q9 => Rr (Cd (d + 2)) 190 37 [some (vA 142), some (vI m), some (vI m'), some (vI (b 143 (20 + m).toNat)), some (vI 0), some (vI 1), none, none] [] q9 else some ([vI 0], (s, b))) else some ([vI 0], (s, b))) = X → Cd (d + 3) 190 [vA 142, vI m, vI m'] (s, b) = X := fun X hX => by
    rw [c190 (hg := gC142 hs b)]
    repeat (first | rw [bnd_s] | rw [tI_m] | rw [tL_m] | rw [tA_m] | rw [tV_m] | rw [fC142 hs _ (by decide)] | rw [pC142 hs _ _ (by decide)] | rw [MS_0 hm] | rw [w32_id (z := 20 + m) (by omega) (by omega)] | rw [w32_id (z := 20 + m') (by omega) (by omega)] | rw [w32_id (z := 24 + m) (by omega) (by omega)] | rw [w32_id (z := 24 + m') (by omega) (by omega)] | rw [aC143 hs _ (show 0 ≤ 20 + m by omega) (by omega)] | rw [aC143 hs _ (show 0 ≤ 20 + m' by omega) (by omega)] | rw [aC143 hs _ (show 0 ≤ 24 + m by omega) (by omega)] | rw [aC143 hs _ (show 0 ≤ 24 + m' by omega) (by omega)] | rw [c190_28])
    exact hX
  by_cases g : b 143 (20 + m).toNat = b 143 (20 + m').toNat ∧ b 143 (24 + m).toNat = b 143 (24 + m').toNat
  · rw [if_pos g]
    have z : ∃ N : Nat, N = (b 143 (20 + m).toNat).toNat := ⟨_, rfl⟩
    obtain ⟨N, zN⟩ := z
    have eN : b 143 (20 + m).toNat = (N : Int) := by omega
    obtain ⟨p1, ⟨r, p2⟩, p3⟩ := per_ok (N := N) (by omega) (by omega)
    obtain ⟨c1, y1, y2, y3⟩ := m188 (d + 1) hs hm (N := N) (by omega)
    obtain ⟨c2, z1, z2⟩ := m190_37 d hs hm hM hM' eN (perL N N []) (idL N) r 0 c1 none none p2 p1 y3 y2 (by omega) (by omega)
    rw [← zN]
    refine ⟨c2, hd _ ?_, z2⟩
    rw [if_pos g.1, if_pos g.2, eN, y1]
    repeat (first | rw [bnd_s] | rw [tI_m] | rw [tL_m] | rw [tA_m] | rw [tV_m])
    rw [Int.zero_add] at z1
    exact z1
  · rw [if_neg g]
    refine ⟨b, hd _ ?_, Fm.rf _ _ _⟩
    by_cases g1 : b 143 (20 + m).toNat = b 143 (20 + m').toNat
    · rw [if_pos g1, if_neg (fun w => g ⟨g1, w⟩)]
    · rw [if_neg g1]
def fcW : Nat → Int → Int → Int
  | 0, a, _ => a
  | n + 1, a, j => fcW n (w32 (a * j)) (j + 1)
theorem k19_4 (d : Nat) {c : Nat → Nat → Int} {q : Nat} (h1 : CH s c q) {N : Int} (hN : c q 4 = N) (h7 : N ≤ 7) : ∀ (n : Nat) (a j : Int), 0 ≤ j → j + n = N + 1 → Rr (Cd d) 19 4 [some (vA (q : Int)), some (vI a), some (vI j)] [] (s, c) = some ([vI (fcW n a j)], (s, c))
  | 0, a, j, h0, h => by
    rw [c19_4]
    repeat (first | rw [bnd_s] | rw [tI_m] | rw [tL_m] | rw [tA_m] | rw [tV_m] | rw [gF_g h1.1.1 _ (by decide)] | rw [hN] | rw [if_pos (show N < j by omega)])
    rfl
  | n + 1, a, j, h0, h => by
    rw [c19_4]
    repeat (first | rw [bnd_s] | rw [tI_m] | rw [tL_m] | rw [tA_m] | rw [tV_m] | rw [gF_g h1.1.1 _ (by decide)] | rw [hN] | rw [if_neg (show ¬ N < j by omega)] | rw [w32_id (z := j + 1) (by omega) (by omega)])
    exact k19_4 d h1 hN h7 n _ (j + 1) (by omega) (by omega)
theorem m191_26 (d : Nat) {c : Nat → Nat → Int} (hs : SpL s) (hm : MS c) {m : Int} (hM : MapOK c m) (o2 o3 : Option AV) : ∀ (n : Nat) (a j : Int), 0 ≤ j → j + n = c 143 (20 + m).toNat + 1 → Rr (Cd d) 191 26 [some (vA 142), some (vI m), o2, o3, some (vI a), some (vI j)] [] (s, c) = ((Cd d 190 [vA 142, vI m, vI m] (s, c)).bind toI).bind fun q3 => if q3.1 = 0 then none else some ([vI (idiv (fcW n a j) q3.1)], q3.2)
  | 0, a, j, h0, h => by
    obtain ⟨⟨k0, k1⟩, ⟨k2, k3⟩, -⟩ := id hM
    rw [c191_26]
    repeat (first | rw [bnd_s] | rw [tI_m] | rw [tL_m] | rw [tA_m] | rw [tV_m] | rw [fC142 hs _ (by decide)] | rw [pC142 hs _ _ (by decide)] | rw [MS_0 hm] | rw [w32_id (z := 20 + m) (by omega) (by omega)] | rw [aC143 hs _ (show 0 ≤ 20 + m by omega) (by omega)] | rw [if_pos (show c 143 (20 + m).toNat < j by omega)])
    rfl
  | n + 1, a, j, h0, h => by
    obtain ⟨⟨k0, k1⟩, ⟨k2, k3⟩, -⟩ := id hM
    rw [c191_26]
    repeat (first | rw [bnd_s] | rw [tI_m] | rw [tL_m] | rw [tA_m] | rw [tV_m] | rw [fC142 hs _ (by decide)] | rw [pC142 hs _ _ (by decide)] | rw [MS_0 hm] | rw [w32_id (z := 20 + m) (by omega) (by omega)] | rw [aC143 hs _ (show 0 ≤ 20 + m by omega) (by omega)] | rw [if_neg (show ¬ c 143 (20 + m).toNat < j by omega)] | rw [w32_id (z := j + 1) (by omega) (by omega)])
    exact m191_26 d hs hm hM o2 o3 n _ (j + 1) (by omega) (by omega)
theorem FT.inv {c c' : Nat → Nat → Int} {n m : Nat} (hm : m < 4) (hI : Inv s c n) (f : FT (40 + 5 * m) 0 c c') : Inv s c' n := by
  refine Inv_C hI (fun o i hi => f o i (fun w => ?_)) hI.1 (RefI_of hI.2.2.2.2.2.2.2.1 (fun m' h => ⟨f _ _ (by omega), f _ _ (by omega)⟩)) (fun m' h h2 => ?_)
  · have w := w.1
    rcases n4 hm with e | e | e | e <;> subst e <;> subst w <;> simp [cScr] at hi
  · have e3 : c' 143 = c 143 := funext fun i => f _ _ (by omega)
    rw [e3] at h2 ⊢
    rw [ansL_of e3, f _ _ (by omega)]
    rcases hI.2.2.2.2.2.2.2.2.1 m' h h2 with g | g
    · exact Or.inl g
    · exact Or.inr (AnsC_of g ⟨[], by simp⟩ (fun k => f _ _ (by omega)) (fun r hr _ => ⟨funext fun i => f _ _ (by omega), funext fun i => f _ _ (by omega)⟩))
/-- the class counts turnings -/
theorem k20I {c : Nat → Nat → Int} {n : Nat} (hI : Inv s c n) {m m' : Int} (m0 : 0 ≤ m) (m1 : m < c 143 0) (w0 : 0 ≤ m') (w1 : m' < c 143 0) : ∃ c', Cd 998 20 [vA ((40 + 5 * m.toNat : Nat) : Int), vA ((40 + 5 * m'.toNat : Nat) : Int)] (s, c) = some ([vI (tuN c m m')], (s, c')) ∧ Inv s c' n ∧ c' 143 = c 143 := by
  have hs := hI.1.l
  have hc := hI.2.2.2.1
  have n2 := hI.nM.2
  have hch := chN hs hc (m := m.toNat) (by omega)
  have hch' := chN hs hc (m := m'.toNat) (by omega)
  have hr := hI.map (m := m.toNat) (by omega)
  have hr' := hI.map (m := m'.toNat) (by omega)
  rw [Int.toNat_of_nonneg m0] at hr
  rw [Int.toNat_of_nonneg w0] at hr'
  have kb := hr.2.1
  unfold tuN
  by_cases g : c 143 (20 + m).toNat = c 143 (20 + m').toNat ∧ c 143 (24 + m).toNat = c 143 (24 + m').toNat
  · rw [if_pos g]
    have z : ∃ N : Nat, N = (c 143 (20 + m).toNat).toNat := ⟨_, rfl⟩
    obtain ⟨N, zN⟩ := z
    have eN : c 143 (20 + m).toNat = (N : Int) := by omega
    obtain ⟨c', y1, y2⟩ := k20 (994 - N) (q := 40 + 5 * m.toNat) (q' := 40 + 5 * m'.toNat) ⟨⟨hch, hch'⟩, ⟨hr, hr'⟩, ⟨eN, by rw [← g.1]; exact eN⟩, by omega, by omega, by omega⟩ g.2
    rw [show 994 - N + N + 4 = 998 by omega] at y1
    rw [← zN]
    exact ⟨c', y1, FT.inv (by omega) hI y2, funext fun i => y2 _ _ (by omega)⟩
  · rw [if_neg g]
    exact ⟨c, k20_n 997 hch hch' hr hr' g, hI, rfl⟩
end
theorem op_turnings (m m' v : Int) : Op 122 191 [vI m, vI m', vI v] := by
  intro s c n hI
  have hs := hI.1.l
  have hc := hI.2.2.2.1
  have hm := hI.2.2.1
  have h6 := hI.2.2.2.2.1.1.1
  have hn := hI.nM
  have n2 := hn.2
  by_cases h1 : 0 ≤ m ∧ m < c 143 0
  case neg =>
    refine ⟨vI (-1), s, s, c, c, n, ?_, ?_, by omega, hI⟩
    · rw [c122 (hg := gC29 hs c)]
      repeat (first | rw [bnd_s] | rw [tI_m] | rw [tL_m] | rw [tA_m] | rw [tV_m] | rw [fC29 hs _ (by decide)] | rw [pC29 hs _ _ (by decide)] | rw [CS_29_0 hc] | rw [k113 _ hs hc h6 hn] | rw [if_neg h1] | rw [if_neg (show ¬ (-1 : Int) = 0 by decide)] | rw [if_pos (show (-1 : Int) < 0 by decide)] | rw [c122_19])
    · rw [c191 (hg := gC142 hs c)]
      repeat (first | rw [bnd_s] | rw [tI_m] | rw [tL_m] | rw [tA_m] | rw [tV_m] | rw [m173 _ hs hm hn] | rw [inR_f (show ¬ (0 ≤ m ∧ m ≤ c 143 0 - 1) by omega)] | rw [if_b0] | rw [cond_t] | rw [cond_f] | rw [c191_13])
  by_cases h2 : 0 ≤ m' ∧ m' < c 143 0
  case neg =>
    have T2 : Cd 998 173 [vA 142, vI m] (s, c) = some ([vI (b2i true)], (s, c)) := by rw [m173 _ hs hm hn, inR_t (by omega)]
    refine ⟨vI (-1), s, s, c, c, n, ?_, ?_, by omega, hI⟩
    · rw [c122 (hg := gC29 hs c)]
      repeat (first | rw [bnd_s] | rw [tI_m] | rw [tL_m] | rw [tA_m] | rw [tV_m] | rw [fC29 hs _ (by decide)] | rw [pC29 hs _ _ (by decide)] | rw [CS_29_0 hc] | rw [k113 _ hs hc h6 hn] | rw [if_pos h1] | rw [if_neg h2] | rw [if_neg (show ¬ ((40 + 5 * m.toNat : Nat) : Int) = 0 by omega)] | rw [if_neg (show ¬ ((40 + 5 * m.toNat : Nat) : Int) < 0 by omega)] | rw [if_neg (show ¬ (-1 : Int) = 0 by decide)] | rw [if_pos (show (-1 : Int) < 0 by decide)] | rw [c122_19])
    · rw [c191 (hg := gC142 hs c)]
      repeat (first | rw [bnd_s] | rw [tI_m] | rw [tL_m] | rw [tA_m] | rw [tV_m] | rw [T2] | rw [m173 _ hs hm hn] | rw [inR_f (show ¬ (0 ≤ m' ∧ m' ≤ c 143 0 - 1) by omega)] | rw [if_b0] | rw [cond_t] | rw [cond_f] | rw [c191_13])
  by_cases hv : 0 ≤ v ∧ v ≤ 1
  case neg =>
    have T2 : Cd 998 173 [vA 142, vI m] (s, c) = some ([vI (b2i true)], (s, c)) := by rw [m173 _ hs hm hn, inR_t (by omega)]
    have T3 : Cd 998 173 [vA 142, vI m'] (s, c) = some ([vI (b2i true)], (s, c)) := by rw [m173 _ hs hm hn, inR_t (by omega)]
    refine ⟨vI (-1), s, s, c, c, n, ?_, ?_, by omega, hI⟩
    · rw [c122 (hg := gC29 hs c)]
      repeat (first | rw [bnd_s] | rw [tI_m] | rw [tL_m] | rw [tA_m] | rw [tV_m] | rw [fC29 hs _ (by decide)] | rw [pC29 hs _ _ (by decide)] | rw [CS_29_0 hc] | rw [k113 _ hs hc h6 hn] | rw [if_pos h1] | rw [if_pos h2] | rw [if_neg (show ¬ ((40 + 5 * m.toNat : Nat) : Int) = 0 by omega)] | rw [if_neg (show ¬ ((40 + 5 * m.toNat : Nat) : Int) < 0 by omega)] | rw [if_neg (show ¬ ((40 + 5 * m'.toNat : Nat) : Int) = 0 by omega)] | rw [if_neg (show ¬ ((40 + 5 * m'.toNat : Nat) : Int) < 0 by omega)])
      by_cases w1 : v < 0
      · rw [if_pos w1, c122_19]
      · rw [if_neg w1, if_pos (by omega), c122_19]
    · rw [c191 (hg := gC142 hs c)]
      repeat (first | rw [bnd_s] | rw [tI_m] | rw [tL_m] | rw [tA_m] | rw [tV_m] | rw [T2] | rw [T3] | rw [m172] | rw [inR_f hv] | rw [if_b0] | rw [cond_t] | rw [cond_f] | rw [c191_13])
  have hM := hI.mok m h1.1 h1.2
  have hM' := hI.mok m' h2.1 h2.2
  by_cases v0 : v = 0
  · obtain ⟨c1, y1, hI1, E3⟩ := k20I hI h1.1 h1.2 h2.1 h2.2
    have hm1 := hI1.2.2.1
    have hn1 := hI1.nM
    have T2 : Cd 998 173 [vA 142, vI m] (s, c1) = some ([vI (b2i true)], (s, c1)) := by rw [m173 _ hs hm1 hn1, E3, inR_t (by omega)]
    have T3 : Cd 998 173 [vA 142, vI m'] (s, c1) = some ([vI (b2i true)], (s, c1)) := by rw [m173 _ hs hm1 hn1, E3, inR_t (by omega)]
    obtain ⟨c2, z1, z2⟩ := m190 995 hs hm1 (MapOK_of hM E3) (MapOK_of hM' E3)
    rw [tuN_of E3] at z1
    refine ⟨vI (tuN c m m'), s, s, c1, c2, n, ?_, ?_, by omega, Inv_M hI1 z2 (by decide)⟩
    · rw [c122 (hg := gC29 hs c)]
      repeat (first | rw [bnd_s] | rw [tI_m] | rw [tL_m] | rw [tA_m] | rw [tV_m] | rw [fC29 hs _ (by decide)] | rw [pC29 hs _ _ (by decide)] | rw [CS_29_0 hc] | rw [k113 _ hs hc h6 hn] | rw [if_pos h1] | rw [if_pos h2] | rw [if_neg (show ¬ ((40 + 5 * m.toNat : Nat) : Int) = 0 by omega)] | rw [if_neg (show ¬ ((40 + 5 * m.toNat : Nat) : Int) < 0 by omega)] | rw [if_neg (show ¬ ((40 + 5 * m'.toNat : Nat) : Int) = 0 by omega)] | rw [if_neg (show ¬ ((40 + 5 * m'.toNat : Nat) : Int) < 0 by omega)] | rw [if_neg (show ¬ v < 0 by omega)] | rw [if_neg (show ¬ 1 < v by omega)] | rw [if_pos v0] | rw [y1])
    · rw [c191 (hg := gC142 hs c1)]
      repeat (first | rw [bnd_s] | rw [tI_m] | rw [tL_m] | rw [tA_m] | rw [tV_m] | rw [T2] | rw [T3] | rw [m172] | rw [inR_t hv] | rw [if_b0] | rw [cond_t] | rw [if_pos v0] | rw [z1])
  · obtain ⟨c1, y1, hI1, E3⟩ := k20I hI h1.1 h1.2 h1.1 h1.2
    have hm1 := hI1.2.2.1
    have hc1 := hI1.2.2.2.1
    have hn1 := hI1.nM
    have k2 := hM.2.1
    have nz : 0 < tuN c m m := by
      unfold tuN
      rw [if_pos ⟨rfl, rfl⟩]
      exact id_sum hM (by omega) (by omega) (by omega)
    have hch := chN hs hc1 (m := m.toNat) (by omega)
    have f4 := (hI1.map (m := m.toNat) (by rw [E3]; omega)).1.1
    rw [Int.toNat_of_nonneg h1.1, E3] at f4
    have q19 := k19_4 997 hch f4 k2.2 (c 143 (20 + m).toNat - 1).toNat 1 2 (by decide) (by omega)
    have q19' : Cd 998 19 [vA ((40 + 5 * m.toNat : Nat) : Int)] (s, c1) = some ([vI (fcW (c 143 (20 + m).toNat - 1).toNat 1 2)], (s, c1)) := by
      rw [c19 (hg := hch.g)]; exact q19
    have T2 : Cd 998 173 [vA 142, vI m] (s, c1) = some ([vI (b2i true)], (s, c1)) := by rw [m173 _ hs hm1 hn1, E3, inR_t (by omega)]
    have T3 : Cd 998 173 [vA 142, vI m'] (s, c1) = some ([vI (b2i true)], (s, c1)) := by rw [m173 _ hs hm1 hn1, E3, inR_t (by omega)]
    obtain ⟨c2, z1, z2⟩ := m190 995 hs hm1 (MapOK_of hM E3) (MapOK_of hM E3)
    rw [tuN_of E3] at z1
    have q26 := m191_26 998 hs hm1 (MapOK_of hM E3) (some (vI m')) (some (vI v)) (c 143 (20 + m).toNat - 1).toNat 1 2 (by decide) (by rw [E3]; omega)
    refine ⟨vI (idiv (fcW (c 143 (20 + m).toNat - 1).toNat 1 2) (tuN c m m)), s, s, c1, c2, n, ?_, ?_, by omega, Inv_M hI1 z2 (by decide)⟩
    · rw [c122 (hg := gC29 hs c)]
      repeat (first | rw [bnd_s] | rw [tI_m] | rw [tL_m] | rw [tA_m] | rw [tV_m] | rw [fC29 hs _ (by decide)] | rw [pC29 hs _ _ (by decide)] | rw [CS_29_0 hc] | rw [k113 _ hs hc h6 hn] | rw [if_pos h1] | rw [if_pos h2] | rw [if_neg (show ¬ ((40 + 5 * m.toNat : Nat) : Int) = 0 by omega)] | rw [if_neg (show ¬ ((40 + 5 * m.toNat : Nat) : Int) < 0 by omega)] | rw [if_neg (show ¬ ((40 + 5 * m'.toNat : Nat) : Int) = 0 by omega)] | rw [if_neg (show ¬ ((40 + 5 * m'.toNat : Nat) : Int) < 0 by omega)] | rw [if_neg (show ¬ v < 0 by omega)] | rw [if_neg (show ¬ 1 < v by omega)] | rw [if_neg v0] | rw [y1] | rw [if_neg (show ¬ tuN c m m = 0 by omega)] | rw [q19'] | rw [c122_39])
    · rw [c191 (hg := gC142 hs c1)]
      repeat (first | rw [bnd_s] | rw [tI_m] | rw [tL_m] | rw [tA_m] | rw [tV_m] | rw [T2] | rw [T3] | rw [m172] | rw [inR_t hv] | rw [if_b0] | rw [cond_t] | rw [if_neg v0] | rw [q26] | rw [z1] | rw [if_neg (show ¬ tuN c m m = 0 by omega)])
