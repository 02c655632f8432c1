/-! askings, as the reference counts them -/
def tri : Nat → Int
  | 0 => 0
  | n + 1 => (n + 1 : Nat) + tri n
def pxT : Nat → Int → Int → Int
  | 0, _, j => j
  | n + 1, v, j => if v < (n + 1 : Nat) then j else pxT n (v - (n + 1 : Nat)) (j + 1)
def pyT : Nat → Int → Int → Int
  | 0, _, j => j
  | n + 1, v, j => if v < (n + 1 : Nat) then j + 1 + v else pyT n (v - (n + 1 : Nat)) (j + 1)
def asN (a N B : Int) : Int := if a = 0 then B else if a = 1 then tri (N - 1).toNat else N
def asX (c : Nat → Nat → Int) (m a k : Int) : Int := if a = 0 then c 143 (30 + 30 * m + 2 * k).toNat else if a = 2 then k else pxT (c 143 (20 + m).toNat - 1).toNat k 0
def asY (c : Nat → Nat → Int) (m a k : Int) : Int := if a = 0 then c 143 (30 + 30 * m + 2 * k + 1).toNat else if a = 2 then k else pyT (c 143 (20 + m).toNat - 1).toNat k 0
theorem tri_ok : ∀ n, n < 6 → tri (n + 1) = ((n + 2 : Nat) : Int) * ((n + 2 : Nat) - 1) / 2 ∧ 0 ≤ tri (n + 1) ∧ tri (n + 1) ≤ 21 := by decide +kernel
theorem pxy_ok : ∀ n, n < 6 → ∀ v, v < 21 → ((v : Nat) : Int) < tri (n + 1) → (0 ≤ pxT (n + 1) v 0 ∧ pxT (n + 1) v 0 < pyT (n + 1) v 0 ∧ pyT (n + 1) v 0 < (n + 2 : Nat)) ∧ pyT (n + 1) v 0 = pxT (n + 1) v 0 + 1 + v - sumU (fun i => ((n + 1 : Nat) : Int) - i) (pxT (n + 1) v 0).toNat 0 := by decide +kernel
theorem pxy {N v : Int} (h0 : 2 ≤ N) (h1 : N ≤ 7) (hv : 0 ≤ v) (hv2 : v < tri (N - 1).toNat) : (0 ≤ pxT (N - 1).toNat v 0 ∧ pxT (N - 1).toNat v 0 < pyT (N - 1).toNat v 0 ∧ pyT (N - 1).toNat v 0 < N) ∧ pyT (N - 1).toNat v 0 = pxT (N - 1).toNat v 0 + 1 + v - sumU (fun i => N - 1 - i) (pxT (N - 1).toNat v 0).toNat 0 := by
  have e : (N - 1).toNat = (N - 2).toNat + 1 := by omega
  have b := tri_ok (N - 2).toNat (by omega)
  rw [← e] at b
  have g := pxy_ok (N - 2).toNat (by omega) v.toNat (by omega) (by rw [Int.toNat_of_nonneg hv, ← e]; exact hv2)
  rw [Int.toNat_of_nonneg hv, ← e, show (((N - 1).toNat : Nat) : Int) = N - 1 by omega, show (((N - 2).toNat + 2 : Nat) : Int) = N by omega] at g
  exact g
section
variable {s : List (Nat × Nat)} {c : Nat → Nat → Int}
theorem m224 (d : Nat) (hs : SpL s) (hm : MS c) {m a : Int} (hk : MapOK c m) (ha : c 142 26 = a) (ha2 : 0 ≤ a ∧ a ≤ 2) : Cd (d + 1) 224 [vA 142, vI m] (s, c) = some ([vI (asN a (c 143 (20 + m).toNat) (c 143 (24 + m).toNat))], (s, c)) := by
  obtain ⟨⟨k0, k1⟩, ⟨k2, k3⟩, ⟨k4, k5⟩, k6⟩ := hk
  have w1 : w32 (20 + m) = 20 + m := w32_id (by omega) (by omega)
  have w2 : w32 (24 + m) = 24 + m := w32_id (by omega) (by omega)
  rw [c224 (hg := gC142 hs c)]; unfold asN
  repeat (first | rw [bnd_s] | rw [tI_m] | rw [tL_m] | rw [tA_m] | rw [tV_m] | rw [fC142 hs _ (by decide)] | rw [pC142 hs _ _ (by decide)] | rw [MS_0 hm] | rw [MS_1 hm] | rw [MS_2 hm] | rw [MS_3 hm] | rw [MS_4 hm] | rw [MS_5 hm] | rw [MS_7 hm] | rw [MS_8 hm] | rw [MS_21 hm] | rw [MS_29 hm] | rw [MS_30 hm] | rw [MS_31 hm] | rw [MS_37 hm] | rw [MS_38 hm] | rw [MS_39 hm] | rw [MS_40 hm] | rw [ha] | rw [w1] | rw [aC143 hs _ (show 0 ≤ 20 + m by omega) (by omega)])
  by_cases h0 : a = 0
  · rw [if_pos h0, if_pos h0]
    repeat (first | rw [bnd_s] | rw [tI_m] | rw [tL_m] | rw [tA_m] | rw [tV_m] | rw [fC142 hs _ (by decide)] | rw [pC142 hs _ _ (by decide)] | rw [MS_0 hm] | rw [MS_1 hm] | rw [MS_2 hm] | rw [MS_3 hm] | rw [MS_4 hm] | rw [MS_5 hm] | rw [MS_7 hm] | rw [MS_8 hm] | rw [MS_21 hm] | rw [MS_29 hm] | rw [MS_30 hm] | rw [MS_31 hm] | rw [MS_37 hm] | rw [MS_38 hm] | rw [MS_39 hm] | rw [MS_40 hm] | rw [w2] | rw [aC143 hs _ (show 0 ≤ 24 + m by omega) (by omega)] | rw [c224_30])
  · rw [if_neg h0, if_neg h0]
    by_cases h1 : a = 1
    · rw [if_pos h1]
      repeat (first | rw [bnd_s] | rw [tI_m] | rw [tL_m] | rw [tA_m] | rw [tV_m] | rw [fC142 hs _ (by decide)] | rw [pC142 hs _ _ (by decide)] | rw [MS_0 hm] | rw [MS_1 hm] | rw [MS_2 hm] | rw [MS_3 hm] | rw [MS_4 hm] | rw [MS_5 hm] | rw [MS_7 hm] | rw [MS_8 hm] | rw [MS_21 hm] | rw [MS_29 hm] | rw [MS_30 hm] | rw [MS_31 hm] | rw [MS_37 hm] | rw [MS_38 hm] | rw [MS_39 hm] | rw [MS_40 hm] | rw [ha] | rw [if_pos h1])
      have b := tri_ok (c 143 (20 + m).toNat - 2).toNat (by omega)
      rw [show (c 143 (20 + m).toNat - 2).toNat + 1 = (c 143 (20 + m).toNat - 1).toNat by omega, show (((c 143 (20 + m).toNat - 2).toNat + 2 : Nat) : Int) = c 143 (20 + m).toNat by omega] at b
      generalize c 143 (20 + m).toNat = N at *
      have b2 := mulB (x := 7) (y := 6) (show 0 ≤ N by omega) (show 0 ≤ N - 1 by omega) (by omega) (by omega)
      rw [c224_30, w32_id (z := N - 1) (by omega) (by omega), w32_id (z := N * (N - 1)) (by omega) (by omega), idiv_n b2.1 (by omega) (by decide) (by decide), b.1]
    · rw [if_neg h1]
      repeat (first | rw [bnd_s] | rw [tI_m] | rw [tL_m] | rw [tA_m] | rw [tV_m] | rw [fC142 hs _ (by decide)] | rw [pC142 hs _ _ (by decide)] | rw [MS_0 hm] | rw [MS_1 hm] | rw [MS_2 hm] | rw [MS_3 hm] | rw [MS_4 hm] | rw [MS_5 hm] | rw [MS_7 hm] | rw [MS_8 hm] | rw [MS_21 hm] | rw [MS_29 hm] | rw [MS_30 hm] | rw [MS_31 hm] | rw [MS_37 hm] | rw [MS_38 hm] | rw [MS_39 hm] | rw [MS_40 hm] | rw [ha] | rw [if_neg h1] | rw [c224_30])
theorem m225_18 (d : Nat) (hs : SpL s) (hm : MS c) {m : Int} (hk : MapOK c m) (o2 : Option AV) : ∀ (n : Nat) (v j : Int), 0 ≤ j → j + n + 1 = c 143 (20 + m).toNat → 0 ≤ v → v < tri n → v ≤ 21 → Rr (Cd d) 225 18 [some (vA 142), some (vI m), o2, some (vI v), some (vI j)] [] (s, c) = some ([vI (pxT n v j)], (s, c))
  | 0, v, j, h0, h, h1, h2, h3 => by simp only [tri] at h2; omega
  | n + 1, v, j, h0, h, h1, h2, h3 => by
    obtain ⟨⟨k0, k1⟩, ⟨k2, k3⟩, -⟩ := id hk
    have w1 : w32 (20 + m) = 20 + m := w32_id (by omega) (by omega)
    simp only [tri] at h2
    rw [c225_18]
    repeat (first | rw [bnd_s] | rw [tI_m] | rw [tL_m] | rw [tA_m] | rw [tV_m] | rw [fC142 hs _ (by decide)] | rw [pC142 hs _ _ (by decide)] | rw [MS_0 hm] | rw [MS_1 hm] | rw [MS_2 hm] | rw [MS_3 hm] | rw [MS_4 hm] | rw [MS_5 hm] | rw [MS_7 hm] | rw [MS_8 hm] | rw [MS_21 hm] | rw [MS_29 hm] | rw [MS_30 hm] | rw [MS_31 hm] | rw [MS_37 hm] | rw [MS_38 hm] | rw [MS_39 hm] | rw [MS_40 hm] | rw [w1] | rw [aC143 hs _ (show 0 ≤ 20 + m by omega) (by omega)] | rw [w32_id (z := c 143 (20 + m).toNat - 1) (by omega) (by omega)] | rw [w32_id (z := c 143 (20 + m).toNat - 1 - j) (by omega) (by omega)])
    simp only [pxT]
    by_cases g : v < c 143 (20 + m).toNat - 1 - j
    · rw [if_pos g, if_pos (by omega)]
    · rw [if_neg g, if_neg (by omega)]
      have ih := m225_18 d hs hm hk o2 n (v - (n + 1 : Nat)) (j + 1) (by omega) (by omega) (by omega) (by omega) (by omega)
      repeat (first | rw [bnd_s] | rw [tI_m] | rw [tL_m] | rw [tA_m] | rw [tV_m] | rw [fC142 hs _ (by decide)] | rw [pC142 hs _ _ (by decide)] | rw [MS_0 hm] | rw [MS_1 hm] | rw [MS_2 hm] | rw [MS_3 hm] | rw [MS_4 hm] | rw [MS_5 hm] | rw [MS_7 hm] | rw [MS_8 hm] | rw [MS_21 hm] | rw [MS_29 hm] | rw [MS_30 hm] | rw [MS_31 hm] | rw [MS_37 hm] | rw [MS_38 hm] | rw [MS_39 hm] | rw [MS_40 hm] | rw [w1] | rw [aC143 hs _ (show 0 ≤ 20 + m by omega) (by omega)] | rw [w32_id (z := c 143 (20 + m).toNat - 1) (by omega) (by omega)] | rw [w32_id (z := c 143 (20 + m).toNat - 1 - j) (by omega) (by omega)] | rw [w32_id (z := j + 1) (by omega) (by omega)])
      rw [show c 143 (20 + m).toNat - 1 - j = ((n + 1 : Nat) : Int) by omega, w32_id (by omega) (by omega)]
      exact ih
theorem asN_b {a N B : Int} (h0 : 2 ≤ N) (h1 : N ≤ 7) (b0 : 0 ≤ B) (b1 : B ≤ 15) : 0 ≤ asN a N B ∧ asN a N B ≤ 21 := by
  have b := tri_ok (N - 2).toNat (by omega)
  rw [show (N - 2).toNat + 1 = (N - 1).toNat by omega] at b
  unfold asN
  split
  · omega
  · split
    · exact b.2
    · omega
theorem m225 (d : Nat) (hs : SpL s) (hm : MS c) {m a k : Int} (hk : MapOK c m) (ha : c 142 26 = a) (ha2 : 0 ≤ a ∧ a ≤ 2) (h0 : 0 ≤ k) (h1 : k < asN a (c 143 (20 + m).toNat) (c 143 (24 + m).toNat)) : Cd (d + 2) 225 [vA 142, vI m, vI k] (s, c) = some ([vI (asX c m a k)], (s, c)) := by
  obtain ⟨⟨k0, k1⟩, ⟨k2, k3⟩, ⟨k4, k5⟩, k6⟩ := id hk
  have ab := asN_b (a := a) k2 k3 k4 k5
  rw [c225 (hg := gC142 hs c)]; unfold asX; unfold asN at h1 ab
  repeat (first | rw [bnd_s] | rw [tI_m] | rw [tL_m] | rw [tA_m] | rw [tV_m] | rw [fC142 hs _ (by decide)] | rw [pC142 hs _ _ (by decide)] | rw [MS_0 hm] | rw [MS_1 hm] | rw [MS_2 hm] | rw [MS_3 hm] | rw [MS_4 hm] | rw [MS_5 hm] | rw [MS_7 hm] | rw [MS_8 hm] | rw [MS_21 hm] | rw [MS_29 hm] | rw [MS_30 hm] | rw [MS_31 hm] | rw [MS_37 hm] | rw [MS_38 hm] | rw [MS_39 hm] | rw [MS_40 hm] | rw [ha])
  by_cases g0 : a = 0
  · rw [if_pos g0] at h1 ab
    rw [if_pos g0, if_pos g0, m176 _ hs hm k0 k1 h0 (by omega)]; rfl
  · rw [if_neg g0] at h1 ab
    rw [if_neg g0, if_neg g0]
    repeat (first | rw [bnd_s] | rw [tI_m] | rw [tL_m] | rw [tA_m] | rw [tV_m] | rw [fC142 hs _ (by decide)] | rw [pC142 hs _ _ (by decide)] | rw [MS_0 hm] | rw [MS_1 hm] | rw [MS_2 hm] | rw [MS_3 hm] | rw [MS_4 hm] | rw [MS_5 hm] | rw [MS_7 hm] | rw [MS_8 hm] | rw [MS_21 hm] | rw [MS_29 hm] | rw [MS_30 hm] | rw [MS_31 hm] | rw [MS_37 hm] | rw [MS_38 hm] | rw [MS_39 hm] | rw [MS_40 hm] | rw [ha])
    by_cases g2 : a = 2
    · rw [if_pos g2, if_pos g2]
    · rw [if_pos (show a = 1 by omega)] at h1 ab
      rw [if_neg g2, if_neg g2, m225_18 _ hs hm hk _ (c 143 (20 + m).toNat - 1).toNat k 0 (by omega) (by omega) h0 h1 (by omega)]
theorem m226_18 (d : Nat) (hs : SpL s) (hm : MS c) {m a k : Int} (hk : MapOK c m) (ha : c 142 26 = a) (ha2 : a = 1) (h0 : 0 ≤ k) (h1 : k < tri (c 143 (20 + m).toNat - 1).toNat) : ∀ (n : Nat) (j v : Int), 0 ≤ j → j + n = pxT (c 143 (20 + m).toNat - 1).toNat k 0 → 0 ≤ v → v ≤ 6 * j → Rr (Cd (d + 2)) 226 18 [some (vA 142), some (vI m), some (vI k), some (vI v), some (vI j)] [] (s, c) = some ([vI (pxT (c 143 (20 + m).toNat - 1).toNat k 0 + 1 + k - (v + sumU (fun i => c 143 (20 + m).toNat - 1 - i) n j))], (s, c))
  | 0, j, v, hj, h, hv, hv2 => by
    obtain ⟨⟨k0, k1⟩, ⟨k2, k3⟩, ⟨k4, k5⟩, k6⟩ := id hk
    have p := (pxy k2 k3 h0 h1).1
    have ab := asN_b (a := a) k2 k3 k4 k5
    have e : asN a (c 143 (20 + m).toNat) (c 143 (24 + m).toNat) = tri (c 143 (20 + m).toNat - 1).toNat := by unfold asN; rw [if_neg (by omega), if_pos ha2]
    have q : Cd (d + 2) 225 [vA 142, vI m, vI k] (s, c) = some ([vI (pxT (c 143 (20 + m).toNat - 1).toNat k 0)], (s, c)) := by
      rw [m225 d hs hm hk ha (by omega) h0 (by rw [e]; exact h1)]; unfold asX; rw [if_neg (by omega), if_neg (by omega)]
    rw [e] at ab
    rw [c226_18]
    repeat (first | rw [bnd_s] | rw [tI_m] | rw [tL_m] | rw [tA_m] | rw [tV_m] | rw [q])
    generalize pxT (c 143 (20 + m).toNat - 1).toNat k 0 = X at *
    rw [if_neg (show ¬ j < X by omega)]
    simp only [sumU]
    rw [w32_id (z := X + 1) (by omega) (by omega), w32_id (z := X + 1 + k) (by omega) (by omega), w32_id (by omega) (by omega), Int.add_zero]
  | n + 1, j, v, hj, h, hv, hv2 => by
    obtain ⟨⟨k0, k1⟩, ⟨k2, k3⟩, ⟨k4, k5⟩, k6⟩ := id hk
    have p := (pxy k2 k3 h0 h1).1
    have e : asN a (c 143 (20 + m).toNat) (c 143 (24 + m).toNat) = tri (c 143 (20 + m).toNat - 1).toNat := by unfold asN; rw [if_neg (by omega), if_pos ha2]
    have q : Cd (d + 2) 225 [vA 142, vI m, vI k] (s, c) = some ([vI (pxT (c 143 (20 + m).toNat - 1).toNat k 0)], (s, c)) := by
      rw [m225 d hs hm hk ha (by omega) h0 (by rw [e]; exact h1)]; unfold asX; rw [if_neg (by omega), if_neg (by omega)]
    have ih := m226_18 d hs hm hk ha ha2 h0 h1 n (j + 1) (v + (c 143 (20 + m).toNat - 1 - j)) (by omega) (by omega) (by omega) (by omega)
    have w1 : w32 (20 + m) = 20 + m := w32_id (by omega) (by omega)
    rw [c226_18]
    repeat (first | rw [bnd_s] | rw [tI_m] | rw [tL_m] | rw [tA_m] | rw [tV_m] | rw [fC142 hs _ (by decide)] | rw [pC142 hs _ _ (by decide)] | rw [MS_0 hm] | rw [MS_1 hm] | rw [MS_2 hm] | rw [MS_3 hm] | rw [MS_4 hm] | rw [MS_5 hm] | rw [MS_7 hm] | rw [MS_8 hm] | rw [MS_21 hm] | rw [MS_29 hm] | rw [MS_30 hm] | rw [MS_31 hm] | rw [MS_37 hm] | rw [MS_38 hm] | rw [MS_39 hm] | rw [MS_40 hm] | rw [q] | rw [if_pos (show j < pxT (c 143 (20 + m).toNat - 1).toNat k 0 by omega)] | rw [w1] | rw [aC143 hs _ (show 0 ≤ 20 + m by omega) (by omega)] | rw [w32_id (z := c 143 (20 + m).toNat - 1) (by omega) (by omega)] | rw [w32_id (z := c 143 (20 + m).toNat - 1 - j) (by omega) (by omega)] | rw [w32_id (z := j + 1) (by omega) (by omega)] | rw [w32_id (z := v + (c 143 (20 + m).toNat - 1 - j)) (by omega) (by omega)])
    simp only [sumU]
    rw [ih, Int.add_assoc v]
theorem m226 (d : Nat) (hs : SpL s) (hm : MS c) {m a k : Int} (hk : MapOK c m) (ha : c 142 26 = a) (ha2 : 0 ≤ a ∧ a ≤ 2) (h0 : 0 ≤ k) (h1 : k < asN a (c 143 (20 + m).toNat) (c 143 (24 + m).toNat)) : Cd (d + 3) 226 [vA 142, vI m, vI k] (s, c) = some ([vI (asY c m a k)], (s, c)) := by
  obtain ⟨⟨k0, k1⟩, ⟨k2, k3⟩, ⟨k4, k5⟩, k6⟩ := id hk
  have ab := asN_b (a := a) k2 k3 k4 k5
  rw [c226 (hg := gC142 hs c)]; unfold asY; unfold asN at h1 ab
  repeat (first | rw [bnd_s] | rw [tI_m] | rw [tL_m] | rw [tA_m] | rw [tV_m] | rw [fC142 hs _ (by decide)] | rw [pC142 hs _ _ (by decide)] | rw [MS_0 hm] | rw [MS_1 hm] | rw [MS_2 hm] | rw [MS_3 hm] | rw [MS_4 hm] | rw [MS_5 hm] | rw [MS_7 hm] | rw [MS_8 hm] | rw [MS_21 hm] | rw [MS_29 hm] | rw [MS_30 hm] | rw [MS_31 hm] | rw [MS_37 hm] | rw [MS_38 hm] | rw [MS_39 hm] | rw [MS_40 hm] | rw [ha])
  by_cases g0 : a = 0
  · rw [if_pos g0] at h1 ab
    rw [if_pos g0, if_pos g0, m177 _ hs hm k0 k1 h0 (by omega)]; rfl
  · rw [if_neg g0] at h1 ab
    rw [if_neg g0, if_neg g0]
    repeat (first | rw [bnd_s] | rw [tI_m] | rw [tL_m] | rw [tA_m] | rw [tV_m] | rw [fC142 hs _ (by decide)] | rw [pC142 hs _ _ (by decide)] | rw [MS_0 hm] | rw [MS_1 hm] | rw [MS_2 hm] | rw [MS_3 hm] | rw [MS_4 hm] | rw [MS_5 hm] | rw [MS_7 hm] | rw [MS_8 hm] | rw [MS_21 hm] | rw [MS_29 hm] | rw [MS_30 hm] | rw [MS_31 hm] | rw [MS_37 hm] | rw [MS_38 hm] | rw [MS_39 hm] | rw [MS_40 hm] | rw [ha])
    by_cases g2 : a = 2
    · rw [if_pos g2, if_pos g2]
    · rw [if_pos (show a = 1 by omega)] at h1 ab
      have p := pxy k2 k3 h0 h1
      rw [if_neg g2, if_neg g2, m226_18 d hs hm hk ha (by omega) h0 h1 (pxT (c 143 (20 + m).toNat - 1).toNat k 0).toNat 0 0 (by omega) (by omega) (by omega) (by omega), p.2, Int.zero_add]
end
