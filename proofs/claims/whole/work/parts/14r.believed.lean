/-! what is believed, as the reference says it -/
theorem asX_of {c c' : Nat → Nat → Int} (e : c' 143 = c 143) (m a k : Int) : asX c' m a k = asX c m a k := by unfold asX; rw [e]
theorem asY_of {c c' : Nat → Nat → Int} (e : c' 143 = c 143) (m a k : Int) : asY c' m a k = asY c m a k := by unfold asY; rw [e]
def mSet (c : Nat → Nat → Int) (k : Nat) : Nat → Nat → Int := u2 (u2 (u2 (u2 c 142 25 (c 145 (800 * k + 1))) 142 28 (c 145 (800 * k + 2))) 142 26 (c 145 (800 * k + 3))) 142 27 k
theorem mSet_o {c : Nat → Nat → Int} {k o i : Nat} (h : o ≠ 142 ∨ i < 25 ∨ 28 < i) : mSet c k o i = c o i := by
  unfold mSet; rw [u2_n (by omega), u2_n (by omega), u2_n (by omega), u2_n (by omega)]
theorem mSet_25 (c : Nat → Nat → Int) (k : Nat) : mSet c k 142 25 = c 145 (800 * k + 1) := by unfold mSet; rw [u2_n (by omega), u2_n (by omega), u2_n (by omega), u2_e]
theorem mSet_26 (c : Nat → Nat → Int) (k : Nat) : mSet c k 142 26 = c 145 (800 * k + 3) := by unfold mSet; rw [u2_n (by omega), u2_e]
theorem mSet_27 (c : Nat → Nat → Int) (k : Nat) : mSet c k 142 27 = k := by unfold mSet; rw [u2_e]
theorem mSet_28 (c : Nat → Nat → Int) (k : Nat) : mSet c k 142 28 = c 145 (800 * k + 2) := by unfold mSet; rw [u2_n (by omega), u2_n (by omega), u2_e]
theorem mSet_F (c : Nat → Nat → Int) (k : Nat) : Fm [] [25, 26, 27, 28] c (mSet c k) := by
  refine ⟨fun o _ ho => funext fun i => mSet_o (Or.inl ho), fun i hi => mSet_o (Or.inr ?_)⟩
  simp only [List.mem_cons, List.not_mem_nil, or_false, not_or] at hi
  omega
section
variable {s : List (Nat × Nat)} {c : Nat → Nat → Int}
theorem m222 (d : Nat) (hs : SpL s) (hm : MS c) {k : Nat} (hk : k < 8) (ho : c 145 (800 * k + 2) = 0 ∨ c 145 (800 * k + 2) = 1) : Cd (d + 1) 222 [vA 142, vI (k : Int)] (s, c) = some ([], (s, mSet c k)) := by
  have e1 : (800 * (k : Int) + 1).toNat = 800 * k + 1 := by omega
  have e2 : (800 * (k : Int) + 2).toNat = 800 * k + 2 := by omega
  have e3 : (800 * (k : Int) + 3).toNat = 800 * k + 3 := by omega
  have W0 : w32 (800 * (k : Int)) = 800 * (k : Int) := w32_id (by omega) (by omega)
  have W1 : w32 (800 * (k : Int) + 1) = 800 * (k : Int) + 1 := w32_id (by omega) (by omega)
  have W2 : w32 (800 * (k : Int) + 2) = 800 * (k : Int) + 2 := w32_id (by omega) (by omega)
  have W3 : w32 (800 * (k : Int) + 3) = 800 * (k : Int) + 3 := w32_id (by omega) (by omega)
  rw [c222 (hg := gC142 hs c)]; unfold mSet
  repeat (first | rw [bnd_s] | rw [tI_m] | rw [tL_m] | rw [tA_m] | rw [tV_m] | rw [fC142 hs _ (by decide)] | rw [pC142 hs _ _ (by decide)] | rw [u2_n (by omega)] | rw [MS_2 hm] | rw [W0] | rw [W1] | rw [W2] | rw [W3] | rw [aC145 hs _ (show 0 ≤ 800 * (k : Int) + 1 by omega) (by omega)] | rw [aC145 hs _ (show 0 ≤ 800 * (k : Int) + 2 by omega) (by omega)] | rw [aC145 hs _ (show 0 ≤ 800 * (k : Int) + 3 by omega) (by omega)] | rw [e1] | rw [e2] | rw [e3])
  rcases ho with h | h
  · rw [h, if_neg (by decide), c222_24, if_pos (Or.inl rfl)]
    repeat (first | rw [bnd_s] | rw [tI_m] | rw [tL_m] | rw [tA_m] | rw [tV_m] | rw [fC142 hs _ (by decide)] | rw [pC142 hs _ _ (by decide)] | rw [u2_n (by omega)] | rw [MS_2 hm] | rw [W0] | rw [W1] | rw [W2] | rw [W3] | rw [aC145 hs _ (show 0 ≤ 800 * (k : Int) + 1 by omega) (by omega)] | rw [aC145 hs _ (show 0 ≤ 800 * (k : Int) + 2 by omega) (by omega)] | rw [aC145 hs _ (show 0 ≤ 800 * (k : Int) + 3 by omega) (by omega)] | rw [e1] | rw [e2] | rw [e3])
  · rw [h, if_pos rfl, c222_24, if_pos (Or.inr rfl)]
    repeat (first | rw [bnd_s] | rw [tI_m] | rw [tL_m] | rw [tA_m] | rw [tV_m] | rw [fC142 hs _ (by decide)] | rw [pC142 hs _ _ (by decide)] | rw [u2_n (by omega)] | rw [MS_2 hm] | rw [W0] | rw [W1] | rw [W2] | rw [W3] | rw [aC145 hs _ (show 0 ≤ 800 * (k : Int) + 1 by omega) (by omega)] | rw [aC145 hs _ (show 0 ≤ 800 * (k : Int) + 2 by omega) (by omega)] | rw [aC145 hs _ (show 0 ≤ 800 * (k : Int) + 3 by omega) (by omega)] | rw [e1] | rw [e2] | rw [e3])
theorem asX_b {m a k : Int} (hk : MapOK c m) (ha2 : 0 ≤ a ∧ a ≤ 2) (h0 : 0 ≤ k) (h1 : k < asN a (c 143 (20 + m).toNat) (c 143 (24 + m).toNat)) : (0 ≤ asX c m a k ∧ asX c m a k < c 143 (20 + m).toNat) ∧ (0 ≤ asY c m a k ∧ asY c m a k < c 143 (20 + m).toNat) := by
  obtain ⟨⟨k0, k1⟩, ⟨k2, k3⟩, ⟨k4, k5⟩, k6⟩ := hk
  unfold asX asY; unfold asN at h1
  by_cases g0 : a = 0
  · rw [if_pos g0] at h1; rw [if_pos g0, if_pos g0]; exact ⟨(k6 k h0 h1).1, (k6 k h0 h1).2⟩
  · rw [if_neg g0] at h1; rw [if_neg g0, if_neg g0]
    by_cases g2 : a = 2
    · rw [if_neg (by omega)] at h1; rw [if_pos g2, if_pos g2]; exact ⟨⟨h0, h1⟩, h0, h1⟩
    · rw [if_pos (by omega)] at h1; rw [if_neg g2, if_neg g2]
      have p := (pxy k2 k3 h0 h1).1
      omega
theorem m231 (d : Nat) (hs : SpL s) (hm : MS c) {k : Nat} (hk : k < 8) (h27 : c 142 27 = (k : Int)) (hc : codeOK (c 145) k) {m a j p q : Int} (hM : MapOK c m) (ha : c 142 26 = a) (ha2 : 0 ≤ a ∧ a ≤ 2) (h0 : 0 ≤ j) (h1 : j < asN a (c 143 (20 + m).toNat) (c 143 (24 + m).toNat)) (hp : 0 ≤ p ∧ p < 3) (hq : 0 ≤ q ∧ q < 3) : ∃ c', Cd (d + 4) 231 [vA 142, vI m, vI j, vI p, vI q] (s, c) = some ([vI (b2i (jud (c 145) k p q (asX c m a j) (asY c m a j)))], (s, c')) ∧ Fm [152, 153, 154] [] c c' := by
  have W0 : w32 (800 * (k : Int)) = 800 * (k : Int) := w32_id (by omega) (by omega)
  have e0 : (800 * (k : Int)).toNat = 800 * k := by omega
  have xb := asX_b hM ha2 h0 h1
  have xN := hM.2.1
  by_cases g : c 145 (800 * k) = 0
  · refine ⟨c, ?_, Fm.rf _ _ _⟩
    rw [c231 (hg := gC142 hs c)]; unfold jud
    repeat (first | rw [bnd_s] | rw [tI_m] | rw [tL_m] | rw [tA_m] | rw [tV_m] | rw [fC142 hs _ (by decide)] | rw [pC142 hs _ _ (by decide)] | rw [MS_0 hm] | rw [MS_1 hm] | rw [MS_2 hm] | rw [MS_3 hm] | rw [MS_4 hm] | rw [MS_5 hm] | rw [MS_7 hm] | rw [MS_8 hm] | rw [MS_21 hm] | rw [MS_29 hm] | rw [MS_30 hm] | rw [MS_31 hm] | rw [MS_37 hm] | rw [MS_38 hm] | rw [MS_39 hm] | rw [MS_40 hm] | rw [h27] | rw [if_neg (show ¬ (k : Int) = -1 by omega)] | rw [W0] | rw [aC145 hs _ (show 0 ≤ 800 * (k : Int) by omega) (by omega)] | rw [e0] | rw [if_pos g])
    rfl
  · have g1 : c 145 (800 * k) = 1 := hc.1.resolve_left g
    have z : ∃ c1, c1 = u2 (u2 c 152 0 p) 152 1 q := ⟨_, rfl⟩
    obtain ⟨c1, z1⟩ := z
    have f1 : ∀ o i, o ≠ 152 → c1 o i = c o i := fun o i h => by rw [z1, u2_n (by omega), u2_n (by omega)]
    have m1 : c1 143 = c 143 := funext fun i => f1 _ _ (by omega)
    have hm1 : MS c1 := z1 ▸ MS_a (MS_a hm _ (by decide)) _ (by decide)
    have z' : ∃ c2, c2 = u2 c1 152 2 (asX c m a j) := ⟨_, rfl⟩
    obtain ⟨c2, z2⟩ := z'
    have f2 : ∀ o i, o ≠ 152 → c2 o i = c o i := fun o i h => by rw [z2, u2_n (by omega), f1 _ _ h]
    have m2 : c2 143 = c 143 := funext fun i => f2 _ _ (by omega)
    have hm2 : MS c2 := z2 ▸ MS_a hm1 _ (by decide)
    have z'' : ∃ c3, c3 = u2 c2 152 3 (asY c m a j) := ⟨_, rfl⟩
    obtain ⟨c3, z3⟩ := z''
    have f3 : ∀ o i, o ≠ 152 → c3 o i = c o i := fun o i h => by rw [z3, u2_n (by omega), f2 _ _ h]
    have hm3 : MS c3 := z3 ▸ MS_a hm2 _ (by decide)
    have t3 : c3 145 = c 145 := funext fun i => f3 _ _ (by omega)
    have qx := m225 (d + 1) hs hm1 (MapOK_of hM m1) ((f1 142 26 (by omega)).trans ha) ha2 h0 (by rw [m1]; exact h1)
    have qy := m226 d hs hm2 (MapOK_of hM m2) ((f2 142 26 (by omega)).trans ha) ha2 h0 (by rw [m2]; exact h1)
    rw [asX_of m1] at qx
    rw [asY_of m2] at qy
    have hN : ∀ v, 0 ≤ v → v ≤ 3 → c3 152 v.toNat = nmF p q (asX c m a j) (asY c m a j) v := fun v v0 v1 => by
      have : v = 0 ∨ v = 1 ∨ v = 2 ∨ v = 3 := by omega
      rcases this with rfl | rfl | rfl | rfl
      · show c3 152 0 = p; rw [z3, u2_n (by omega), z2, u2_n (by omega), z1, u2_n (by omega), u2_e]
      · show c3 152 1 = q; rw [z3, u2_n (by omega), z2, u2_n (by omega), z1, u2_e]
      · show c3 152 2 = _; rw [z3, u2_n (by omega), z2, u2_e]; rfl
      · show c3 152 3 = _; rw [z3, u2_e]; rfl
    have hnm : ∀ v, 0 ≤ v → v ≤ 3 → -1000000000 ≤ nmF p q (asX c m a j) (asY c m a j) v ∧ nmF p q (asX c m a j) (asY c m a j) v ≤ 1000000000 := fun v _ _ => by
      unfold nmF; split
      · omega
      · split
        · omega
        · split <;> omega
    obtain ⟨u, c4, hu, r4, f4⟩ := m230 d hs hk (n := c 145 (800 * k + 4)) hc.2.1.2 hnm hm3 (t3 ▸ hc) (by rw [t3]; exact g1) (by rw [t3]) hN
    rw [t3] at hu
    have ju : jud (c 145) k p q (asX c m a j) (asY c m a j) = u := by unfold jud; rw [if_neg g, hu]
    refine ⟨c4, ?_, ?_⟩
    · rw [ju, c231 (hg := gC142 hs c)]
      repeat (first | rw [bnd_s] | rw [tI_m] | rw [tL_m] | rw [tA_m] | rw [tV_m] | rw [fC142 hs _ (by decide)] | rw [pC142 hs _ _ (by decide)] | rw [MS_2 hm] | rw [MS_29 hm] | rw [h27] | rw [if_neg (show ¬ (k : Int) = -1 by omega)] | rw [W0] | rw [aC145 hs _ (show 0 ≤ 800 * (k : Int) by omega) (by omega)] | rw [e0] | rw [if_neg g] | rw [qC152 hs _ _ (show (0 : Int) ≤ 0 by decide) (by decide)] | rw [u2_n (by omega)] | rw [qC152 hs _ _ (show (0 : Int) ≤ 1 by decide) (by decide)] | rw [show (0 : Int).toNat = 0 from rfl] | rw [show (1 : Int).toNat = 1 from rfl])
      rw [← z1]
      repeat (first | rw [bnd_s] | rw [tI_m] | rw [tL_m] | rw [tA_m] | rw [tV_m] | rw [fC142 hs _ (by decide)] | rw [pC142 hs _ _ (by decide)] | rw [MS_29 hm1] | rw [qx] | rw [qC152 hs _ _ (show (0 : Int) ≤ 2 by decide) (by decide)] | rw [show (2 : Int).toNat = 2 from rfl])
      rw [← z2]
      repeat (first | rw [bnd_s] | rw [tI_m] | rw [tL_m] | rw [tA_m] | rw [tV_m] | rw [fC142 hs _ (by decide)] | rw [pC142 hs _ _ (by decide)] | rw [MS_29 hm2] | rw [qy] | rw [qC152 hs _ _ (show (0 : Int) ≤ 3 by decide) (by decide)] | rw [show (3 : Int).toNat = 3 from rfl])
      rw [← z3]
      repeat (first | rw [bnd_s] | rw [tI_m] | rw [tL_m] | rw [tA_m] | rw [tV_m] | rw [fC142 hs _ (by decide)] | rw [pC142 hs _ _ (by decide)] | rw [f3 142 27 (by omega)] | rw [h27] | rw [r4] | rw [if_pos (b2i_o _)])
    · refine ⟨fun o ho hb => ?_, fun i _ => (f4.2 i (by simp)).trans (f3 _ _ (by omega))⟩
      rw [f4.1 o (fun h => ho (by simp only [List.mem_cons, List.not_mem_nil, or_false] at h ⊢; omega)) hb]
      exact funext fun i => f3 _ _ (fun h => ho (by rw [h]; decide))
end
