/-! the SWAPS that are drawn -/
def drS (w v : Int) : Int := if w = 3 ∧ 0 < v then v + 1 else v
theorem m223 (d : Nat) {s : List (Nat × Nat)} {c : Nat → Nat → Int} (hs : SpL s) {w v : Int} (hw : c 142 25 = w) (h0 : 0 ≤ v) (h1 : v < 6) : Cd (d + 1) 223 [vA 142, vI v] (s, c) = some ([vI (drS w v)], (s, c)) := by
  rw [c223 (hg := gC142 hs c)]; unfold drS
  repeat (first | rw [bnd_s] | rw [tI_m] | rw [tL_m] | rw [tA_m] | rw [tV_m] | rw [fC142 hs _ (by decide)] | rw [pC142 hs _ _ (by decide)] | rw [hw])
  by_cases h : w = 3
  · rw [if_pos h]
    by_cases g : 0 < v
    · rw [if_pos g, if_pos ⟨h, g⟩, c223_11, w32_id (by omega) (by omega)]
    · rw [if_neg g, if_neg (fun q => g q.2), c223_10, c223_11]
  · rw [if_neg h, if_neg (fun q => h q.1), c223_10, c223_11]
theorem drS_b {w v : Int} (hw : w = 1 ∨ w = 2 ∨ w = 3 ∨ w = 6) (h0 : 0 ≤ v) (h1 : v < w) : 0 ≤ drS w v ∧ drS w v < 6 := by unfold drS; split <;> omega
