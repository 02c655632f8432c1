/-! refusing -/
def rfA (x o : Int) : Nat → Int → Int → Int
  | 0, _, a => a
  | n + 1, w, a => rfA x o n (w + 1) (if bt x (swO o w) then a else ior a (ishl 1 w))
theorem swO_ok : ∀ o, o < 9 → ∀ w, w < 6 → 0 ≤ swO (o : Nat) (w : Nat) ∧ swO (o : Nat) (w : Nat) < 9 := by decide +kernel
theorem swO_b {o w : Int} (h0 : 0 ≤ o) (h1 : o < 9) (w0 : 0 ≤ w) (w1 : w < 6) : 0 ≤ swO o w ∧ swO o w < 9 := by
  have := swO_ok o.toNat (by omega) w.toNat (by omega)
  rw [Int.toNat_of_nonneg h0, Int.toNat_of_nonneg w0] at this
  exact this
section
variable {s : List (Nat × Nat)} {c : Nat → Nat → Int}
theorem k50_15 (d : Nat) (hs : SpL s) (hx : Xt c) (hc : CS c) {i o : Int} (i0 : 0 ≤ i) (i1 : i < 21) (hb : 0 ≤ c 134 i.toNat ∧ c 134 i.toNat < 512) (o0 : 0 ≤ o) (o1 : o < 9) : ∀ (n : Nat) (w a : Int), 0 ≤ w → w + n = 6 → Rr (Cd (d + 2)) 50 15 [some (vA 131), some (vI i), some (vI o), some (vI a), some (vI w)] [] (s, c) = Rr (Cd (d + 2)) 50 15 [some (vA 131), some (vI i), some (vI o), some (vI (rfA (c 134 i.toNat) o n w a)), some (vI 6)] [] (s, c)
  | 0, w, a, h0, h => by rw [show w = 6 by omega]; rfl
  | n + 1, w, a, h0, h => by
    have sb := swO_b o0 o1 h0 (show w < 6 by omega)
    have ih := fun a => k50_15 d hs hx hc i0 i1 hb o0 o1 n (w + 1) a (by omega) (by omega)
    simp only [rfA]
    rw [c50_15, if_pos (show w < 6 by omega)]
    repeat (first | rw [bnd_s] | rw [tI_m] | rw [tL_m] | rw [tA_m] | rw [tV_m] | rw [k168 _ hs hx h0 (show w < 6 by omega) o0 o1] | rw [c48 (hg := gC131 hs _)] | rw [fC131 hs _ (by decide)] | rw [pC131 hs _ _ (by decide)] | rw [CS_131_2 hc] | rw [aC134 hs _ i0 (by omega)] | rw [k169 _ _ hb.1 (by omega) sb.1 (by omega)] | rw [if_pos (b2i_o _)] | rw [if_b0])
    cases bt (c 134 i.toNat) (swO o w)
    · rw [cond_f, c50_31, w32_id (by omega) (by omega), ih]; rfl
    · rw [cond_t, c50_31, w32_id (by omega) (by omega), ih]; rfl
end
