/-! refusing, filled -/
def rfD (b c : Nat → Nat → Int) (t : Int) : Prop := ∀ j, 0 ≤ j → j < t → c 136 j.toNat = iand (rfA (b 134 (j / 9).toNat) (j % 9) 6 0 0) (b 131 6)
/-- nothing but the refusing swaps has changed -/
def PlG (b c : Nat → Nat → Int) : Prop := ∀ o i, o ≠ 136 → c o i = b o i
theorem PlG.pl {b c : Nat → Nat → Int} (h : PlG b c) : PlF b c := fun o i _ _ h3 => h o i h3
section
variable {s : List (Nat × Nat)} {b : Nat → Nat → Int}
theorem k50_8 (d : Nat) {n0 : Nat} (hI : Inv s b n0) {i T : Int} (i0 : 0 ≤ i) (i1 : i < 21) (hb : 0 ≤ b 134 i.toNat ∧ b 134 i.toNat < 512) (K : ∀ c, PlG b c → rfD b c (9 * (i + 1)) → ∀ o2 o3 o4, ∃ c', Rr (Cd (d + 2)) 50 2 [some (vA 131), some (vI (i + 1)), o2, o3, o4] [] (s, c) = some ([], (s, c')) ∧ PlG b c' ∧ rfD b c' T) : ∀ (n : Nat) (o : Int) (c : Nat → Nat → Int), PlG b c → 0 ≤ o → o + n = 9 → rfD b c (9 * i + o) → ∀ o3 o4, ∃ c', Rr (Cd (d + 2)) 50 8 [some (vA 131), some (vI i), some (vI o), o3, o4] [] (s, c) = some ([], (s, c')) ∧ PlG b c' ∧ rfD b c' T
  | 0, o, c, hF, h0, h, hD, o3, o4 => by
    obtain ⟨c', r, f, g⟩ := K c hF (by rw [show 9 * (i + 1) = 9 * i + o by omega]; exact hD) (some (vI o)) o3 o4
    refine ⟨c', ?_, f, g⟩
    rw [c50_8, if_neg (by omega), w32_id (by omega) (by omega)]; exact r
  | n + 1, o, c, hF, h0, h, hD, o3, o4 => by
    have hI1 := hF.pl.inv hI
    have hs := hI1.1.l
    have hc := hI1.2.2.2.1
    have e4 : c 134 i.toNat = b 134 i.toNat := hF _ _ (by omega)
    have e6 : c 131 6 = b 131 6 := hF _ _ (by omega)
    have q := k50_15 d hs hI1.2.1 hc i0 i1 (by rw [e4]; exact hb) h0 (show o < 9 by omega) 6 0 0 (by decide) (by decide)
    rw [e4] at q
    have hF2 : PlG b (u2 c 136 (i * 9 + o).toNat (iand (rfA (b 134 i.toNat) o 6 0 0) (b 131 6))) := fun x j h1 => by rw [u2_n (by omega)]; exact hF x j h1
    have hD2 : rfD b (u2 c 136 (i * 9 + o).toNat (iand (rfA (b 134 i.toNat) o 6 0 0) (b 131 6))) (9 * i + (o + 1)) := fun j j0 j1 => by
      by_cases w : j = i * 9 + o
      · rw [w, u2_e, show (i * 9 + o) / 9 = i by omega, show (i * 9 + o) % 9 = o by omega]
      · rw [u2_n (by omega)]; exact hD j j0 (by omega)
    obtain ⟨c', r, f, g⟩ := k50_8 d hI i0 i1 hb K n (o + 1) _ hF2 (by omega) (by omega) hD2 (some (vI (rfA (b 134 i.toNat) o 6 0 0))) (some (vI 6))
    refine ⟨c', ?_, f, g⟩
    rw [c50_8, if_pos (by omega), q, c50_15, if_neg (by decide)]
    repeat (first | rw [bnd_s] | rw [tI_m] | rw [tL_m] | rw [tA_m] | rw [tV_m] | rw [fC131 hs _ (by decide)] | rw [pC131 hs _ _ (by decide)] | rw [CS_131_4 hc] | rw [e6] | rw [w32_id (z := i * 9) (by omega) (by omega)] | rw [w32_id (z := i * 9 + o) (by omega) (by omega)] | rw [qC136 hs _ _ (show 0 ≤ i * 9 + o by omega) (by omega)] | rw [w32_id (z := o + 1) (by omega) (by omega)])
    exact r
theorem k50_2 (d : Nat) {n0 : Nat} (hI : Inv s b n0) {k : Nat} {m : Int} (hP : PlayR b k m) (hA : asN (b 145 (800 * k + 3)) (b 143 (20 + m).toNat) (b 143 (24 + m).toNat) ≤ 21) : ∀ (n : Nat) (i : Int) (c : Nat → Nat → Int), PlG b c → 0 ≤ i → i + n = asN (b 145 (800 * k + 3)) (b 143 (20 + m).toNat) (b 143 (24 + m).toNat) → rfD b c (9 * i) → ∀ o2 o3 o4, ∃ c', Rr (Cd (d + 2)) 50 2 [some (vA 131), some (vI i), o2, o3, o4] [] (s, c) = some ([], (s, c')) ∧ PlG b c' ∧ rfD b c' (9 * (asN (b 145 (800 * k + 3)) (b 143 (20 + m).toNat) (b 143 (24 + m).toNat)))
  | 0, i, c, hF, h0, h, hD, o2, o3, o4 => by
    have hs := hI.1.l
    have p8 : c 131 8 = asN (b 145 (800 * k + 3)) (b 143 (20 + m).toNat) (b 143 (24 + m).toNat) := (hF _ _ (by omega)).trans hP.2.2.2.1
    refine ⟨c, ?_, hF, by rw [show asN (b 145 (800 * k + 3)) (b 143 (20 + m).toNat) (b 143 (24 + m).toNat) = i by omega]; exact hD⟩
    rw [c50_2]
    repeat (first | rw [bnd_s] | rw [tI_m] | rw [tL_m] | rw [tA_m] | rw [tV_m] | rw [fC131 hs _ (by decide)] | rw [pC131 hs _ _ (by decide)] | rw [p8] | rw [if_neg (show ¬ i < asN (b 145 (800 * k + 3)) (b 143 (20 + m).toNat) (b 143 (24 + m).toNat) by omega)])
  | n + 1, i, c, hF, h0, h, hD, o2, o3, o4 => by
    have hs := hI.1.l
    have p8 : c 131 8 = asN (b 145 (800 * k + 3)) (b 143 (20 + m).toNat) (b 143 (24 + m).toNat) := (hF _ _ (by omega)).trans hP.2.2.2.1
    have g := hP.2.2.2.2 i h0 (by omega)
    obtain ⟨c', r, f, x⟩ := k50_8 d hI h0 (by omega) g.2.2.1 (fun c1 f1 d1 => k50_2 d hI hP hA n (i + 1) c1 f1 (by omega) (by omega) d1) 9 0 c hF (by decide) (by decide) (by rw [Int.add_zero]; exact hD) o3 o4
    refine ⟨c', ?_, f, x⟩
    rw [c50_2]
    repeat (first | rw [bnd_s] | rw [tI_m] | rw [tL_m] | rw [tA_m] | rw [tV_m] | rw [fC131 hs _ (by decide)] | rw [pC131 hs _ _ (by decide)] | rw [p8] | rw [if_pos (show i < asN (b 145 (800 * k + 3)) (b 143 (20 + m).toNat) (b 143 (24 + m).toNat) by omega)])
    exact r
end
