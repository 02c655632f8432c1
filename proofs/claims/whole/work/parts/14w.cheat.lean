/-! the best cheat -/
def mx (f : Int → Int) : Nat → Int → Int → Int → Int × Int
  | 0, _, b, r => (b, r)
  | n + 1, j, b, r => if b < f j then mx f n (j + 1) (f j) j else mx f n (j + 1) b r
theorem mx_top {f : Int → Int} {A : Int} (hf : ∀ j, f j ≤ A) {b : Int} (hb : A ≤ b) (r : Int) : ∀ (n : Nat) (j : Int), mx f n j b r = (b, r)
  | 0, _ => rfl
  | n + 1, j => by
    have := hf j
    simp only [mx]; rw [if_neg (by omega)]; exact mx_top hf hb r n (j + 1)
theorem belR_of {c c' : Nat → Nat → Int} (e3 : c' 143 = c 143) (e5 : c' 145 = c 145) (k : Nat) (m w i r : Int) : belR c' k m w i r = belR c k m w i r := by
  unfold belR; rw [asX_of e3, asY_of e3, e3, e5]
def cntR (b : Nat → Nat → Int) (k : Nat) (m r : Int) : Int := sumU (fun i => b2i (belR b k m 0 i r)) (asN (b 145 (800 * k + 3)) (b 143 (20 + m).toNat) (b 143 (24 + m).toNat)).toNat 0
section
variable {s : List (Nat × Nat)} {b : Nat → Nat → Int}
theorem m236_14 (d : Nat) (hs : SpL s) (hm : MS b) {k : Nat} (hk : k < 8) (h27 : b 142 27 = (k : Int)) (hc : codeOK (b 145) k) {m r : Int} (hM : MapOK b m) (ha : b 142 26 = b 145 (800 * k + 3)) (ha2 : 0 ≤ b 145 (800 * k + 3) ∧ b 145 (800 * k + 3) ≤ 2) (r0 : 0 ≤ r) (r1 : r < 2187) : ∀ (n : Nat) (i a : Int) (c : Nat → Nat → Int), Fm [152, 153, 154] [35, 36] b c → 0 ≤ i → i + n = asN (b 145 (800 * k + 3)) (b 143 (20 + m).toNat) (b 143 (24 + m).toNat) → 0 ≤ a → a ≤ i → ∃ c', Rr (Cd (d + 5)) 236 14 [some (vA 142), some (vI m), some (vI r), some (vI a), some (vI i)] [] (s, c) = Rr (Cd (d + 5)) 236 14 [some (vA 142), some (vI m), some (vI r), some (vI (a + sumU (fun i => b2i (belR b k m 0 i r)) n i)), some (vI (asN (b 145 (800 * k + 3)) (b 143 (20 + m).toNat) (b 143 (24 + m).toNat)))] [] (s, c') ∧ Fm [152, 153, 154] [35, 36] b c' ∧ c' 142 35 = c 142 35 ∧ c' 142 36 = c 142 36
  | 0, i, a, c, hF, h0, h, g0, g1 => ⟨c, by simp only [sumU, Int.add_zero]; rw [show i = asN (b 145 (800 * k + 3)) (b 143 (20 + m).toNat) (b 143 (24 + m).toNat) by omega], hF, rfl, rfl⟩
  | n + 1, i, a, c, hF, h0, h, g0, g1 => by
    have aN := asN_b (a := b 145 (800 * k + 3)) hM.2.1.1 hM.2.1.2 hM.2.2.1.1 hM.2.2.1.2
    have e3 : c 143 = b 143 := hF.1 143 (by decide) (by decide)
    have e5 : c 145 = b 145 := hF.1 145 (by decide) (by decide)
    have hm1 : MS c := MS_of hm (fun w hw => hF.2 _ (by
      have : (mRefs.all fun w => !([35, 36].contains w.1)) = true := by decide
      simpa using List.all_eq_true.mp this w hw)) (hF.1 146 (by decide) (by decide)) (hF.1 147 (by decide) (by decide))
    have hM1 := MapOK_of hM e3
    have a1 : c 142 26 = c 145 (800 * k + 3) := by rw [hF.2 26 (by decide), e5]; exact ha
    have q4 := m224 (d + 4) hs hm1 hM1 a1 (by rw [e5]; exact ha2)
    obtain ⟨c1, q, f⟩ := m232 d hs hm1 hk ((hF.2 27 (by decide)).trans h27) (by rw [e5]; exact hc) hM1 a1 (by rw [e5]; exact ha2) h0 (by rw [e3, e5]; omega) r0 r1 (show (0 : Int) ≤ 0 by decide) (by decide)
    rw [belR_of e3 e5] at q
    rw [e3, e5] at q4
    have bb := b2i_b (belR b k m 0 i r)
    have hF1 : Fm [152, 153, 154] [35, 36] b c1 := hF.tr (f.mono (by decide) (by decide))
    obtain ⟨c2, x1, x2, x3, x4⟩ := m236_14 d hs hm hk h27 hc hM ha ha2 r0 r1 n (i + 1) (a + b2i (belR b k m 0 i r)) c1 hF1 (by omega) (by omega) (by omega) (by omega)
    refine ⟨c2, ?_, x2, x3.trans (f.2 35 (by decide)), x4.trans (f.2 36 (by decide))⟩
    simp only [sumU]
    rw [← Int.add_assoc, ← x1, c236_14]
    repeat (first | rw [bnd_s] | rw [tI_m] | rw [tL_m] | rw [tA_m] | rw [tV_m] | rw [q4] | rw [if_pos (show i < asN (b 145 (800 * k + 3)) (b 143 (20 + m).toNat) (b 143 (24 + m).toNat) by omega)] | rw [q] | rw [if_b0])
    generalize belR b k m 0 i r = B at *
    cases B
    · rw [cond_f, c236_30, b2i_f, w32_id (z := a + 0) (by omega) (by omega), w32_id (z := i + 1) (by omega) (by omega)]
    · rw [cond_t, c236_30, b2i_t, w32_id (z := a + 1) (by omega) (by omega), w32_id (z := i + 1) (by omega) (by omega)]
theorem m236_5 (d : Nat) (hs : SpL s) (hm : MS b) {k : Nat} (hk : k < 8) (h27 : b 142 27 = (k : Int)) (hc : codeOK (b 145) k) {m : Int} (hM : MapOK b m) (ha : b 142 26 = b 145 (800 * k + 3)) (ha2 : 0 ≤ b 145 (800 * k + 3) ∧ b 145 (800 * k + 3) ≤ 2) : ∀ (n : Nat) (r : Int) (c : Nat → Nat → Int), Fm [152, 153, 154] [35, 36] b c → 0 ≤ r → r + n = r3 (b 143 (20 + m).toNat) → ∀ o3 o4, ∃ c', Rr (Cd (d + 5)) 236 5 [some (vA 142), some (vI m), some (vI r), o3, o4] [] (s, c) = some ([], (s, c')) ∧ Fm [152, 153, 154] [35, 36] b c' ∧ c' 142 36 = (mx (cntR b k m) n r (c 142 36) (c 142 35)).1 ∧ c' 142 35 = (mx (cntR b k m) n r (c 142 36) (c 142 35)).2
  | 0, r, c, hF, h0, h, o3, o4 => by
    have e3 : c 143 = b 143 := hF.1 143 (by decide) (by decide)
    have hm1 : MS c := MS_of hm (fun w hw => hF.2 _ (by
      have : (mRefs.all fun w => !([35, 36].contains w.1)) = true := by decide
      simpa using List.all_eq_true.mp this w hw)) (hF.1 146 (by decide) (by decide)) (hF.1 147 (by decide) (by decide))
    have q := m180 (d + 4) hs hm1 (MapOK_of hM e3)
    rw [e3] at q
    refine ⟨c, ?_, hF, rfl, rfl⟩
    rw [c236_5]
    repeat (first | rw [bnd_s] | rw [tI_m] | rw [tL_m] | rw [tA_m] | rw [tV_m] | rw [q] | rw [if_neg (show ¬ r < r3 (b 143 (20 + m).toNat) by omega)])
  | n + 1, r, c, hF, h0, h, o3, o4 => by
    have aN := asN_b (a := b 145 (800 * k + 3)) hM.2.1.1 hM.2.1.2 hM.2.2.1.1 hM.2.2.1.2
    have rb := r3_b hM.2.1.2
    have e3 : c 143 = b 143 := hF.1 143 (by decide) (by decide)
    have hm1 : MS c := MS_of hm (fun w hw => hF.2 _ (by
      have : (mRefs.all fun w => !([35, 36].contains w.1)) = true := by decide
      simpa using List.all_eq_true.mp this w hw)) (hF.1 146 (by decide) (by decide)) (hF.1 147 (by decide) (by decide))
    have q := m180 (d + 4) hs hm1 (MapOK_of hM e3)
    rw [e3] at q
    obtain ⟨c1, x1, x2, x3, x4⟩ := m236_14 d hs hm hk h27 hc hM ha ha2 h0 (by omega) (asN (b 145 (800 * k + 3)) (b 143 (20 + m).toNat) (b 143 (24 + m).toNat)).toNat 0 0 c hF (by omega) (by omega) (by omega) (by omega)
    rw [Int.zero_add] at x1
    have E3 : c1 143 = b 143 := x2.1 143 (by decide) (by decide)
    have E5 : c1 145 = b 145 := x2.1 145 (by decide) (by decide)
    have hm2 : MS c1 := MS_of hm (fun w hw => x2.2 _ (by
      have : (mRefs.all fun w => !([35, 36].contains w.1)) = true := by decide
      simpa using List.all_eq_true.mp this w hw)) (x2.1 146 (by decide) (by decide)) (x2.1 147 (by decide) (by decide))
    have q4 := m224 (d + 4) hs hm2 (MapOK_of hM E3) (a := b 145 (800 * k + 3)) ((x2.2 26 (by decide)).trans ha) ha2
    rw [E3] at q4
    rw [c236_5]
    repeat (first | rw [bnd_s] | rw [tI_m] | rw [tL_m] | rw [tA_m] | rw [tV_m] | rw [q] | rw [if_pos (show r < r3 (b 143 (20 + m).toNat) by omega)])
    rw [x1, c236_14]
    simp only [mx]
    rw [show sumU (fun i => b2i (belR b k m 0 i r)) (asN (b 145 (800 * k + 3)) (b 143 (20 + m).toNat) (b 143 (24 + m).toNat)).toNat 0 = cntR b k m r from rfl]
    repeat (first | rw [bnd_s] | rw [tI_m] | rw [tL_m] | rw [tA_m] | rw [tV_m] | rw [fC142 hs _ (by decide)] | rw [pC142 hs _ _ (by decide)] | rw [q4] | rw [if_neg (show ¬ asN (b 145 (800 * k + 3)) (b 143 (20 + m).toNat) (b 143 (24 + m).toNat) < asN (b 145 (800 * k + 3)) (b 143 (20 + m).toNat) (b 143 (24 + m).toNat) by omega)] | rw [x4])
    by_cases g : c 142 36 < cntR b k m r
    · have hF2 : Fm [152, 153, 154] [35, 36] b (u2 (u2 c1 142 36 (cntR b k m r)) 142 35 r) := x2.tr ⟨fun o _ ho => funext fun i => by rw [u2_n (by omega), u2_n (by omega)], fun i hi => by rw [u2_n (fun w => hi (by rw [w.2]; decide)), u2_n (fun w => hi (by rw [w.2]; decide))]⟩
      obtain ⟨c2, y1, y2, y3, y4⟩ := m236_5 d hs hm hk h27 hc hM ha ha2 n (r + 1) _ hF2 (by omega) (by omega) (some (vI (cntR b k m r))) (some (vI (asN (b 145 (800 * k + 3)) (b 143 (20 + m).toNat) (b 143 (24 + m).toNat))))
      rw [u2_e, u2_n (by omega), u2_e] at y3 y4
      refine ⟨c2, ?_, y2, ?_, ?_⟩
      · rw [if_pos g]
        repeat (first | rw [bnd_s] | rw [tI_m] | rw [tL_m] | rw [tA_m] | rw [tV_m] | rw [fC142 hs _ (by decide)] | rw [pC142 hs _ _ (by decide)] | rw [c236_45] | rw [w32_id (z := r + 1) (by omega) (by omega)])
        exact y1
      · rw [if_pos g]; exact y3
      · rw [if_pos g]; exact y4
    · obtain ⟨c2, y1, y2, y3, y4⟩ := m236_5 d hs hm hk h27 hc hM ha ha2 n (r + 1) c1 x2 (by omega) (by omega) (some (vI (cntR b k m r))) (some (vI (asN (b 145 (800 * k + 3)) (b 143 (20 + m).toNat) (b 143 (24 + m).toNat))))
      rw [x3, x4] at y3 y4
      refine ⟨c2, ?_, y2, ?_, ?_⟩
      · rw [if_neg g, c236_45, w32_id (z := r + 1) (by omega) (by omega)]; exact y1
      · rw [if_neg g]; exact y3
      · rw [if_neg g]; exact y4
end
