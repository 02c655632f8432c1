/-! a clause, read by both -/
def bitO : Bool := (List.range 32).all fun b => (List.range 5).all fun w => w == 0 || (bt (512 * (b : Nat)) ((w : Nat) + 9) == bt (b : Nat) (w : Nat) && ior (512 * (b : Nat)) (ishl 1 ((w : Nat) + 9)) == 512 * ior (b : Nat) (ishl 1 (w : Nat)) && decide (0 ≤ ior (b : Nat) (ishl 1 (w : Nat)) ∧ ior (b : Nat) (ishl 1 (w : Nat)) < 32) && bt (ior (b : Nat) (ishl 1 (w : Nat))) 4 == (bt (b : Nat) 4 || w == 4))
theorem bitO_ok : bitO = true := by decide +kernel
theorem bit_o {b w : Int} (h0 : 0 ≤ b) (h1 : b < 32) (h2 : 1 ≤ w) (h3 : w ≤ 4) : bt (512 * b) (w + 9) = bt b w ∧ ior (512 * b) (ishl 1 (w + 9)) = 512 * ior b (ishl 1 w) ∧ (0 ≤ ior b (ishl 1 w) ∧ ior b (ishl 1 w) < 32) ∧ bt (ior b (ishl 1 w)) 4 = (bt b 4 || decide (w = 4)) := by
  have a := List.all_eq_true.mp bitO_ok b.toNat (List.mem_range.mpr (by omega))
  have q := List.all_eq_true.mp a w.toNat (List.mem_range.mpr (by omega))
  rw [Int.toNat_of_nonneg h0, Int.toNat_of_nonneg (by omega)] at q
  have hw : (w.toNat == 0) = false := by simp; omega
  have hw4 : (w.toNat == 4) = decide (w = 4) := by
    by_cases e : w = 4
    · rw [e]; rfl
    · rw [decide_eq_false e]; simp; omega
  rw [hw, hw4, Bool.false_or] at q
  simp only [Bool.and_eq_true, beq_iff_eq, decide_eq_true_eq] at q
  exact ⟨q.1.1.1, q.1.1.2, q.1.2, q.2⟩
def FCl (c c' : Nat → Nat → Int) : Prop := ∀ o j, ¬ (o = 122 ∧ 6 ≤ j ∧ j ≤ 13) → ¬ (o = 127 ∧ j = 3) → o ≠ 128 → o ≠ 129 → c' o j = c o j
theorem FCl.rf (c : Nat → Nat → Int) : FCl c c := fun _ _ _ _ _ _ => rfl
theorem FCl.tr {a b c : Nat → Nat → Int} (h : FCl a b) (g : FCl b c) : FCl a c := fun o k h1 h2 h3 h4 => (g o k h1 h2 h3 h4).trans (h o k h1 h2 h3 h4)
theorem FP.fc {a b : Nat → Nat → Int} (h : FP a b) : FCl a b := fun o k h1 h2 h3 h4 => h o k (by omega) h2 h3 h4
def FMt (k : Nat) (c c' : Nat → Nat → Int) : Prop := ∀ o j, ¬ (o = 142 ∧ ((12 ≤ j ∧ j ≤ 16) ∨ (19 ≤ j ∧ j ≤ 20) ∨ (22 ≤ j ∧ j ≤ 24))) → o ≠ 151 → ¬ (o = 145 ∧ 800 * k ≤ j ∧ j < 800 * k + 800) → c' o j = c o j
theorem FMt.rf (k : Nat) (c : Nat → Nat → Int) : FMt k c c := fun _ _ _ _ _ => rfl
theorem FMt.tr {k : Nat} {a b c : Nat → Nat → Int} (h : FMt k a b) (g : FMt k b c) : FMt k a c := fun o j h1 h2 h3 => (g o j h1 h2 h3).trans (h o j h1 h2 h3)
theorem FM.f2 {k : Nat} {a b : Nat → Nat → Int} (h : FM k a b) : FMt k a b := fun o j h1 h2 h3 => h o j (by omega) h2 (by omega)
theorem FMt.em {T : Int → Int} {n : Int} {k : Nat} {c c' : Nat → Nat → Int} (f : FMt k c c') (h : EM T n k c) : EM T n k c' := by
  obtain ⟨h1, h2, h3, ⟨⟨h4, h5, h6⟩, h7⟩⟩ := h
  refine ⟨?_, ?_, ?_, ⟨⟨?_, ?_, h6⟩, fun i g0 g1 => ?_⟩⟩
  · rw [f 142 2 (by omega) (by omega) (by omega)]; exact h1
  · rw [f 142 21 (by omega) (by omega) (by omega)]; exact h2
  · rw [f 142 17 (by omega) (by omega) (by omega)]; exact h3
  · rw [f 142 8 (by omega) (by omega) (by omega)]; exact h4
  · rw [f 142 9 (by omega) (by omega) (by omega)]; exact h5
  · rw [f 150 _ (by omega) (by omega) (by omega)]; exact h7 i g0 g1
/-- cells beside tokens and steps: the class's -/
theorem EV_w {tk nv st : Int → Int} {K : Int} {c c' : Nat → Nat → Int} (f : ∀ o k, ¬ (o = 122 ∧ 10 ≤ k ∧ k ≤ 13) → c' o k = c o k) (h : EV tk nv st K c) : EV tk nv st K c' := by
  obtain ⟨⟨a1, a2, a3, a4, a5, a6, a7⟩, h1, h2, h3, h4, h5⟩ := h
  refine ⟨⟨?_, ?_, ?_, ?_, ?_, ?_, ?_⟩, ?_, h2, h3, fun i g0 g1 => ?_, fun i g0 g1 => ?_⟩
  case refine_9 => rw [f 124 _ (by omega), f 125 _ (by omega)]; exact h4 i g0 g1
  case refine_10 => rw [f 126 _ (by omega)]; exact h5 i g0 g1
  all_goals (rw [f _ _ (by omega)]; assumption)
theorem KS_w {K i : Int} {X : List (Int × Int)} {c c' : Nat → Nat → Int} (f : ∀ o k, ¬ (o = 122 ∧ 10 ≤ k ∧ k ≤ 13) → c' o k = c o k) (h : KS K c i X) : KS K c' i X := by
  obtain ⟨h1, h2, h3, h4, h5, h6, h7⟩ := h
  refine ⟨by rw [f 122 9 (by omega)]; exact h1, h2, by rw [f 127 3 (by omega)]; exact h3, h4, fun j q hq => by rw [f 128 j (by omega), f 129 j (by omega)]; exact h5 j q hq, by rw [f 122 6 (by omega)]; exact h6, by rw [f 122 7 (by omega)]; exact h7⟩
/-- the same, of the reference -/
theorem MA_w {T : Int → Int} {n K i o : Int} {k : Nat} {X : List (Int × Int)} {c c' : Nat → Nat → Int} (f : ∀ o j, ¬ (o = 142 ∧ j = 20) → ¬ (o = 145 ∧ 800 * k ≤ j ∧ j < 800 * k + 10) → c' o j = c o j) (h : MA T n K k c i o X) : MA T n K k c' i o X := by
  obtain ⟨h1, h2, h3, h4, h5, h6⟩ := h
  refine ⟨?_, h2, by rw [f 142 23 (by omega) (by omega)]; exact h3, by rw [f 142 19 (by omega) (by omega)]; exact h4, fun j q hq => by rw [f 145 _ (by omega) (by omega), f 145 _ (by omega) (by omega)]; exact h5 j q hq, h6⟩
  unfold MT MTp at *
  rw [f 142 12 (by omega) (by omega), f 142 13 (by omega) (by omega), f 142 14 (by omega) (by omega), f 142 15 (by omega) (by omega), f 142 16 (by omega) (by omega)]
  exact h1
def Rg (b sw on ak : Int) (X : List (Int × Int)) : Prop := (0 ≤ b ∧ b < 32) ∧ ((bt b 4 = false ∧ X = []) ∨ (bt b 4 = true ∧ GdB X)) ∧ (sw = 1 ∨ sw = 2 ∨ sw = 3 ∨ sw = 6) ∧ (on = 0 ∨ on = 1) ∧ (0 ≤ ak ∧ ak ≤ 2)
def BC (T : Int → Int) (n K : Int) (c : Nat → Nat → Int) (i : Int) (X : List (Int × Int)) (b sw on ak : Int) : Prop := EV (tkA T n) (nvA T n) (fun i => sts T n i.toNat) K c ∧ KS K c i X ∧ (c 122 10 = 512 * b ∧ c 122 11 = sw ∧ c 122 12 = ak ∧ c 122 13 = on)
def BM (T : Int → Int) (n K : Int) (k : Nat) (m : Nat → Nat → Int) (i : Int) (X : List (Int × Int)) (b sw on ak : Int) : Prop := EM T n k m ∧ MA T n K k m i 0 X ∧ (m 142 20 = b ∧ m 145 (800 * k) = b2i (bt b 4) ∧ m 145 (800 * k + 1) = sw ∧ m 145 (800 * k + 2) = on ∧ m 145 (800 * k + 3) = ak)
def srt (x : Int) : Int := if x = 10 then 1 else if x = 11 then 2 else if x = 12 then 3 else if x = 13 then 4 else 0
section
variable {s : List (Nat × Nat)} {T : Int → Int} {n K : Int} {k : Nat}
theorem m216 (d : Nat) (hs : SpL s) {m : Nat → Nat → Int} {i : Int} (h : MT T n i m) : Cd (d + 3) 216 [vA 142] (s, m) = some ([vI (srt (tkA T n i))], (s, m)) := by
  have q1 := m202w (d + 1) hs h (x := 10) (y := 1937203568) (by omega) (fun w => wc_10)
  have q2 := m202w (d + 1) hs h (x := 11) (y := 1869505381) (by omega) (fun w => wc_11)
  have q3 := m202w (d + 1) hs h (x := 12) (y := 6386539) (by omega) (fun w => wc_12)
  have q4 := m202w (d + 1) hs h (x := 13) (y := 457236047717) (by omega) (fun w => wc_13)
  unfold srt
  by_cases g1 : tkA T n i = 10
  · rw [decide_eq_true g1] at q1
    (try rw [c216 (hg := gC142 hs m)]); (try rw [w_swap]); (try rw [bnd_s]); (try rw [tL_m]); (try rw [bnd_s]); (try rw [q1]); (try rw [bnd_s]); (try rw [tI_m]); (try rw [bnd_s]); (try rw [if_neg (show ¬ b2i true = 0 by decide)]); (try rw [if_pos g1])
  · rw [decide_eq_false g1] at q1
    (try rw [c216 (hg := gC142 hs m)]); (try rw [w_swap]); (try rw [bnd_s]); (try rw [tL_m]); (try rw [bnd_s]); (try rw [q1]); (try rw [bnd_s]); (try rw [tI_m]); (try rw [bnd_s]); (try rw [if_pos (show b2i false = 0 from rfl)]); (try rw [if_neg g1])
    by_cases g2 : tkA T n i = 11
    · rw [decide_eq_true g2] at q2
      (try rw [w_once]); (try rw [bnd_s]); (try rw [tL_m]); (try rw [bnd_s]); (try rw [q2]); (try rw [bnd_s]); (try rw [tI_m]); (try rw [bnd_s]); (try rw [if_neg (show ¬ b2i true = 0 by decide)]); (try rw [if_pos g2])
    · rw [decide_eq_false g2] at q2
      (try rw [w_once]); (try rw [bnd_s]); (try rw [tL_m]); (try rw [bnd_s]); (try rw [q2]); (try rw [bnd_s]); (try rw [tI_m]); (try rw [bnd_s]); (try rw [if_pos (show b2i false = 0 from rfl)]); (try rw [if_neg g2])
      by_cases g3 : tkA T n i = 12
      · rw [decide_eq_true g3] at q3
        (try rw [w_ask]); (try rw [bnd_s]); (try rw [tL_m]); (try rw [bnd_s]); (try rw [q3]); (try rw [bnd_s]); (try rw [tI_m]); (try rw [bnd_s]); (try rw [if_neg (show ¬ b2i true = 0 by decide)]); (try rw [c216_41]); (try rw [if_pos g3])
      · rw [decide_eq_false g3] at q3
        (try rw [w_ask]); (try rw [bnd_s]); (try rw [tL_m]); (try rw [bnd_s]); (try rw [q3]); (try rw [bnd_s]); (try rw [tI_m]); (try rw [bnd_s]); (try rw [if_pos (show b2i false = 0 from rfl)]); (try rw [if_neg g3])
        by_cases g4 : tkA T n i = 13
        · rw [decide_eq_true g4] at q4
          (try rw [w_judge]); (try rw [bnd_s]); (try rw [tL_m]); (try rw [bnd_s]); (try rw [q4]); (try rw [bnd_s]); (try rw [tI_m]); (try rw [bnd_s]); (try rw [if_neg (show ¬ b2i true = 0 by decide)]); (try rw [c216_41]); (try rw [if_pos g4])
        · rw [decide_eq_false g4] at q4
          (try rw [w_judge]); (try rw [bnd_s]); (try rw [tL_m]); (try rw [bnd_s]); (try rw [q4]); (try rw [bnd_s]); (try rw [tI_m]); (try rw [bnd_s]); (try rw [if_pos (show b2i false = 0 from rfl)]); (try rw [c216_41]); (try rw [if_neg g4])
/-- the class fails ahead of the clause's body -/
theorem k72_a (d : Nat) (hs : SpL s) {c : Nat → Nat → Int} {i b sw on ak : Int} {X : List (Int × Int)} (h : BC T n K c i X b sw on ak) (hb : 0 ≤ b ∧ b < 32) {e : Int} (he : (e = 1 ∧ srt (tkA T n i) = 0) ∨ (e = 4 ∧ srt (tkA T n i) ≠ 0 ∧ bt b (srt (tkA T n i)) = true)) : ∃ c', Cd (d + 49) 72 [vA 122] (s, c) = some ([vI 0], (s, c')) ∧ FP c c' ∧ c' 122 6 = e ∧ c' 122 7 = sts T n i.toNat := by
  obtain ⟨hE, hk, c10, c11, c12, c13⟩ := h
  have hi := hk.2.1
  have hK := hE.2.2.1
  have htk := tkr hE hk
  rcases he with ⟨e1, hn⟩ | ⟨e4, hn, hbt⟩
  · obtain ⟨c', r, f, _, q⟩ := k70 (d + 47) hs hE hk (e := 1) (by decide)
    have q := q (by show (1 : Int) ≠ 0; decide)
    have r12 : ∀ o1 o2, Rr (Cd (d + 48)) 72 12 [some (vA 122), o1, o2] [] (s, c) = some ([vI 0], (s, c')) := fun o1 o2 => by
      (try rw [c72_12]); (try rw [r]); (try rw [bnd_s]); (try rw [tI_m]); (try rw [bnd_s]); (try rw [if_pos (Or.inl rfl)])
    refine ⟨c', ?_, f, by rw [e1]; exact q.1, q.2⟩
    have hw : tkA T n i < 10 ∨ 13 < tkA T n i := by
      unfold srt at hn
      split at hn
      · omega
      · split at hn
        · omega
        · split at hn
          · omega
          · split at hn <;> omega
    (try rw [c72 (hg := gC122 hs c)]); (try rw [fC122 hs _ (by decide)]); (try rw [bnd_s]); (try rw [hE.1.1]); (try rw [fC122 hs _ (by decide)]); (try rw [bnd_s]); (try rw [hk.1]); (try rw [aC124 hs _ hi.1 (by omega)]); (try rw [bnd_s]); (try rw [htk])
    by_cases g : tkA T n i < 10
    · rw [if_pos g, r12]
    · rw [if_neg g, if_pos (by omega), r12]
  · obtain ⟨c', r, f, _, q⟩ := k70 (d + 47) hs hE hk (e := 4) (by decide)
    have q := q (by show (4 : Int) ≠ 0; decide)
    have hw : srt (tkA T n i) + 9 = tkA T n i ∧ 1 ≤ srt (tkA T n i) ∧ srt (tkA T n i) ≤ 4 := by
      unfold srt at hn ⊢
      by_cases g1 : tkA T n i = 10
      · rw [if_pos g1]; omega
      · rw [if_neg g1] at hn ⊢
        by_cases g2 : tkA T n i = 11
        · rw [if_pos g2]; omega
        · rw [if_neg g2] at hn ⊢
          by_cases g3 : tkA T n i = 12
          · rw [if_pos g3]; omega
          · rw [if_neg g3] at hn ⊢
            by_cases g4 : tkA T n i = 13
            · rw [if_pos g4]; omega
            · rw [if_neg g4] at hn; exact absurd rfl hn
    have bo := (bit_o hb.1 hb.2 hw.2.1 hw.2.2).1
    rw [hw.1, hbt] at bo
    refine ⟨c', ?_, f, by rw [e4]; exact q.1, q.2⟩
    (try rw [c72 (hg := gC122 hs c)]); (try rw [fC122 hs _ (by decide)]); (try rw [bnd_s]); (try rw [hE.1.1]); (try rw [fC122 hs _ (by decide)]); (try rw [bnd_s]); (try rw [hk.1]); (try rw [aC124 hs _ hi.1 (by omega)]); (try rw [bnd_s]); (try rw [htk]); (try rw [if_neg (show ¬ tkA T n i < 10 by omega)]); (try rw [if_neg (show ¬ 13 < tkA T n i by omega)]); (try rw [fC122 hs _ (by decide)]); (try rw [bnd_s]); (try rw [c10]); (try rw [k169 (d + 47) (s, c) (by omega) (by omega) (by omega) (by omega)]); (try rw [bnd_s]); (try rw [tI_m]); (try rw [bnd_s]); (try rw [bo]); (try rw [if_neg (show ¬ b2i true = 0 by decide)]); (try rw [r]); (try rw [bnd_s]); (try rw [tI_m]); (try rw [bnd_s]); (try rw [if_pos (Or.inl rfl)])
/-- the class comes to the clause's body -/
theorem k72_b (d : Nat) (hs : SpL s) (hz : tkA T n K = 0) {c : Nat → Nat → Int} {i b sw on ak w : Int} {X : List (Int × Int)} (h : BC T n K c i X b sw on ak) (hb : 0 ≤ b ∧ b < 32) (hw : 1 ≤ w ∧ w ≤ 4) (ht : tkA T n i = w + 9) (hbt : bt b w = false) : ∃ c1, FCl c c1 ∧ BC T n K c1 (i + 1) X (ior b (ishl 1 w)) sw on ak ∧ Cd (d + 49) 72 [vA 122] (s, c) = (if w = 1 then ((Cd (d + 48) 73 [vA 122] (s, c1)).bind toI).bind fun q9 => Rr (Cd (d + 48)) 72 54 [some (vA 122), some (vI (w + 9)), some (vI q9.1)] [] q9.2 else if w = 2 then (pF (s, c1) 6 13 122 1).bind fun h10 => Rr (Cd (d + 48)) 72 54 [some (vA 122), some (vI (w + 9)), some (vI 1)] [] h10 else if w = 3 then ((Cd (d + 48) 74 [vA 122] (s, c1)).bind toI).bind fun q11 => Rr (Cd (d + 48)) 72 54 [some (vA 122), some (vI (w + 9)), some (vI q11.1)] [] q11.2 else ((Cd (d + 48) 75 [vA 122] (s, c1)).bind toI).bind fun q12 => Rr (Cd (d + 48)) 72 54 [some (vA 122), some (vI (w + 9)), some (vI q12.1)] [] q12.2) := by
  obtain ⟨hE, hk, c10, c11, c12, c13⟩ := h
  have hi := hk.2.1
  have hK := hE.2.2.1
  have htk := tkr hE hk
  have bo := bit_o hb.1 hb.2 hw.1 hw.2
  have bo1 := bo.1
  rw [hbt] at bo1
  have f0 : ∀ o j, ¬ (o = 122 ∧ 10 ≤ j ∧ j ≤ 13) → u2 c 122 10 (512 * ior b (ishl 1 w)) o j = c o j := fun o j g => u2_n (by omega)
  obtain ⟨c1, r1, f1, s1⟩ := k71 (d + 47) hs (EV_w f0 hE) (KS_w f0 hk) (show tkA T n i ≠ 0 by omega)
  refine ⟨c1, fun o j g1 g2 g3 g4 => by rw [f1 o j (by omega) g2 g3 g4, f0 o j (by omega)], ⟨EV_of (EV_w f0 hE) f1, s1, ?_, ?_, ?_, ?_⟩, ?_⟩
  · rw [f1 122 10 (by omega) (by omega) (by omega) (by omega), u2_e]
  · rw [f1 122 11 (by omega) (by omega) (by omega) (by omega), u2_n (by omega)]; exact c11
  · rw [f1 122 12 (by omega) (by omega) (by omega) (by omega), u2_n (by omega)]; exact c12
  · rw [f1 122 13 (by omega) (by omega) (by omega) (by omega), u2_n (by omega)]; exact c13
  · (try rw [c72 (hg := gC122 hs c)]); (try rw [fC122 hs _ (by decide)]); (try rw [bnd_s]); (try rw [hE.1.1]); (try rw [fC122 hs _ (by decide)]); (try rw [bnd_s]); (try rw [hk.1]); (try rw [aC124 hs _ hi.1 (by omega)]); (try rw [bnd_s]); (try rw [htk]); (try rw [ht]); (try rw [if_neg (show ¬ w + 9 < 10 by omega)]); (try rw [if_neg (show ¬ 13 < w + 9 by omega)]); (try rw [fC122 hs _ (by decide)]); (try rw [bnd_s]); (try rw [c10]); (try rw [k169 (d + 47) (s, c) (x := 512 * b) (k := w + 9) (by omega) (by omega) (by omega) (by omega)]); (try rw [bnd_s]); (try rw [tI_m]); (try rw [bnd_s]); (try rw [bo1]); (try rw [if_pos (show b2i false = 0 from rfl)]); (try rw [fC122 hs _ (by decide)]); (try rw [bnd_s]); (try rw [c10]); (try rw [pC122 hs _ _ (by decide)]); (try rw [bnd_s]); (try rw [bo.2.1]); (try rw [r1]); (try rw [bnd_s]); (try rw [tV_m]); (try rw [bnd_s])
    have hc : w = 1 ∨ w = 2 ∨ w = 3 ∨ w = 4 := by omega
    rcases hc with e | e | e | e
    · subst e
      rw [if_pos (show (1 : Int) + 9 = 10 by decide), if_pos (show (1 : Int) = 1 from rfl)]
    · subst e
      rw [if_neg (show ¬ (2 : Int) + 9 = 10 by decide), if_pos (show (2 : Int) + 9 = 11 by decide), if_neg (show ¬ (2 : Int) = 1 by decide), if_pos (show (2 : Int) = 2 from rfl)]
    · subst e
      rw [if_neg (show ¬ (3 : Int) + 9 = 10 by decide), if_neg (show ¬ (3 : Int) + 9 = 11 by decide), if_pos (show (3 : Int) + 9 = 12 by decide), if_neg (show ¬ (3 : Int) = 1 by decide), if_neg (show ¬ (3 : Int) = 2 by decide), if_pos (show (3 : Int) = 3 from rfl)]
    · subst e
      rw [if_neg (show ¬ (4 : Int) + 9 = 10 by decide), if_neg (show ¬ (4 : Int) + 9 = 11 by decide), if_neg (show ¬ (4 : Int) + 9 = 12 by decide), if_pos (show (4 : Int) + 9 = 13 by decide), if_neg (show ¬ (4 : Int) = 1 by decide), if_neg (show ¬ (4 : Int) = 2 by decide), if_neg (show ¬ (4 : Int) = 3 by decide)]
/-- the class at the clause's end -/
theorem k72_e (d : Nat) (hs : SpL s) (hz : tkA T n K = 0) {c : Nat → Nat → Int} {j b sw on ak : Int} {X : List (Int × Int)} (h : BC T n K c j X b sw on ak) (o1 : Option AV) : (tkA T n j = 59 ∧ ∃ c', Rr (Cd (d + 48)) 72 54 [some (vA 122), o1, some (vI 1)] [] (s, c) = some ([vI 1], (s, c')) ∧ FCl c c' ∧ BC T n K c' (j + 1) X b sw on ak) ∨ (tkA T n j ≠ 59 ∧ ∃ c', Rr (Cd (d + 48)) 72 54 [some (vA 122), o1, some (vI 1)] [] (s, c) = some ([vI 0], (s, c')) ∧ FP c c' ∧ c' 122 6 = 1 ∧ c' 122 7 = sts T n j.toNat) := by
  obtain ⟨hE, hk, c10, c11, c12, c13⟩ := h
  have hi := hk.2.1
  have hK := hE.2.2.1
  have htk := tkr hE hk
  by_cases g : tkA T n j = 59
  · obtain ⟨c1, r1, f1, s1⟩ := k71 (d + 47) hs hE hk (show tkA T n j ≠ 0 by omega)
    refine Or.inl ⟨g, c1, ?_, f1.fc, EV_of hE f1, s1, ?_, ?_, ?_, ?_⟩
    · (try rw [c72_54]); (try rw [if_neg (by decide)]); (try rw [fC122 hs _ (by decide)]); (try rw [bnd_s]); (try rw [hE.1.1]); (try rw [fC122 hs _ (by decide)]); (try rw [bnd_s]); (try rw [hk.1]); (try rw [aC124 hs _ hi.1 (by omega)]); (try rw [bnd_s]); (try rw [htk]); (try rw [if_pos g]); (try rw [r1]); (try rw [bnd_s]); (try rw [tV_m]); (try rw [bnd_s])
    · rw [f1 122 10 (by omega) (by omega) (by omega) (by omega)]; exact c10
    · rw [f1 122 11 (by omega) (by omega) (by omega) (by omega)]; exact c11
    · rw [f1 122 12 (by omega) (by omega) (by omega) (by omega)]; exact c12
    · rw [f1 122 13 (by omega) (by omega) (by omega) (by omega)]; exact c13
  · obtain ⟨c1, r1, f1, _, q⟩ := k70 (d + 47) hs hE hk (e := 1) (by decide)
    have q := q (by show (1 : Int) ≠ 0; decide)
    refine Or.inr ⟨g, c1, ?_, f1, q.1, q.2⟩
    (try rw [c72_54]); (try rw [if_neg (by decide)]); (try rw [fC122 hs _ (by decide)]); (try rw [bnd_s]); (try rw [hE.1.1]); (try rw [fC122 hs _ (by decide)]); (try rw [bnd_s]); (try rw [hk.1]); (try rw [aC124 hs _ hi.1 (by omega)]); (try rw [bnd_s]); (try rw [htk]); (try rw [if_neg g]); (try rw [r1]); (try rw [bnd_s]); (try rw [tI_m]); (try rw [bnd_s]); (try rw [if_pos (Or.inl rfl)])
theorem k72_0 (d : Nat) {c : Nat → Nat → Int} (o1 : Option AV) : Rr (Cd (d + 48)) 72 54 [some (vA 122), o1, some (vI 0)] [] (s, c) = some ([vI 0], (s, c)) := by
  rw [c72_54, if_pos rfl]
/-- the reference fails ahead of the clause's body -/
theorem m217_a (d : Nat) (hs : SpL s) {m : Nat → Nat → Int} {i b sw on ak : Int} {X : List (Int × Int)} (h : BM T n K k m i X b sw on ak) (hb : 0 ≤ b ∧ b < 32) {e : Int} (he : (e = 1 ∧ srt (tkA T n i) = 0) ∨ (e = 4 ∧ srt (tkA T n i) ≠ 0 ∧ bt b (srt (tkA T n i)) = true)) : Cd (d + 10) 217 [vA 142] (s, m) = some ([vI e], (s, m)) := by
  obtain ⟨hE, hA, m20, t0, t1, t2, t3⟩ := h
  have r := m216 (d + 6) hs hA.1
  rcases he with ⟨e1, hn⟩ | ⟨e4, hn, hbt⟩
  · (try rw [c217 (hg := gC142 hs m)]); (try rw [r]); (try rw [bnd_s]); (try rw [tI_m]); (try rw [bnd_s]); (try rw [if_pos hn]); (try rw [e1])
  · have hw : 0 ≤ srt (tkA T n i) ∧ srt (tkA T n i) < 32 := by
      unfold srt
      split
      · omega
      · split
        · omega
        · split
          · omega
          · split <;> omega
    have hbs := bt_sh (x := b) (k := srt (tkA T n i)) hb.1 (by omega) hw.1 hw.2
    rw [hbt] at hbs
    (try rw [c217 (hg := gC142 hs m)]); (try rw [r]); (try rw [bnd_s]); (try rw [tI_m]); (try rw [bnd_s]); (try rw [if_neg hn]); (try rw [fC142 hs _ (by decide)]); (try rw [bnd_s]); (try rw [m20]); (try rw [if_pos (show iand (ishr b (srt (tkA T n i))) 1 = 1 from hbs)]); (try rw [e4])
/-- the reference comes to the clause's body -/
theorem m217_b (d : Nat) (hs : SpL s) (hz : tkA T n K = 0) {m : Nat → Nat → Int} {i b sw on ak w : Int} {X : List (Int × Int)} (h : BM T n K k m i X b sw on ak) (hb : 0 ≤ b ∧ b < 32) (hw : 1 ≤ w ∧ w ≤ 4) (ht : tkA T n i = w + 9) (hbt : bt b w = false) : ∃ m1, FMt k m m1 ∧ EM T n k m1 ∧ MA T n K k m1 (i + 1) 0 X ∧ (m1 142 20 = ior b (ishl 1 w) ∧ m1 145 (800 * k) = b2i (bt b 4) ∧ m1 145 (800 * k + 1) = sw ∧ m1 145 (800 * k + 2) = on ∧ m1 145 (800 * k + 3) = ak) ∧ Cd (d + 10) 217 [vA 142] (s, m) = (if w = 1 then (gF (s, m1) 12 14 142).bind fun x6 => (if x6 = 1 then (gF (s, m1) 12 15 142).bind fun x7 => (if x7 = 1 then Rr (Cd (d + 9)) 217 54 [some (vA 142), some (vI w), none, none] [] (s, m1) else (gF (s, m1) 12 15 142).bind fun x8 => (if x8 = 2 then Rr (Cd (d + 9)) 217 54 [some (vA 142), some (vI w), none, none] [] (s, m1) else (gF (s, m1) 12 15 142).bind fun x9 => (if x9 = 3 then Rr (Cd (d + 9)) 217 54 [some (vA 142), some (vI w), none, none] [] (s, m1) else (gF (s, m1) 12 15 142).bind fun x10 => (if x10 = 6 then Rr (Cd (d + 9)) 217 54 [some (vA 142), some (vI w), none, none] [] (s, m1) else some ([vI 2], (s, m1)))))) else some ([vI 1], (s, m1))) else Rr (Cd (d + 9)) 217 65 [some (vA 142), some (vI w), none, none] [] (s, m1)) := by
  obtain ⟨hE, hA, m20, t0, t1, t2, t3⟩ := h
  have hs1 : srt (tkA T n i) = w := by
    rw [ht]; unfold srt
    have hc : w = 1 ∨ w = 2 ∨ w = 3 ∨ w = 4 := by omega
    rcases hc with e | e | e | e <;> subst e <;> rfl
  have r := m216 (d + 6) hs hA.1
  rw [hs1] at r
  have hbs := bt_sh (x := b) (k := w) hb.1 (by omega) (by omega) (by omega)
  rw [hbt] at hbs
  have f0 : ∀ o j, ¬ (o = 142 ∧ j = 20) → ¬ (o = 145 ∧ 800 * k ≤ j ∧ j < 800 * k + 10) → u2 m 142 20 (ior b (ishl 1 w)) o j = m o j := fun o j g _ => u2_n (by omega)
  have g0 : FMt k m (u2 m 142 20 (ior b (ishl 1 w))) := fun o j g1 g2 g3 => u2_n (by omega)
  obtain ⟨m1, r1, f1, a1⟩ := m198a (d + 5) hs hz (g0.em hE) (MA_w f0 hA) (show tkA T n i ≠ 0 by omega)
  refine ⟨m1, g0.tr (f1.fm k).f2, (g0.tr (f1.fm k).f2).em hE, a1, ⟨?_, ?_, ?_, ?_, ?_⟩, ?_⟩
  · rw [f1 142 20 (by omega), u2_e]
  · rw [f1 145 _ (by omega), u2_n (by omega)]; exact t0
  · rw [f1 145 _ (by omega), u2_n (by omega)]; exact t1
  · rw [f1 145 _ (by omega), u2_n (by omega)]; exact t2
  · rw [f1 145 _ (by omega), u2_n (by omega)]; exact t3
  · (try rw [c217 (hg := gC142 hs m)]); (try rw [r]); (try rw [bnd_s]); (try rw [tI_m]); (try rw [bnd_s]); (try rw [if_neg (show ¬ w = 0 by omega)]); (try rw [fC142 hs _ (by decide)]); (try rw [bnd_s]); (try rw [m20]); (try rw [if_neg (show ¬ iand (ishr b w) 1 = 1 by rw [hbs]; decide)]); (try rw [bnd_s]); (try rw [pC142 hs _ _ (by decide)]); (try rw [bnd_s]); (try rw [r1]); (try rw [bnd_s]); (try rw [tV_m]); (try rw [bnd_s]); (try rfl)
/-- the reference at the clause's end -/
theorem m217_e (d : Nat) (hs : SpL s) (hz : tkA T n K = 0) {m : Nat → Nat → Int} {j b sw on ak : Int} {X : List (Int × Int)} (h : BM T n K k m j X b sw on ak) (o1 o2 o3 : Option AV) : (tkA T n j = 59 → ∃ m', Rr (Cd (d + 9)) 217 152 [some (vA 142), o1, o2, o3] [] (s, m) = some ([vI 0], (s, m')) ∧ FMt k m m' ∧ BM T n K k m' (j + 1) X b sw on ak) ∧ (tkA T n j ≠ 59 → Rr (Cd (d + 9)) 217 152 [some (vA 142), o1, o2, o3] [] (s, m) = some ([vI 1], (s, m))) := by
  obtain ⟨hE, hA, m20, t0, t1, t2, t3⟩ := h
  have e9 := TkR_g (MT_tr hA.1) 59 (by omega)
  refine ⟨fun g => ?_, fun g => ?_⟩
  · obtain ⟨m1, r1, f1, a1⟩ := m198a (d + 5) hs hz hE hA (show tkA T n j ≠ 0 by omega)
    refine ⟨m1, ?_, (f1.fm k).f2, (f1.fm k).f2.em hE, a1, ?_, ?_, ?_, ?_, ?_⟩
    · (try rw [c217_152]); (try rw [fC142 hs _ (by decide)]); (try rw [bnd_s]); (try rw [if_pos (e9.mpr g)]); (try rw [r1]); (try rw [bnd_s]); (try rw [tV_m]); (try rw [bnd_s])
    · rw [f1 142 20 (by omega)]; exact m20
    · rw [f1 145 _ (by omega)]; exact t0
    · rw [f1 145 _ (by omega)]; exact t1
    · rw [f1 145 _ (by omega)]; exact t2
    · rw [f1 145 _ (by omega)]; exact t3
  · (try rw [c217_152]); (try rw [fC142 hs _ (by decide)]); (try rw [bnd_s]); (try rw [if_neg (fun w => g (e9.mp w))])
theorem m217_4 (d : Nat) {m : Nat → Nat → Int} {w : Int} (hw : w ≠ 4) (o2 o3 : Option AV) : Rr (Cd (d + 9)) 217 136 [some (vA 142), some (vI w), o2, o3] [] (s, m) = Rr (Cd (d + 9)) 217 152 [some (vA 142), some (vI w), o2, o3] [] (s, m) := by
  rw [c217_136, if_neg hw]
theorem m217_3 (d : Nat) {m : Nat → Nat → Int} {w : Int} (hw : w ≠ 3) (o2 o3 : Option AV) : Rr (Cd (d + 9)) 217 76 [some (vA 142), some (vI w), o2, o3] [] (s, m) = Rr (Cd (d + 9)) 217 136 [some (vA 142), some (vI w), o2, o3] [] (s, m) := by
  rw [c217_76, if_neg hw]
theorem m217_2 (d : Nat) {m : Nat → Nat → Int} {w : Int} (hw : w ≠ 2) (o2 o3 : Option AV) : Rr (Cd (d + 9)) 217 65 [some (vA 142), some (vI w), o2, o3] [] (s, m) = Rr (Cd (d + 9)) 217 76 [some (vA 142), some (vI w), o2, o3] [] (s, m) := by
  rw [c217_65, if_neg hw]
/-- a word of the reference's text is told -/
theorem tx_w (hs : SpL s) (hk : k < 8) {m : Nat → Nat → Int} (hE : EM T n k m) {f : Nat} (hf : f < 10) (v : Int) : pA (s, m) 0 145 (800 * (k : Int) + (f : Int)) v = some (s, u2 m 145 (800 * k + f) v) ∧ FMt k m (u2 m 145 (800 * k + f) v) ∧ ∀ o j, ¬ (o = 142 ∧ j = 20) → ¬ (o = 145 ∧ 800 * k ≤ j ∧ j < 800 * k + 10) → u2 m 145 (800 * k + f) v o j = m o j := by
  refine ⟨?_, fun o j g1 g2 g3 => u2_n (by omega), fun o j g1 g2 => u2_n (by omega)⟩
  rw [qC145 hs _ _ (by omega) (by omega), show (800 * (k : Int) + (f : Int)).toNat = 800 * k + f by omega]
end
