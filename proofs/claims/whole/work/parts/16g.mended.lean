/-! mended, asked -/
def rsM (v : Int) (q : Int × Int) : Int := if q.1 < 0 then -1 else if v = 0 then q.2 else ptM v q.1
section
variable {s : List (Nat × Nat)} {b : Nat → Nat → Int}
theorem m278_41 (d : Nat) (hs : SpL s) (hm : MS b) {k : Nat} (kk : k < 8) (hco : codeOK (b 145) k) (ho : b 145 (800 * k + 2) = 0 ∨ b 145 (800 * k + 2) = 1) {m m' : Int} (hM : MapOK b m) (hM' : MapOK b m') {v : Int} (v0 : 0 ≤ v) (v1 : v ≤ 4) : ∀ (n : Nat) (i : Int) (q : Int × Int) (c : Nat → Nat → Int) (o8 o9 : Option AV), 0 ≤ i → i + n = 48 → q.1 < 48 → Fm [148, 152, 153, 154, 157, 158] [6, 25, 26, 27, 28, 32, 33, 34, 35, 36, 41, 42, 43] b c → ∃ c', Fm [148, 152, 153, 154, 157, 158] [6, 25, 26, 27, 28, 32, 33, 34, 35, 36, 41, 42, 43] b c' ∧ Rr (Cd (d + 9)) 278 41 [some (vA 142), some (vI (k : Int)), some (vI m), some (vI m'), some (vI v), some (vI q.1), some (vI q.2), some (vI i), o8, o9] [] (s, c) = some ([vI (rsM v (itU (stB (otM (b 145) k) (fun i => mdS (txM (b 145) k i) b k m m')) n i q))], (s, c'))
  | 0, i, q, c, o8, o9, h0, h, hq, hF => by
    refine ⟨c, hF, ?_⟩
    rw [c278_41, if_neg (by omega)]
    simp only [itU]
    unfold rsM
    by_cases g : q.1 < 0
    · rw [if_pos g, if_pos g]
    · rw [if_neg g, if_neg g, idiv_n (show 0 ≤ q.1 by omega) (by omega) (show (0 : Int) < 12 by decide) (by decide), idiv_n (show 0 ≤ q.1 by omega) (by omega) (show (0 : Int) < 6 by decide) (by decide), idiv_n (show 0 ≤ q.1 by omega) (by omega) (show (0 : Int) < 2 by decide) (by decide), irem_n (show 0 ≤ q.1 / 6 by omega) (by omega) (show (0 : Int) < 2 by decide) (by decide), irem_n (show 0 ≤ q.1 / 2 by omega) (by omega) (show (0 : Int) < 3 by decide) (by decide), irem_n (show 0 ≤ q.1 by omega) (by omega) (show (0 : Int) < 2 by decide) (by decide)]
      by_cases g0 : v = 0
      · rw [if_pos g0, if_pos g0, c278_169]
      · rw [if_neg g0, if_neg g0]
        unfold ptM swM
        by_cases g1 : v = 1
        · rw [if_pos g1, if_pos g1]
          by_cases e : q.1 / 12 = 3
          · rw [if_pos e, if_pos e, c278_169]
          · rw [if_neg e, if_neg e, c278_169, w32_id (by omega) (by omega)]
        · rw [if_neg g1, if_neg g1]
          by_cases g2 : v = 2
          · rw [if_pos g2, if_pos g2, c278_169]
          · rw [if_neg g2, if_neg g2]
            by_cases g3 : v = 3
            · rw [if_pos g3, if_pos g3, c278_169]
            · rw [if_neg g3, if_neg g3, c278_169]
  | n + 1, i, q, c, o8, o9, h0, h, hq, hF => by
    have hm1 : MS c := hF.ms hm (by decide)
    have E3 : c 143 = b 143 := hF.1 143 (by decide) (by decide)
    have E5 : c 145 = b 145 := hF.1 145 (by decide) (by decide)
    have sw := sw_e h0 (show i < 48 by omega)
    have q6 := m276 (d + 8) hs hm1 kk i h0
    rw [E5] at q6
    have r56 : Rr (Cd (d + 9)) 278 41 [some (vA 142), some (vI (k : Int)), some (vI m), some (vI m'), some (vI v), some (vI q.1), some (vI q.2), some (vI i), o8, o9] [] (s, c) = Rr (Cd (d + 9)) 278 56 [some (vA 142), some (vI (k : Int)), some (vI m), some (vI m'), some (vI v), some (vI q.1), some (vI q.2), some (vI i), o8, o9] [vI (swM i)] (s, c) := by
      rw [c278_41, if_pos (by omega), idiv_n h0 (by omega) (show (0 : Int) < 12 by decide) (by decide)]
      unfold swM
      by_cases e : i / 12 = 3
      · rw [if_pos e, if_pos e]
      · rw [if_neg e, if_neg e, w32_id (by omega) (by omega)]
    rw [r56, c278_56, idiv_n h0 (by omega) (show (0 : Int) < 6 by decide) (by decide), idiv_n h0 (by omega) (show (0 : Int) < 2 by decide) (by decide), irem_n (show 0 ≤ i / 6 by omega) (by omega) (show (0 : Int) < 2 by decide) (by decide), irem_n (show 0 ≤ i / 2 by omega) (by omega) (show (0 : Int) < 3 by decide) (by decide), irem_n h0 (by omega) (show (0 : Int) < 2 by decide) (by decide)]
    simp only [itU]
    by_cases g : otM (b 145) k i < q.2
    · have q222 := m222 (d + 8) hs hm1 kk (by rw [E5]; exact ho)
      have z : ∃ b1, b1 = u2 (u2 (u2 (mSet c k) 142 25 (swM i)) 142 28 (i / 6 % 2)) 142 26 (i / 2 % 3) := ⟨_, rfl⟩
      obtain ⟨b1, zb⟩ := z
      have z' : ∃ b2, b2 = if i % 2 = 1 then u2 b1 142 27 (-1) else b1 := ⟨_, rfl⟩
      obtain ⟨b2, zb2⟩ := z'
      have f1 : Fm [] [25, 26, 27, 28] c b1 := by
        rw [zb]; exact (((mSet_F c k).f _ (by decide)).f _ (by decide)).f _ (by decide)
      have f2 : Fm [] [25, 26, 27, 28] c b2 := by
        rw [zb2]
        by_cases e : i % 2 = 1
        · rw [if_pos e]; exact f1.f _ (by decide)
        · rw [if_neg e]; exact f1
      have o2 : ∀ j, j ≠ 27 → b2 142 j = b1 142 j := fun j hj => by
        rw [zb2]; split
        · rw [u2_n (by omega)]
        · rfl
      have B3 : b2 143 = b 143 := (f2.1 143 (by decide) (by decide)).trans E3
      have B5 : b2 145 = b 145 := (f2.1 145 (by decide) (by decide)).trans E5
      have bm : MS b2 := MS_of hm1 (fun w hw => f2.2 _ (by
        have : (mRefs.all fun w => !([25, 26, 27, 28].contains w.1)) = true := by decide
        simpa using List.all_eq_true.mp this w hw)) (f2.1 146 (by decide) (by decide)) (f2.1 147 (by decide) (by decide))
      have mp : ∀ M, MapOK b M → MPV (txM (b 145) k i) b2 k M := fun M hMM => by
        unfold MPV txM
        rw [txV_1, txV_2, txV_3]
        refine ⟨⟨bm, kk, ?_, trivial, MapOK_of hMM B3, by rw [o2 26 (by decide), zb, u2_e]⟩, by omega, ?_, sw.2, ?_, by omega⟩
        · by_cases e : i % 2 = 1
          · rw [decide_eq_true e]
            exact Or.inr ⟨by rw [zb2, if_pos e, u2_e], fun p q x y => jud_t _ _ _ _ _ _ _ _ _⟩
          · rw [decide_eq_false e]
            refine Or.inl ⟨?_, by rw [B5]; exact hco, fun p q x y => by rw [jud_f, B5]⟩
            rw [zb2, if_neg e, zb, u2_n (by omega), u2_n (by omega), u2_n (by omega), mSet_27]
        · rw [o2 25 (by decide), zb, u2_n (by omega), u2_n (by omega), u2_e]
        · rw [o2 28 (by decide), zb, u2_n (by omega), u2_e]
      obtain ⟨c3, r3', f3⟩ := m277 d hs (mp m hM) (mp m' hM')
      rw [mdS_of B3] at r3'
      have F3 : Fm [148, 152, 153, 154, 157, 158] [6, 25, 26, 27, 28, 32, 33, 34, 35, 36, 41, 42, 43] b c3 := hF.tr ((f2.mono (by decide) (by decide)).tr (f3.mono (by decide) (by decide)))
      have ih := fun q hq => m278_41 d hs hm kk hco ho hM hM' v0 v1 n (i + 1) q c3 (some (vI (swM i))) (some (vI (otM (b 145) k i))) (by omega) (by omega) hq F3
      have e96 : ∀ X, Rr (Cd (d + 9)) 278 112 [some (vA 142), some (vI (k : Int)), some (vI m), some (vI m'), some (vI v), some (vI q.1), some (vI q.2), some (vI i), some (vI (swM i)), some (vI (otM (b 145) k i))] [] (s, b2) = X → (if i / 6 % 2 = 1 then Rr (Cd (d + 9)) 278 96 [some (vA 142), some (vI (k : Int)), some (vI m), some (vI m'), some (vI v), some (vI q.1), some (vI q.2), some (vI i), some (vI (swM i)), some (vI (otM (b 145) k i))] [vI 1, vA 142] (s, u2 (mSet c k) 142 25 (swM i)) else Rr (Cd (d + 9)) 278 96 [some (vA 142), some (vI (k : Int)), some (vI m), some (vI m'), some (vI v), some (vI q.1), some (vI q.2), some (vI i), some (vI (swM i)), some (vI (otM (b 145) k i))] [vI 0, vA 142] (s, u2 (mSet c k) 142 25 (swM i))) = X := fun X hX => by
        have e1 : (if i / 6 % 2 = 1 then Rr (Cd (d + 9)) 278 96 [some (vA 142), some (vI (k : Int)), some (vI m), some (vI m'), some (vI v), some (vI q.1), some (vI q.2), some (vI i), some (vI (swM i)), some (vI (otM (b 145) k i))] [vI 1, vA 142] (s, u2 (mSet c k) 142 25 (swM i)) else Rr (Cd (d + 9)) 278 96 [some (vA 142), some (vI (k : Int)), some (vI m), some (vI m'), some (vI v), some (vI q.1), some (vI q.2), some (vI i), some (vI (swM i)), some (vI (otM (b 145) k i))] [vI 0, vA 142] (s, u2 (mSet c k) 142 25 (swM i))) = Rr (Cd (d + 9)) 278 96 [some (vA 142), some (vI (k : Int)), some (vI m), some (vI m'), some (vI v), some (vI q.1), some (vI q.2), some (vI i), some (vI (swM i)), some (vI (otM (b 145) k i))] [vI (i / 6 % 2), vA 142] (s, u2 (mSet c k) 142 25 (swM i)) := by
          by_cases e : i / 6 % 2 = 1
          · rw [if_pos e, e]
          · rw [if_neg e, show i / 6 % 2 = 0 by omega]
        rw [e1, c278_96, if_pos (by omega), idiv_n h0 (by omega) (show (0 : Int) < 2 by decide) (by decide), irem_n (show 0 ≤ i / 2 by omega) (by omega) (show (0 : Int) < 3 by decide) (by decide), irem_n h0 (by omega) (show (0 : Int) < 2 by decide) (by decide), pC142 hs _ _ (by decide), bnd_s, pC142 hs _ _ (by decide), bnd_s, ← zb]
        by_cases e : i % 2 = 1
        · rw [if_pos e, pC142 hs _ _ (by decide), bnd_s]
          rw [if_pos e] at zb2
          rw [← zb2]; exact hX
        · rw [if_neg e]
          rw [if_neg e] at zb2
          rw [← zb2]; exact hX
      by_cases z : mdS (txM (b 145) k i) b k m m' = true
      · have es : stB (otM (b 145) k) (fun i => mdS (txM (b 145) k i) b k m m') i q = (i, otM (b 145) k i) := if_pos ⟨g, z⟩
        rw [es]
        obtain ⟨c4, w1, w2⟩ := ih (i, otM (b 145) k i) (by show i < 48; omega)
        refine ⟨c4, w1, ?_⟩
        rw [z] at r3'
        rw [← w2]
        repeat (first | rw [bnd_s] | rw [tI_m] | rw [tL_m] | rw [tA_m] | rw [tV_m] | rw [q6] | rw [if_pos g] | rw [q222] | rw [pC142 hs _ _ (by decide)])
        refine e96 _ ?_
        rw [c278_112]
        repeat (first | rw [bnd_s] | rw [tI_m] | rw [tL_m] | rw [tA_m] | rw [tV_m] | rw [r3'] | rw [b2i_t] | rw [if_neg (show ¬ (1 : Int) = 0 by decide)] | rw [c278_122] | rw [w32_id (z := i + 1) (by omega) (by omega)])
      · have es : stB (otM (b 145) k) (fun i => mdS (txM (b 145) k i) b k m m') i q = q := if_neg (fun w => z w.2)
        rw [es]
        obtain ⟨c4, w1, w2⟩ := ih q hq
        refine ⟨c4, w1, ?_⟩
        rw [Bool.eq_false_iff.mpr z] at r3'
        rw [← w2]
        repeat (first | rw [bnd_s] | rw [tI_m] | rw [tL_m] | rw [tA_m] | rw [tV_m] | rw [q6] | rw [if_pos g] | rw [q222] | rw [pC142 hs _ _ (by decide)])
        refine e96 _ ?_
        rw [c278_112]
        repeat (first | rw [bnd_s] | rw [tI_m] | rw [tL_m] | rw [tA_m] | rw [tV_m] | rw [r3'] | rw [b2i_f] | rw [if_pos (show (0 : Int) = 0 from rfl)] | rw [c278_122] | rw [w32_id (z := i + 1) (by omega) (by omega)])
    · have es : stB (otM (b 145) k) (fun i => mdS (txM (b 145) k i) b k m m') i q = q := if_neg (fun w => g w.1)
      rw [es]
      obtain ⟨c4, w1, w2⟩ := m278_41 d hs hm kk hco ho hM hM' v0 v1 n (i + 1) q c (some (vI (swM i))) (some (vI (otM (b 145) k i))) (by omega) (by omega) hq hF
      refine ⟨c4, w1, ?_⟩
      rw [← w2]
      repeat (first | rw [bnd_s] | rw [tI_m] | rw [tL_m] | rw [tA_m] | rw [tV_m] | rw [q6] | rw [if_neg g] | rw [c278_122] | rw [w32_id (z := i + 1) (by omega) (by omega)])
end
theorem op_mended (k m m' v : Int) : Op 146 278 [vI k, vI m, vI m', vI v] := by
  intro s c n hI
  have hs := hI.1.l
  have hc := hI.2.2.2.1
  have hm := hI.2.2.1
  have h6 := hI.2.2.2.2.1.1.1
  have hn := hI.nM
  have n2 := hn.2
  obtain ⟨-, -, a8⟩ := hI.2.2.2.2.1.2.2.2.1
  by_cases hk : 0 ≤ k ∧ k < c 143 1
  case neg =>
    refine ⟨vI (-1), s, s, c, c, n, ?_, ?_, by omega, hI⟩
    · rw [c146 (hg := gC29 hs c)]
      repeat (first | rw [bnd_s] | rw [tI_m] | rw [tL_m] | rw [tA_m] | rw [tV_m] | rw [fC29 hs _ (by decide)] | rw [pC29 hs _ _ (by decide)] | rw [CS_29_0 hc] | rw [k114 _ hI] | rw [k113 _ hs hc h6 hn] | rw [if_neg hk] | rw [if_neg (show ¬ (-1 : Int) = 0 by decide)] | rw [if_pos (show (-1 : Int) < 0 by decide)] | rw [c146_26])
    · rw [c278 (hg := gC142 hs c)]
      repeat (first | rw [bnd_s] | rw [tI_m] | rw [tL_m] | rw [tA_m] | rw [tV_m] | rw [m221 _ hI] | rw [inR_f (show ¬ (0 ≤ k ∧ k ≤ c 143 1 - 1) by omega)] | rw [if_b0] | rw [cond_f] | rw [c278_17])
  have T1 : Cd 998 221 [vA 142, vI k] (s, c) = some ([vI (b2i true)], (s, c)) := by rw [m221 _ hI, inR_t (by omega)]
  by_cases h1 : 0 ≤ m ∧ m < c 143 0
  case neg =>
    refine ⟨vI (-1), s, s, c, c, n, ?_, ?_, by omega, hI⟩
    · rw [c146 (hg := gC29 hs c)]
      repeat (first | rw [bnd_s] | rw [tI_m] | rw [tL_m] | rw [tA_m] | rw [tV_m] | rw [fC29 hs _ (by decide)] | rw [pC29 hs _ _ (by decide)] | rw [CS_29_0 hc] | rw [k114 _ hI] | rw [k113 _ hs hc h6 hn] | rw [if_pos hk] | rw [if_neg h1] | rw [if_neg (show ¬ ((60 + 2 * k.toNat : Nat) : Int) = 0 by omega)] | rw [if_neg (show ¬ ((60 + 2 * k.toNat : Nat) : Int) < 0 by omega)] | rw [if_neg (show ¬ (-1 : Int) = 0 by decide)] | rw [if_pos (show (-1 : Int) < 0 by decide)] | rw [c146_26])
    · rw [c278 (hg := gC142 hs c)]
      repeat (first | rw [bnd_s] | rw [tI_m] | rw [tL_m] | rw [tA_m] | rw [tV_m] | rw [T1] | rw [m173 _ hs hm hn] | rw [inR_f (show ¬ (0 ≤ m ∧ m ≤ c 143 0 - 1) by omega)] | rw [if_b0] | rw [cond_t] | rw [cond_f] | rw [c278_17])
  have T2 : Cd 998 173 [vA 142, vI m] (s, c) = some ([vI (b2i true)], (s, c)) := by rw [m173 _ hs hm hn, inR_t (by omega)]
  by_cases h2 : 0 ≤ m' ∧ m' < c 143 0
  case neg =>
    refine ⟨vI (-1), s, s, c, c, n, ?_, ?_, by omega, hI⟩
    · rw [c146 (hg := gC29 hs c)]
      repeat (first | rw [bnd_s] | rw [tI_m] | rw [tL_m] | rw [tA_m] | rw [tV_m] | rw [fC29 hs _ (by decide)] | rw [pC29 hs _ _ (by decide)] | rw [CS_29_0 hc] | rw [k114 _ hI] | rw [k113 _ hs hc h6 hn] | rw [if_pos hk] | rw [if_pos h1] | rw [if_neg h2] | rw [if_neg (show ¬ ((60 + 2 * k.toNat : Nat) : Int) = 0 by omega)] | rw [if_neg (show ¬ ((60 + 2 * k.toNat : Nat) : Int) < 0 by omega)] | rw [if_neg (show ¬ ((40 + 5 * m.toNat : Nat) : Int) = 0 by omega)] | rw [if_neg (show ¬ ((40 + 5 * m.toNat : Nat) : Int) < 0 by omega)] | rw [if_neg (show ¬ (-1 : Int) = 0 by decide)] | rw [if_pos (show (-1 : Int) < 0 by decide)] | rw [c146_26])
    · rw [c278 (hg := gC142 hs c)]
      repeat (first | rw [bnd_s] | rw [tI_m] | rw [tL_m] | rw [tA_m] | rw [tV_m] | rw [T1] | rw [T2] | rw [m173 _ hs hm hn] | rw [inR_f (show ¬ (0 ≤ m' ∧ m' ≤ c 143 0 - 1) by omega)] | rw [if_b0] | rw [cond_t] | rw [cond_f] | rw [c278_17])
  have T3 : Cd 998 173 [vA 142, vI m'] (s, c) = some ([vI (b2i true)], (s, c)) := by rw [m173 _ hs hm hn, inR_t (by omega)]
  by_cases hv : 0 ≤ v ∧ v ≤ 4
  case neg =>
    refine ⟨vI (-1), s, s, c, c, n, ?_, ?_, by omega, hI⟩
    · rw [c146 (hg := gC29 hs c)]
      repeat (first | rw [bnd_s] | rw [tI_m] | rw [tL_m] | rw [tA_m] | rw [tV_m] | rw [fC29 hs _ (by decide)] | rw [pC29 hs _ _ (by decide)] | rw [CS_29_0 hc] | rw [k114 _ hI] | rw [k113 _ hs hc h6 hn] | rw [if_pos hk] | rw [if_pos h1] | rw [if_pos h2] | rw [if_neg (show ¬ ((60 + 2 * k.toNat : Nat) : Int) = 0 by omega)] | rw [if_neg (show ¬ ((60 + 2 * k.toNat : Nat) : Int) < 0 by omega)] | rw [if_neg (show ¬ ((40 + 5 * m.toNat : Nat) : Int) = 0 by omega)] | rw [if_neg (show ¬ ((40 + 5 * m.toNat : Nat) : Int) < 0 by omega)] | rw [if_neg (show ¬ ((40 + 5 * m'.toNat : Nat) : Int) = 0 by omega)] | rw [if_neg (show ¬ ((40 + 5 * m'.toNat : Nat) : Int) < 0 by omega)])
      by_cases w1 : v < 0
      · rw [if_pos w1, c146_26]
      · rw [if_neg w1, if_pos (by omega), c146_26]
    · rw [c278 (hg := gC142 hs c)]
      repeat (first | rw [bnd_s] | rw [tI_m] | rw [tL_m] | rw [tA_m] | rw [tV_m] | rw [T1] | rw [T2] | rw [T3] | rw [m172] | rw [inR_f hv] | rw [if_b0] | rw [cond_t] | rw [cond_f] | rw [c278_17])
  obtain ⟨s1, c1, s2, c2, n3, A1, A2, A3, hI2, E3, E5, AC, AC'⟩ := two13 995 hI h1.1 h1.2 h2.1 h2.2
  have hs2 := hI2.1.l
  have hc2 := hI2.2.2.2.1
  have hm2 := hI2.2.2.1
  have hn2 := hI2.nM
  have hM := hI.mok m h1.1 h1.2
  have hM' := hI.mok m' h2.1 h2.2
  have ch2 := chN hs2 hc2 (m := m.toNat) (by omega)
  have ch2' := chN hs2 hc2 (m := m'.toNat) (by omega)
  have p8 := AC.2.1
  have p8' := AC'.2.1
  have CLASS0 : ∀ X, (if ((ansL c m).length : Int) = 0 then some ([vI (-1)], (s2, c2)) else if 0 < ((ansL c m').length : Int) then some ([vI (-1)], (s2, c2)) else ((Cd 998 156 [vA 29, vA ((60 + 2 * k.toNat : Nat) : Int), vA ((40 + 5 * m.toNat : Nat) : Int), vA ((40 + 5 * m'.toNat : Nat) : Int)] (s2, c2)).bind toI).bind fun q11 => if q11.1 = (-1) then some ([vI (-1)], q11.2) else ((Cd 998 157 [vA ((60 + 2 * k.toNat : Nat) : Int), vI q11.1, vI v] q11.2).bind toI).bind fun q12 => some ([vI q12.1], q12.2)) = X → Cd 999 146 [vA 29, vI k, vI m, vI m', vI v] (s, c) = X := fun X hX => by
    rw [c146 (hg := gC29 hs c)]
    repeat (first | rw [bnd_s] | rw [tI_m] | rw [tL_m] | rw [tA_m] | rw [tV_m] | rw [fC29 hs _ (by decide)] | rw [pC29 hs _ _ (by decide)] | rw [CS_29_0 hc] | rw [k114 _ hI] | rw [k113 _ hs hc h6 hn] | rw [if_pos hk] | rw [if_pos h1] | rw [if_pos h2] | rw [if_neg (show ¬ ((60 + 2 * k.toNat : Nat) : Int) = 0 by omega)] | rw [if_neg (show ¬ ((60 + 2 * k.toNat : Nat) : Int) < 0 by omega)] | rw [if_neg (show ¬ ((40 + 5 * m.toNat : Nat) : Int) = 0 by omega)] | rw [if_neg (show ¬ ((40 + 5 * m.toNat : Nat) : Int) < 0 by omega)] | rw [if_neg (show ¬ ((40 + 5 * m'.toNat : Nat) : Int) = 0 by omega)] | rw [if_neg (show ¬ ((40 + 5 * m'.toNat : Nat) : Int) < 0 by omega)] | rw [if_neg (show ¬ v < 0 by omega)] | rw [if_neg (show ¬ 4 < v by omega)] | rw [A1] | rw [A2] | rw [gF_g ch2.1.1 _ (by decide)] | rw [gF_g ch2'.1.1 _ (by decide)] | rw [p8] | rw [p8'] | rw [c146_38])
    simp only [c146_55]
    exact hX
  have T1 : Cd 998 221 [vA 142, vI k] (s2, c2) = some ([vI (b2i true)], (s2, c2)) := by rw [m221 _ hI2, E3, inR_t (by omega)]
  have T2 : Cd 998 173 [vA 142, vI m] (s2, c2) = some ([vI (b2i true)], (s2, c2)) := by rw [m173 _ hs2 hm2 hn2, E3, inR_t (by omega)]
  have T3 : Cd 998 173 [vA 142, vI m'] (s2, c2) = some ([vI (b2i true)], (s2, c2)) := by rw [m173 _ hs2 hm2 hn2, E3, inR_t (by omega)]
  obtain ⟨c3, y1, yf, yA⟩ := m183 995 hs2 hm2 (MapOK_of hM' E3)
  rw [ansL_of E3] at yA
  have m3 : MS c3 := yf.ms hm2 (by decide)
  have e3 : c3 143 = c 143 := (yf.1 143 (by decide) (by decide)).trans E3
  have e6 := yA.1
  by_cases g1 : 0 < ((ansL c m').length : Int)
  · refine ⟨vI (-1), s2, s2, c2, c3, n3, CLASS0 _ ?_, ?_, A3, Inv_M hI2 yf (by decide)⟩
    · by_cases z : ((ansL c m).length : Int) = 0
      · rw [if_pos z]
      · rw [if_neg z, if_pos g1]
    · rw [c278 (hg := gC142 hs2 c2)]
      repeat (first | rw [bnd_s] | rw [tI_m] | rw [tL_m] | rw [tA_m] | rw [tV_m] | rw [T1] | rw [T2] | rw [T3] | rw [m172] | rw [inR_t hv] | rw [if_b0] | rw [cond_t] | rw [y1] | rw [fC142 hs2 _ (by decide)] | rw [pC142 hs2 _ _ (by decide)] | rw [e6] | rw [if_pos g1])
  obtain ⟨c4, z1, zf, zA⟩ := m183 995 hs2 m3 (MapOK_of hM e3)
  rw [ansL_of e3] at zA
  have m4 : MS c4 := zf.ms m3 (by decide)
  have e4 : c4 143 = c 143 := (zf.1 143 (by decide) (by decide)).trans e3
  have z6 := zA.1
  have F4 : Fm [148] [6] c2 c4 := yf.tr zf
  by_cases g2 : ((ansL c m).length : Int) = 0
  · refine ⟨vI (-1), s2, s2, c2, c4, n3, CLASS0 _ ?_, ?_, A3, Inv_M hI2 F4 (by decide)⟩
    · rw [if_pos g2]
    · rw [c278 (hg := gC142 hs2 c2)]
      repeat (first | rw [bnd_s] | rw [tI_m] | rw [tL_m] | rw [tA_m] | rw [tV_m] | rw [T1] | rw [T2] | rw [T3] | rw [m172] | rw [inR_t hv] | rw [if_b0] | rw [cond_t] | rw [y1] | rw [fC142 hs2 _ (by decide)] | rw [pC142 hs2 _ _ (by decide)] | rw [e6] | rw [if_neg g1] | rw [z1] | rw [z6] | rw [if_pos g2])
  have ek : ((k.toNat : Nat) : Int) = k := by omega
  have hS := hI.sh hk.1 hk.2
  have AC2 := AC
  rw [← E3, ← ansL_of E3] at AC2
  obtain ⟨c5, r5, f5⟩ := k156_2 991 hI2 (k := k.toNat) (m := m) (m' := m') (by rw [E3, ek]; exact hk.2) h1.1 (by rw [E3]; exact h1.2) h2.1 (by rw [E3]; exact h2.2) AC2 5 0 c2 none (by omega) (by omega) (PM.rf _)
  have hI5 := f5.inv hI2
  have E53 : c5 143 = c 143 := (f5.e (x := 143) (by omega)).trans E3
  have E55 : c5 145 = c 145 := (f5.e (x := 145) (by omega)).trans E5
  have fe : (fun i => mdS (txM (c2 145) k.toNat i) c2 k.toNat m m') = fun i => mdS (txM (c 145) k.toNat i) c k.toNat m m' := funext fun i => by rw [E5, mdS_of E3]
  rw [fe, E5] at r5
  have r156 : Cd 998 156 [vA 29, vA ((60 + 2 * k.toNat : Nat) : Int), vA ((40 + 5 * m.toNat : Nat) : Int), vA ((40 + 5 * m'.toNat : Nat) : Int)] (s2, c2) = some ([vI ((mnT (otM (c 145) k.toNat) (fun i => mdS (txM (c 145) k.toNat i) c k.toNat m m')).getD (-1))], (s2, c5)) := by
    rw [c156 (hg := gC29 hs2 c2)]; exact r5
  -- the reference, behind the class
  have hs5 := hI5.1.l
  have hm5 := hI5.2.2.1
  have hn5 := hI5.nM
  have T1 : Cd 998 221 [vA 142, vI k] (s2, c5) = some ([vI (b2i true)], (s2, c5)) := by rw [m221 _ hI5, E53, inR_t (by omega)]
  have T2 : Cd 998 173 [vA 142, vI m] (s2, c5) = some ([vI (b2i true)], (s2, c5)) := by rw [m173 _ hs2 hm5 hn5, E53, inR_t (by omega)]
  have T3 : Cd 998 173 [vA 142, vI m'] (s2, c5) = some ([vI (b2i true)], (s2, c5)) := by rw [m173 _ hs2 hm5 hn5, E53, inR_t (by omega)]
  obtain ⟨c6, y1, yf, yA⟩ := m183 995 hs2 hm5 (MapOK_of hM' E53)
  rw [ansL_of E53] at yA
  have m6 : MS c6 := yf.ms hm5 (by decide)
  have e63 : c6 143 = c 143 := (yf.1 143 (by decide) (by decide)).trans E53
  have e6 := yA.1
  obtain ⟨c7, z1, zf, zA⟩ := m183 995 hs2 m6 (MapOK_of hM e63)
  rw [ansL_of e63] at zA
  have m7 : MS c7 := zf.ms m6 (by decide)
  have e73 : c7 143 = c 143 := (zf.1 143 (by decide) (by decide)).trans e63
  have F7 : Fm [148] [6] c5 c7 := yf.tr zf
  have e75 : c7 145 = c 145 := (F7.1 145 (by decide) (by decide)).trans E55
  have z6 := zA.1
  obtain ⟨c8, w1, w2⟩ := m278_41 989 hs2 m7 (k := k.toNat) (by omega) (by rw [e75]; exact hS.2.2.2.2.1) (by rw [e75]; exact hS.2.2.1) (MapOK_of hM e73) (MapOK_of hM' e73) hv.1 hv.2 48 0 (-1, 5) c7 none none (by omega) (by omega) (by decide) (Fm.rf _ _ _)
  have fe7 : (fun i => mdS (txM (c7 145) k.toNat i) c7 k.toNat m m') = fun i => mdS (txM (c 145) k.toNat i) c k.toNat m m' := funext fun i => by rw [e75, mdS_of e73]
  rw [fe7, e75, ek] at w2
  have QQ := QB_it (ot := otM (c 145) k.toNat) (md := fun i => mdS (txM (c 145) k.toNat i) c k.toNat m m') (fun j _ _ => (otM_b _ _ _).2) 48 0 (-1, 5) (by omega) (by omega) (Or.inl ⟨rfl, fun i i0 i1 => by omega⟩)
  have QT := QB_T (fun j _ _ => otM_b _ _ _) QQ
  have F8 : Fm [148, 152, 153, 154, 157, 158] [6, 25, 26, 27, 28, 32, 33, 34, 35, 36, 41, 42, 43] c5 c8 := (F7.mono (by decide) (by decide)).tr w1
  have hI8 := Inv_M hI5 F8 (by decide)
  have zq : ∃ q, q = itU (stB (otM (c 145) k.toNat) (fun i => mdS (txM (c 145) k.toNat i) c k.toNat m m')) 48 0 (-1, 5) := ⟨_, rfl⟩
  obtain ⟨q, zq⟩ := zq
  rw [← zq] at QT w2
  refine ⟨vI (rsM v q), s2, s2, c5, c8, n3, CLASS0 _ ?_, ?_, A3, hI8⟩
  · rw [if_neg g2, if_neg g1]
    unfold rsM
    rcases QT with ⟨t1, t2⟩ | ⟨t1, t2, t3, t4⟩
    · rw [t1] at r156
      rw [t2, if_pos (by decide)]
      repeat (first | rw [bnd_s] | rw [tI_m] | rw [tL_m] | rw [tA_m] | rw [tV_m] | rw [r156] | rw [show (none : Option Int).getD (-1) = -1 from rfl] | rw [if_pos (show (-1 : Int) = -1 from rfl)])
    · rw [t1] at r156
      rw [if_neg (show ¬ q.1 < 0 by omega)]
      repeat (first | rw [bnd_s] | rw [tI_m] | rw [tL_m] | rw [tA_m] | rw [tV_m] | rw [r156] | rw [show (some q.1).getD (-1) = q.1 from rfl] | rw [if_neg (show ¬ q.1 = -1 by omega)])
      by_cases v0 : v = 0
      · have q0 := k157_0 996 hI5 (k := k.toNat) (by rw [E53, ek]; exact hk.2) t2 t3
        rw [E55] at q0
        rw [if_pos v0, v0, t4]
        repeat (first | rw [bnd_s] | rw [tI_m] | rw [tL_m] | rw [tA_m] | rw [tV_m] | rw [q0])
      · have q0 := k157 997 hs2 hI5.2.1 ((60 + 2 * k.toNat : Nat) : Int) (v := v) t2 t3 (by omega) hv.2
        rw [if_neg v0]
        repeat (first | rw [bnd_s] | rw [tI_m] | rw [tL_m] | rw [tA_m] | rw [tV_m] | rw [q0])
  · rw [c278 (hg := gC142 hs2 c5)]
    repeat (first | rw [bnd_s] | rw [tI_m] | rw [tL_m] | rw [tA_m] | rw [tV_m] | rw [T1] | rw [T2] | rw [T3] | rw [m172] | rw [inR_t hv] | rw [if_b0] | rw [cond_t] | rw [y1] | rw [fC142 hs2 _ (by decide)] | rw [pC142 hs2 _ _ (by decide)] | rw [e6] | rw [if_neg g1] | rw [z1] | rw [z6] | rw [if_neg g2])
    exact w2
