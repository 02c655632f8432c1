/-! right: the reference -/
/-- the reference is ready to judge SHOWING k at MAP m -/
def MP (b : Nat → Nat → Int) (k : Nat) (m : Int) : Prop := (MS b ∧ k < 8 ∧ b 142 27 = (k : Int) ∧ codeOK (b 145) k ∧ MapOK b m ∧ b 142 26 = b 145 (800 * k + 3)) ∧ (0 ≤ b 145 (800 * k + 3) ∧ b 145 (800 * k + 3) ≤ 2) ∧ b 142 25 = b 145 (800 * k + 1) ∧ (b 145 (800 * k + 1) = 1 ∨ b 145 (800 * k + 1) = 2 ∨ b 145 (800 * k + 1) = 3 ∨ b 145 (800 * k + 1) = 6) ∧ b 142 28 = b 145 (800 * k + 2) ∧ (b 145 (800 * k + 2) = 0 ∨ b 145 (800 * k + 2) = 1)
def mpk (L F : List Nat) : Bool := !(L.contains 143) && !(L.contains 145) && !(L.contains 146 || L.contains 147 || mRefs.any fun q => F.contains q.1) && !F.contains 25 && !F.contains 26 && !F.contains 27 && !F.contains 28
theorem MP.mv {b c : Nat → Nat → Int} {k : Nat} {m : Int} (h : MP b k m) {L F : List Nat} (f : Fm L F b c) (hk : mpk L F = true) : MP c k m ∧ c 143 = b 143 ∧ c 145 = b 145 := by
  unfold mpk at hk
  simp only [Bool.and_eq_true, Bool.not_eq_true', Bool.not_eq_true] at hk
  obtain ⟨⟨⟨⟨⟨⟨a1, a2⟩, a3⟩, a4⟩, a5⟩, a6⟩, a7⟩ := hk
  have nn : ∀ {x : Nat} {M : List Nat}, M.contains x = false → x ∉ M := fun {x M} g w => by
    have := List.contains_iff_mem.mpr w
    rw [g] at this; cases this
  have e3 : c 143 = b 143 := f.1 143 (nn a1) (by decide)
  have e5 : c 145 = b 145 := f.1 145 (nn a2) (by decide)
  obtain ⟨⟨h1, h2, h3, h4, h5, h6⟩, h7, h8, h9, h10, h11⟩ := h
  refine ⟨?_, e3, e5⟩
  unfold MP
  rw [e5]
  exact ⟨⟨f.ms h1 a3, h2, (f.2 27 (nn a6)).trans h3, h4, MapOK_of h5 e3, (f.2 26 (nn a5)).trans h6⟩, h7, (f.2 25 (nn a4)).trans h8, h9, (f.2 28 (nn a7)).trans h10, h11⟩
theorem MP_set {s : List (Nat × Nat)} {c1 : Nat → Nat → Int} {n1 : Nat} (hI1 : Inv s c1 n1) {k m : Int} (k0 : 0 ≤ k) (k1 : k < c1 143 1) (m0 : 0 ≤ m) (m1 : m < c1 143 0) : MP (mSet c1 k.toNat) k.toNat m := by
  obtain ⟨M1, M2, q2, fS, E3, E5, hm2, hM2, ha2, kk, hco, q4⟩ := both hI1 k0 k1 m0 m1
  have hS := hI1.sh k0 k1
  unfold MP
  rw [E5]
  exact ⟨⟨hm2, kk, mSet_27 _ _, hco, hM2, mSet_26 _ _⟩, ha2, mSet_25 _ _, hS.2.1, mSet_28 _ _, hS.2.2.1⟩
section
variable {s : List (Nat × Nat)} {b : Nat → Nat → Int}
theorem MP.n224 (d : Nat) (hs : SpL s) {k : Nat} {m : Int} (h : MP b k m) : Cd (d + 1) 224 [vA 142, vI m] (s, b) = some ([vI (asN (b 145 (800 * k + 3)) (b 143 (20 + m).toNat) (b 143 (24 + m).toNat))], (s, b)) := m224 d hs h.1.1 h.1.2.2.2.2.1 h.1.2.2.2.2.2 h.2.1
theorem MP.n232 (d : Nat) (hs : SpL s) {k : Nat} {m : Int} (h : MP b k m) {i r w : Int} (h0 : 0 ≤ i) (h1 : i < asN (b 145 (800 * k + 3)) (b 143 (20 + m).toNat) (b 143 (24 + m).toNat)) (r0 : 0 ≤ r) (r1 : r < 2187) (w0 : 0 ≤ w) (w1 : w < 6) : ∃ c', Cd (d + 5) 232 [vA 142, vI m, vI i, vI r, vI w] (s, b) = some ([vI (b2i (belR b k m w i r))], (s, c')) ∧ Fm [152, 153, 154] [] b c' := m232 d hs h.1.1 h.1.2.1 h.1.2.2.1 h.1.2.2.2.1 h.1.2.2.2.2.1 h.1.2.2.2.2.2 h.2.1 h0 h1 r0 r1 w0 w1
def stM (b : Nat → Nat → Int) (k : Nat) (m r a i : Int) (n : Nat) (v : Int) (q : Int × Int × Int × Int) : Int × Int × Int × Int := (q.1 + sumU (fun v => b2i (!belR b k m (drS (b 145 (800 * k + 1)) v) i r)) n v, if q.1 = 0 ∧ 0 < sumU (fun v => b2i (!belR b k m (drS (b 145 (800 * k + 1)) v) i r)) n v then (a, i, (fnd (fun v => if belR b k m (drS (b 145 (800 * k + 1)) v) i r then none else some (drS (b 145 (800 * k + 1)) v)) n v).getD (-1)) else q.2)
theorem stM_R (b : Nat → Nat → Int) (k : Nat) (m r a i : Int) (q : Int × Int × Int × Int) : stM b k m r a i (b 145 (800 * k + 1)).toNat 0 q = stR b k m r a i q := rfl
theorem stM_0 (b : Nat → Nat → Int) (k : Nat) (m r a i v : Int) (q : Int × Int × Int × Int) : stM b k m r a i 0 v q = q := by
  unfold stM; simp [sumU]
theorem stM_t {b : Nat → Nat → Int} {k : Nat} {m r a i v : Int} (h : belR b k m (drS (b 145 (800 * k + 1)) v) i r = true) (n : Nat) (q : Int × Int × Int × Int) : stM b k m r a i (n + 1) v q = stM b k m r a i n (v + 1) q := by
  unfold stM
  simp only [sumU, fnd, h, Bool.not_true, b2i_f, Int.zero_add, if_true]
theorem stM_f {b : Nat → Nat → Int} {k : Nat} {m r a i v : Int} (h : belR b k m (drS (b 145 (800 * k + 1)) v) i r = false) (n : Nat) (q : Int × Int × Int × Int) (h0 : 0 ≤ q.1) : stM b k m r a i (n + 1) v q = stM b k m r a i n (v + 1) (q.1 + 1, if q.1 = 0 then (a, i, drS (b 145 (800 * k + 1)) v) else q.2) := by
  have nn := (sumU_b (B := 1) (fun v => b2i (!belR b k m (drS (b 145 (800 * k + 1)) v) i r)) n (v + 1) (fun i _ _ => b2i_b _)).1
  unfold stM
  simp only [sumU, fnd, h, Bool.not_false, b2i_t, Bool.false_eq_true, if_false]
  rw [if_neg (show ¬ (q.1 + 1 = 0 ∧ _) from fun w => by have := w.1; omega), Int.add_assoc]
  by_cases g : q.1 = 0
  · rw [if_pos ⟨g, by omega⟩, if_pos g]; rfl
  · rw [if_neg (fun w => g w.1), if_neg g]
def QM (c : Nat → Nat → Int) (q : Int × Int × Int × Int) : Prop := c 142 32 = q.2.1 ∧ c 142 33 = q.2.2.1 ∧ c 142 34 = q.2.2.2
theorem m234_29 (d : Nat) (hs : SpL s) {k : Nat} {m : Int} (hP : MP b k m) {a r i : Int} (a0 : 0 ≤ a) (a1 : a < 2187) (er : b 148 a.toNat = r) (r0 : 0 ≤ r) (r1 : r < 2187) (i0 : 0 ≤ i) (i1 : i < asN (b 145 (800 * k + 3)) (b 143 (20 + m).toNat) (b 143 (24 + m).toNat)) : ∀ (n : Nat) (v : Int) (q : Int × Int × Int × Int) (c : Nat → Nat → Int), Fm [152, 153, 154] [32, 33, 34] b c → QM c q → 0 ≤ v → v + n = b 145 (800 * k + 1) → 0 ≤ q.1 → q.1 + n < 2147483648 → ∃ c', Rr (Cd (d + 5)) 234 29 [some (vA 142), some (vI m), some (vI q.1), some (vI a), some (vI i), some (vI v)] [] (s, c) = Rr (Cd (d + 5)) 234 29 [some (vA 142), some (vI m), some (vI (stM b k m r a i n v q).1), some (vI a), some (vI i), some (vI (b 145 (800 * k + 1)))] [] (s, c') ∧ Fm [152, 153, 154] [32, 33, 34] b c' ∧ QM c' (stM b k m r a i n v q)
  | 0, v, q, c, hF, hQ, h0, h, g0, g1 => ⟨c, by rw [stM_0, show v = b 145 (800 * k + 1) by omega], hF, by rw [stM_0]; exact hQ⟩
  | n + 1, v, Q, c, hF, hQ, h0, h, g0, g1 => by
    obtain ⟨hP1, e3, e5⟩ := hP.mv hF (by decide)
    have hm1 := hP1.1.1
    have wd := drS_b hP.2.2.2.1 h0 (by omega)
    have w6 : b 145 (800 * k + 1) ≤ 6 := by have := hP.2.2.2.1; omega
    have e25 : c 142 25 = b 145 (800 * k + 1) := (hF.2 25 (by decide)).trans hP.2.2.1
    have e8 : c 148 a.toNat = r := by rw [hF.1 148 (by decide) (by decide)]; exact er
    have q3 := m223 (d + 4) hs e25 h0 (by omega)
    obtain ⟨c1, q, f⟩ := hP1.n232 d hs i0 (by rw [e3, e5]; exact i1) r0 r1 wd.1 wd.2
    rw [belR_of e3 e5] at q
    have hF1 : Fm [152, 153, 154] [32, 33, 34] b c1 := hF.tr (f.mono (by decide) (by decide))
    have hQ1 : QM c1 Q := ⟨(f.2 32 (by decide)).trans hQ.1, (f.2 33 (by decide)).trans hQ.2.1, (f.2 34 (by decide)).trans hQ.2.2⟩
    rw [c234_29]
    repeat (first | rw [bnd_s] | rw [tI_m] | rw [tL_m] | rw [tA_m] | rw [tV_m] | rw [fC142 hs _ (by decide)] | rw [pC142 hs _ _ (by decide)] | rw [MS_0 hm1] | rw [MS_1 hm1] | rw [MS_2 hm1] | rw [MS_3 hm1] | rw [MS_4 hm1] | rw [MS_5 hm1] | rw [MS_7 hm1] | rw [MS_8 hm1] | rw [MS_21 hm1] | rw [MS_29 hm1] | rw [MS_30 hm1] | rw [MS_31 hm1] | rw [MS_37 hm1] | rw [MS_38 hm1] | rw [MS_39 hm1] | rw [MS_40 hm1] | rw [e25] | rw [if_pos (show v < b 145 (800 * k + 1) by omega)] | rw [aC148 hs _ a0 a1] | rw [e8] | rw [q3] | rw [q] | rw [if_b0])
    by_cases B : belR b k m (drS (b 145 (800 * k + 1)) v) i r = true
    · rw [B, cond_t, stM_t B, c234_62, w32_id (z := v + 1) (by omega) (by omega)]
      exact m234_29 d hs hP a0 a1 er r0 r1 i0 i1 n (v + 1) Q c1 hF1 hQ1 (by omega) (by omega) g0 (by omega)
    · have B := Bool.eq_false_iff.mpr B
      rw [B, cond_f, stM_f B _ _ g0, w32_id (z := Q.1 + 1) (by omega) (by omega)]
      by_cases z : Q.1 = 0
      · rw [if_neg (by omega), if_pos z]
        have hF2 : Fm [152, 153, 154] [32, 33, 34] b (u2 (u2 (u2 c1 142 32 a) 142 33 i) 142 34 (drS (b 145 (800 * k + 1)) v)) := ((hF1.f _ (by decide)).f _ (by decide)).f _ (by decide)
        have q3' := m223 (d + 4) (c := u2 (u2 c1 142 32 a) 142 33 i) hs (w := b 145 (800 * k + 1)) (by rw [u2_n (by omega), u2_n (by omega)]; exact (f.2 25 (by decide)).trans e25) h0 (by omega)
        have hQ2 : QM (u2 (u2 (u2 c1 142 32 a) 142 33 i) 142 34 (drS (b 145 (800 * k + 1)) v)) (Q.1 + 1, a, i, drS (b 145 (800 * k + 1)) v) := ⟨by rw [u2_n (by omega), u2_n (by omega), u2_e], by rw [u2_n (by omega), u2_e], by rw [u2_e]⟩
        repeat (first | rw [bnd_s] | rw [tI_m] | rw [tL_m] | rw [tA_m] | rw [tV_m] | rw [fC142 hs _ (by decide)] | rw [pC142 hs _ _ (by decide)] | rw [q3'] | rw [c234_62] | rw [w32_id (z := v + 1) (by omega) (by omega)])
        exact m234_29 d hs hP a0 a1 er r0 r1 i0 i1 n (v + 1) (Q.1 + 1, a, i, drS (b 145 (800 * k + 1)) v) _ hF2 hQ2 (by omega) (by omega) (by show 0 ≤ Q.1 + 1; omega) (by show Q.1 + 1 + (n : Int) < 2147483648; omega)
      · rw [if_pos (by omega), if_neg z, c234_62, w32_id (z := v + 1) (by omega) (by omega)]
        exact m234_29 d hs hP a0 a1 er r0 r1 i0 i1 n (v + 1) (Q.1 + 1, Q.2) c1 hF1 hQ1 (by omega) (by omega) (by show 0 ≤ Q.1 + 1; omega) (by show Q.1 + 1 + (n : Int) < 2147483648; omega)
theorem stR_b {k : Nat} {m r a i : Int} (hw : b 145 (800 * k + 1) = 1 ∨ b 145 (800 * k + 1) = 2 ∨ b 145 (800 * k + 1) = 3 ∨ b 145 (800 * k + 1) = 6) (q : Int × Int × Int × Int) (h : 0 ≤ q.1) : 0 ≤ (stR b k m r a i q).1 ∧ (stR b k m r a i q).1 ≤ q.1 + 6 := by
  have cb : 0 ≤ cnR b k m r i ∧ cnR b k m r i ≤ 6 := cnB_b (fun v => belR b k m v i r) hw
  have : (stR b k m r a i q).1 = q.1 + cnR b k m r i := rfl
  omega
theorem m234_22 (d : Nat) (hs : SpL s) {k : Nat} {m : Int} (hP : MP b k m) {a r : Int} (a0 : 0 ≤ a) (a1 : a < 2187) (er : b 148 a.toNat = r) (r0 : 0 ≤ r) (r1 : r < 2187) : ∀ (n : Nat) (i : Int) (q : Int × Int × Int × Int) (c : Nat → Nat → Int), Fm [152, 153, 154] [32, 33, 34] b c → QM c q → 0 ≤ i → i + n = asN (b 145 (800 * k + 3)) (b 143 (20 + m).toNat) (b 143 (24 + m).toNat) → 0 ≤ q.1 → q.1 + 6 * n < 2147483648 → ∀ o5, ∃ c' o5', Rr (Cd (d + 5)) 234 22 [some (vA 142), some (vI m), some (vI q.1), some (vI a), some (vI i), o5] [] (s, c) = Rr (Cd (d + 5)) 234 16 [some (vA 142), some (vI m), some (vI (itU (stR b k m r a) n i q).1), some (vI (a + 1)), some (vI (asN (b 145 (800 * k + 3)) (b 143 (20 + m).toNat) (b 143 (24 + m).toNat))), o5'] [] (s, c') ∧ Fm [152, 153, 154] [32, 33, 34] b c' ∧ QM c' (itU (stR b k m r a) n i q) ∧ 0 ≤ (itU (stR b k m r a) n i q).1 ∧ (itU (stR b k m r a) n i q).1 ≤ q.1 + 6 * n
  | 0, i, q, c, hF, hQ, h0, h, g0, g1, o5 => by
    obtain ⟨hP1, e3, e5⟩ := hP.mv hF (by decide)
    have q4 := hP1.n224 (d + 4) hs
    rw [e3, e5] at q4
    refine ⟨c, o5, ?_, hF, hQ, g0, by simp only [itU]; omega⟩
    rw [c234_22]
    repeat (first | rw [bnd_s] | rw [tI_m] | rw [tL_m] | rw [tA_m] | rw [tV_m] | rw [q4] | rw [if_neg (show ¬ i < asN (b 145 (800 * k + 3)) (b 143 (20 + m).toNat) (b 143 (24 + m).toNat) by omega)] | rw [w32_id (z := a + 1) (by omega) (by omega)])
    simp only [itU]
    rw [show i = asN (b 145 (800 * k + 3)) (b 143 (20 + m).toNat) (b 143 (24 + m).toNat) by omega]
  | n + 1, i, q, c, hF, hQ, h0, h, g0, g1, o5 => by
    obtain ⟨hP1, e3, e5⟩ := hP.mv hF (by decide)
    have hM := hP.1.2.2.2.2.1
    have aN := asN_b (a := b 145 (800 * k + 3)) hM.2.1.1 hM.2.1.2 hM.2.2.1.1 hM.2.2.1.2
    have q4 := hP1.n224 (d + 4) hs
    rw [e3, e5] at q4
    have w6 : 1 ≤ b 145 (800 * k + 1) ∧ b 145 (800 * k + 1) ≤ 6 := by have := hP.2.2.2.1; omega
    obtain ⟨c1, y1, y2, y3⟩ := m234_29 d hs hP a0 a1 er r0 r1 h0 (by omega) (b 145 (800 * k + 1)).toNat 0 q c hF hQ (by omega) (by omega) g0 (by omega)
    rw [stM_R] at y1 y3
    have sb := stR_b (b := b) (m := m) (r := r) (a := a) (i := i) hP.2.2.2.1 q g0
    obtain ⟨c2, o5', z1, z2, z3, z4, z5⟩ := m234_22 d hs hP a0 a1 er r0 r1 n (i + 1) (stR b k m r a i q) c1 y2 y3 (by omega) (by omega) sb.1 (by omega) (some (vI (b 145 (800 * k + 1))))
    have e25 : c1 142 25 = b 145 (800 * k + 1) := (y2.2 25 (by decide)).trans hP.2.2.1
    refine ⟨c2, o5', ?_, z2, z3, z4, by simp only [itU]; omega⟩
    simp only [itU]
    rw [← z1, c234_22]
    repeat (first | rw [bnd_s] | rw [tI_m] | rw [tL_m] | rw [tA_m] | rw [tV_m] | rw [q4] | rw [if_pos (show i < asN (b 145 (800 * k + 3)) (b 143 (20 + m).toNat) (b 143 (24 + m).toNat) by omega)])
    rw [y1, c234_29]
    repeat (first | rw [bnd_s] | rw [tI_m] | rw [tL_m] | rw [tA_m] | rw [tV_m] | rw [fC142 hs _ (by decide)] | rw [pC142 hs _ _ (by decide)] | rw [e25] | rw [if_neg (show ¬ b 145 (800 * k + 1) < b 145 (800 * k + 1) by omega)] | rw [w32_id (z := i + 1) (by omega) (by omega)])
theorem m234_16 (d : Nat) (hs : SpL s) {k : Nat} {m : Int} (hP : MP b k m) (hA : AnsAt b (ansL b m)) : ∀ (n : Nat) (a : Int) (q : Int × Int × Int × Int) (c : Nat → Nat → Int), Fm [152, 153, 154] [32, 33, 34] b c → QM c q → 0 ≤ a → a + n = (ansL b m).length → 0 ≤ q.1 → q.1 + 126 * n < 2147483648 → ∀ o4 o5, ∃ c', Rr (Cd (d + 5)) 234 16 [some (vA 142), some (vI m), some (vI q.1), some (vI a), o4, o5] [] (s, c) = some ([vI (itU (rgI b k m) n a q).1], (s, c')) ∧ Fm [152, 153, 154] [32, 33, 34] b c' ∧ QM c' (itU (rgI b k m) n a q)
  | 0, a, q, c, hF, hQ, h0, h, g0, g1, o4, o5 => by
    have e6 : c 142 6 = (ansL b m).length := (hF.2 6 (by decide)).trans hA.1
    refine ⟨c, ?_, hF, hQ⟩
    rw [c234_16]
    repeat (first | rw [bnd_s] | rw [tI_m] | rw [tL_m] | rw [tA_m] | rw [tV_m] | rw [fC142 hs _ (by decide)] | rw [pC142 hs _ _ (by decide)] | rw [e6] | rw [if_neg (show ¬ a < ((ansL b m).length : Int) by omega)])
    rfl
  | n + 1, a, q, c, hF, hQ, h0, h, g0, g1, o4, o5 => by
    have hM := hP.1.2.2.2.2.1
    have aN := asN_b (a := b 145 (800 * k + 3)) hM.2.1.1 hM.2.1.2 hM.2.2.1.1 hM.2.2.1.2
    have ll := ansL_len hM
    have al := ansL_at hM (i := a.toNat) (by omega)
    have e6 : c 142 6 = (ansL b m).length := (hF.2 6 (by decide)).trans hA.1
    obtain ⟨c1, o5', y1, y2, y3, y4, y5⟩ := m234_22 d hs hP h0 (by omega) (hA.2 a.toNat (by omega)) al.1 al.2.2.1 (asN (b 145 (800 * k + 3)) (b 143 (20 + m).toNat) (b 143 (24 + m).toNat)).toNat 0 q c hF hQ (by omega) (by omega) g0 (by omega) o5
    obtain ⟨c2, z1, z2, z3⟩ := m234_16 d hs hP hA n (a + 1) (rgI b k m a q) c1 y2 y3 (by omega) (by omega) y4 (by unfold rgI; omega) (some (vI (asN (b 145 (800 * k + 3)) (b 143 (20 + m).toNat) (b 143 (24 + m).toNat)))) o5'
    refine ⟨c2, ?_, z2, z3⟩
    rw [c234_16]
    repeat (first | rw [bnd_s] | rw [tI_m] | rw [tL_m] | rw [tA_m] | rw [tV_m] | rw [fC142 hs _ (by decide)] | rw [pC142 hs _ _ (by decide)] | rw [e6] | rw [if_pos (show a < ((ansL b m).length : Int) by omega)])
    rw [y1]
    exact z1
end
