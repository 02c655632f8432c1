/-! tells: the class -/
def PlL (b c : Nat → Nat → Int) : Prop := ∀ o i, o ≠ 135 → c o i = b o i
theorem PlL.pl {b c : Nat → Nat → Int} (h : PlL b c) : PlF b c := fun o i _ h2 _ => h o i h2
theorem drw_b (w : Int) : 0 ≤ drw w ∧ drw w < 64 := by unfold drw; split <;> (try split) <;> (try split) <;> omega
theorem md_b {p s : Int} (p0 : 0 ≤ p) (p1 : p < 81) (s0 : 0 ≤ s) (s1 : s < 6) : 0 ≤ md p s ∧ md p s < 81 := by
  have a := swO_b (o := p / 9) (w := s) (by omega) (by omega) s0 s1
  have c := swO_b (o := p % 9) (w := s) (by omega) (by omega) s0 s1
  unfold md; omega
section
variable {s : List (Nat × Nat)} {b : Nat → Nat → Int}
theorem k55_16 (d : Nat) {n0 : Nat} (hI : Inv s b n0) {w : Int} (hd : b 131 6 = drw w) {p : Int} (p0 : 0 ≤ p) (p1 : p < 81) : ∀ (n : Nat) (v : Int) (c : Nat → Nat → Int) (o3 : Option AV), 0 ≤ v → v + n = 6 → PlL b c → ∃ c' o3', Rr (Cd (d + 1)) 55 16 [some (vA 131), some (vI p), some (vI v), o3] [] (s, c) = Rr (Cd (d + 1)) 55 2 [some (vA 131), some (vI (p + 1)), some (vI 6), o3'] [] (s, c') ∧ PlL b c' ∧ (∀ x : Nat, x ≠ p.toNat → c' 135 x = c 135 x) ∧ c' 135 p.toNat = lwS w p n v (c 135 p.toNat)
  | 0, v, c, o3, h0, h, hF => ⟨c, o3, by rw [c55_16, if_neg (by omega), w32_id (by omega) (by omega), show v = 6 by omega], hF, fun _ _ => rfl, rfl⟩
  | n + 1, v, c, o3, h0, h, hF => by
    have hI1 := hF.pl.inv hI
    have hs := hI1.1.l
    have hc := hI1.2.2.2.1
    have db := drw_b w
    have e6 : c 131 6 = drw w := (hF 131 6 (by omega)).trans hd
    have q1 := k169 d (s, c) db.1 (by omega) h0 (show v < 32 by omega)
    have sa := swO_b (o := p / 9) (w := v) (by omega) (by omega) h0 (by omega)
    have sb := swO_b (o := p % 9) (w := v) (by omega) (by omega) h0 (by omega)
    have em : swO (p / 9) v * 9 + swO (p % 9) v = md p v := by unfold md; omega
    have mb := md_b p0 p1 h0 (show v < 6 by omega)
    simp only [lwS]
    by_cases g : bt (drw w) v = true
    · rw [g, if_pos rfl]
      rw [g] at q1
      have z : ∃ a, a = if md p v < c 135 p.toNat then md p v else c 135 p.toNat := ⟨_, rfl⟩
      obtain ⟨a, za⟩ := z
      obtain ⟨c', o3', y1, y2, y3, y4⟩ := k55_16 d hI hd p0 p1 n (v + 1) (u2 c 135 p.toNat a) (some (vI (md p v))) (by omega) (by omega) (fun o i ho => by rw [u2_n (by omega)]; exact hF o i ho)
      refine ⟨c', o3', ?_, y2, fun x hx => by rw [y3 x hx, u2_n (by omega)], by rw [y4, u2_e, za]⟩
      rw [← y1, c55_16, if_pos (by omega)]
      repeat (first | rw [bnd_s] | rw [tI_m] | rw [tL_m] | rw [tA_m] | rw [tV_m] | rw [fC131 hs _ (by decide)] | rw [pC131 hs _ _ (by decide)] | rw [e6] | rw [q1] | rw [b2i_t] | rw [if_neg (show ¬ (1 : Int) = 0 by decide)] | rw [idiv_n p0 (by omega) (show (0 : Int) < 9 by decide) (by decide)] | rw [irem_n p0 (by omega) (show (0 : Int) < 9 by decide) (by decide)] | rw [k168 d hs hI1.2.1 h0 (show v < 6 by omega) (show 0 ≤ p / 9 by omega) (by omega)] | rw [k168 d hs hI1.2.1 h0 (show v < 6 by omega) (show 0 ≤ p % 9 by omega) (by omega)] | rw [CS_131_3 hc] | rw [aC135 hs _ p0 (by omega)] | rw [w32_id (z := swO (p / 9) v * 9) (by omega) (by omega)] | rw [em] | rw [w32_id (z := md p v) (by omega) (by omega)] | rw [j288] | rw [← za] | rw [qC135 hs _ _ p0 (by omega)] | rw [c55_48] | rw [w32_id (z := v + 1) (by omega) (by omega)])
    · have g' := Bool.eq_false_iff.mpr g
      rw [g', if_neg (by decide)]
      rw [g'] at q1
      obtain ⟨c', o3', y1, y2, y3, y4⟩ := k55_16 d hI hd p0 p1 n (v + 1) c o3 (by omega) (by omega) hF
      refine ⟨c', o3', ?_, y2, y3, y4⟩
      rw [← y1, c55_16, if_pos (by omega)]
      repeat (first | rw [bnd_s] | rw [tI_m] | rw [tL_m] | rw [tA_m] | rw [tV_m] | rw [fC131 hs _ (by decide)] | rw [pC131 hs _ _ (by decide)] | rw [e6] | rw [q1] | rw [b2i_f] | rw [if_pos (show (0 : Int) = 0 from rfl)] | rw [c55_48] | rw [w32_id (z := v + 1) (by omega) (by omega)])
theorem k55_2 (d : Nat) {n0 : Nat} (hI : Inv s b n0) {w : Int} (hd : b 131 6 = drw w) : ∀ (n : Nat) (p : Int) (c : Nat → Nat → Int) (o2 o3 : Option AV), 0 ≤ p → p + n = 81 → PlL b c → (∀ x : Int, 0 ≤ x → x < p → c 135 x.toNat = lw w x) → ∃ c', Rr (Cd (d + 1)) 55 2 [some (vA 131), some (vI p), o2, o3] [] (s, c) = some ([], (s, c')) ∧ PlL b c' ∧ ∀ x : Int, 0 ≤ x → x < 81 → c' 135 x.toNat = lw w x
  | 0, p, c, o2, o3, h0, h, hF, hD => by
    have hI1 := hF.pl.inv hI
    have hs := hI1.1.l
    have hc := hI1.2.2.2.1
    refine ⟨c, ?_, hF, fun x x0 x1 => hD x x0 (by omega)⟩
    rw [c55_2]
    repeat (first | rw [bnd_s] | rw [tI_m] | rw [tL_m] | rw [tA_m] | rw [tV_m] | rw [fC131 hs _ (by decide)] | rw [pC131 hs _ _ (by decide)] | rw [CS_131_3 hc] | rw [lC135 hs _] | rw [if_neg (show ¬ p < 81 by omega)])
  | n + 1, p, c, o2, o3, h0, h, hF, hD => by
    have hI1 := hF.pl.inv hI
    have hs := hI1.1.l
    have hc := hI1.2.2.2.1
    obtain ⟨c1, o3', x1, x2, x3, x4⟩ := k55_16 d hI hd h0 (show p < 81 by omega) 6 0 (u2 c 135 p.toNat 81) o3 (by omega) (by omega) (fun o i ho => by rw [u2_n (by omega)]; exact hF o i ho)
    rw [u2_e] at x4
    obtain ⟨c', y1, y2, y3⟩ := k55_2 d hI hd n (p + 1) c1 (some (vI 6)) o3' (by omega) (by omega) x2 (fun x z0 z1 => by
      by_cases e : x = p
      · subst e; exact x4
      · rw [x3 x.toNat (by omega), u2_n (by omega)]; exact hD x z0 (by omega))
    refine ⟨c', ?_, y2, y3⟩
    rw [← y1, ← x1, c55_2]
    repeat (first | rw [bnd_s] | rw [tI_m] | rw [tL_m] | rw [tA_m] | rw [tV_m] | rw [fC131 hs _ (by decide)] | rw [pC131 hs _ _ (by decide)] | rw [CS_131_3 hc] | rw [lC135 hs _] | rw [if_pos (show p < 81 by omega)] | rw [qC135 hs _ _ h0 (by omega)])
/-- an opening before it is swapped -/
def oR (b : Nat → Nat → Int) (k : Nat) (m i r : Int) : Int := 3 * pnt (b 143 (20 + m).toNat) r (asX b m (b 145 (800 * k + 3)) i) + pnt (b 143 (20 + m).toNat) r (asY b m (b 145 (800 * k + 3)) i)
theorem oR_b {k : Nat} {m i r : Int} : 0 ≤ oR b k m i r ∧ oR b k m i r < 9 := by
  have p1 := pnt_b (b 143 (20 + m).toNat) r (asX b m (b 145 (800 * k + 3)) i)
  have p2 := pnt_b (b 143 (20 + m).toNat) r (asY b m (b 145 (800 * k + 3)) i)
  unfold oR; omega
def lwA (b : Nat → Nat → Int) (k : Nat) (m i j a : Int) : Int := lw (b 145 (800 * k + 1)) (9 * oR b k m i ((ansL b m).getD a.toNat 0) + oR b k m j ((ansL b m).getD a.toNat 0))
def dP (b : Nat → Nat → Int) (k : Nat) (m i j a : Int) : Bool := decide (lwA b k m i j 0 ≠ lwA b k m i j a)
def fP (b : Nat → Nat → Int) (k : Nat) (m i j : Int) (a : Int) : Option Int := if dP b k m i j a then some a else none
theorem fP_n {b : Nat → Nat → Int} {k : Nat} {m i j a : Int} (h : lwA b k m i j 0 = lwA b k m i j a) : fP b k m i j a = none := by
  unfold fP dP; exact if_neg (by rw [decide_eq_false (fun z => z h)]; decide)
theorem fP_s {b : Nat → Nat → Int} {k : Nat} {m i j a : Int} (h : lwA b k m i j 0 ≠ lwA b k m i j a) : fP b k m i j a = some a := by
  unfold fP dP; exact if_pos (decide_eq_true h)
def lwD (b c : Nat → Nat → Int) (k : Nat) : Prop := ∀ x : Int, 0 ≤ x → x < 81 → c 135 x.toNat = lw (b 145 (800 * k + 1)) x
theorem k56_4 (d : Nat) {n0 : Nat} (hI : Inv s b n0) {k : Nat} {m : Int} (m0 : 0 ≤ m) (m1 : m < b 143 0) (ha2 : 0 ≤ b 145 (800 * k + 3) ∧ b 145 (800 * k + 3) ≤ 2) (hP : PlayR b k m) (hA : AnsC s b (40 + 5 * m.toNat) (b 143 (20 + m).toNat) (ansL b m)) (hw : b 145 (800 * k + 1) = 1 ∨ b 145 (800 * k + 1) = 2 ∨ b 145 (800 * k + 1) = 3 ∨ b 145 (800 * k + 1) = 6) {i j : Int} (i0 : 0 ≤ i) (i1 : i < asN (b 145 (800 * k + 3)) (b 143 (20 + m).toNat) (b 143 (24 + m).toNat)) (j0 : 0 ≤ j) (j1 : j < asN (b 145 (800 * k + 3)) (b 143 (20 + m).toNat) (b 143 (24 + m).toNat)) {c : Nat → Nat → Int} (hF : PlF b c) (hD : lwD b c k) : ∀ (n : Nat) (a v : Int) (o5 o6 o7 : Option AV), 0 ≤ a → a + n = (ansL b m).length → (0 < a → v = lwA b k m i j 0) → Rr (Cd (d + 2)) 56 4 [some (vA 131), some (vI i), some (vI j), some (vI v), some (vI a), o5, o6, o7] [] (s, c) = some ([vI ((fdU (fP b k m i j) n a).getD (-1))], (s, c))
  | 0, a, v, o5, o6, o7, h0, h, hv => by
    have hI1 := hF.inv hI
    have hs := hI1.1.l
    have hc := hI1.2.2.2.1
    have n4 := hI.nM.2
    have hch := chN hs hc (m := m.toNat) (by omega)
    have p5 := (PlayR_of hP hF).1
    have p8 : c (40 + 5 * m.toNat) 8 = (ansL b m).length := (hF _ _ (by omega) (by omega) (by omega)).trans hA.2.1
    rw [c56_4]
    repeat (first | rw [bnd_s] | rw [tI_m] | rw [tL_m] | rw [tA_m] | rw [tV_m] | rw [fC131 hs _ (by decide)] | rw [pC131 hs _ _ (by decide)] | rw [p5] | rw [gF_g hch.1.1 _ (by decide)] | rw [p8] | rw [if_neg (show ¬ a < ((ansL b m).length : Int) by omega)])
    rfl
  | n + 1, a, v, o5, o6, o7, h0, h, hv => by
    have hI1 := hF.inv hI
    have hs := hI1.1.l
    have hc := hI1.2.2.2.1
    have n4 := hI.nM.2
    have hM := hI.mok m m0 m1
    have n7 := hM.2.1.2
    have aN := asN_b (a := b 145 (800 * k + 3)) hM.2.1.1 hM.2.1.2 hM.2.2.1.1 hM.2.2.1.2
    have hch := chN hs hc (m := m.toNat) (by omega)
    have p5 := (PlayR_of hP hF).1
    have p8 : c (40 + 5 * m.toNat) 8 = (ansL b m).length := (hF _ _ (by omega) (by omega) (by omega)).trans hA.2.1
    have ll := ansL_len hM
    have al := ansL_at hM (i := a.toNat) (by omega)
    have hA1 : AnsC s c (40 + 5 * m.toNat) (b 143 (20 + m).toNat) (ansL b m) := AnsC_of hA ⟨[], by simp⟩ (fun k => hF _ _ (by omega) (by omega) (by omega)) (fun r hr _ => ⟨funext fun k => hF _ _ (by omega) (by omega) (by omega), funext fun k => hF _ _ (by omega) (by omega) (by omega)⟩)
    have q15 := k15 (d + 1) hch hA1 (by omega) a
    rw [if_pos ⟨h0, by omega⟩] at q15
    have z : ∃ r, r = (ansL b m).getD a.toNat 0 := ⟨_, rfl⟩
    obtain ⟨r, zr⟩ := z
    rw [← zr] at al q15
    have pk := pk_ok hM.2.1.1 hM.2.1.2 al.1 al.2.1
    have gi := hP.2.2.2.2 i i0 i1
    have gj := hP.2.2.2.2 j j0 j1
    have e2 : c 132 i.toNat = asX b m (b 145 (800 * k + 3)) i := (hF _ _ (by omega) (by omega) (by omega)).trans gi.1
    have e3 : c 133 i.toNat = asY b m (b 145 (800 * k + 3)) i := (hF _ _ (by omega) (by omega) (by omega)).trans gi.2.1
    have e2' : c 132 j.toNat = asX b m (b 145 (800 * k + 3)) j := (hF _ _ (by omega) (by omega) (by omega)).trans gj.1
    have e3' : c 133 j.toNat = asY b m (b 145 (800 * k + 3)) j := (hF _ _ (by omega) (by omega) (by omega)).trans gj.2.1
    have bx := asX_b hM ha2 i0 i1
    have by' := asX_b hM ha2 j0 j1
    have ei : opn (pkR r (b 143 (20 + m).toNat)) (asX b m (b 145 (800 * k + 3)) i) (asY b m (b 145 (800 * k + 3)) i) = oR b k m i r := by
      unfold opn oR; rw [pk.2 _ bx.1.1 bx.1.2, pk.2 _ bx.2.1 bx.2.2, Int.mul_comm]
    have ej : opn (pkR r (b 143 (20 + m).toNat)) (asX b m (b 145 (800 * k + 3)) j) (asY b m (b 145 (800 * k + 3)) j) = oR b k m j r := by
      unfold opn oR; rw [pk.2 _ by'.1.1 by'.1.2, pk.2 _ by'.2.1 by'.2.2, Int.mul_comm]
    have q1 := k166 d (s, c) pk.1.1 (by omega) bx.1.1 (by omega) bx.2.1 (by omega)
    have q2 := k166 d (s, c) pk.1.1 (by omega) by'.1.1 (by omega) by'.2.1 (by omega)
    rw [ei] at q1
    rw [ej] at q2
    have oi := oR_b (b := b) (k := k) (m := m) (i := i) (r := r)
    have oj := oR_b (b := b) (k := k) (m := m) (i := j) (r := r)
    have el : c 135 (9 * oR b k m i r + oR b k m j r).toNat = lwA b k m i j a := by
      rw [hD _ (by omega) (by omega)]; unfold lwA; rw [← zr]
    have ih := fun v hv => k56_4 d hI m0 m1 ha2 hP hA hw i0 i1 j0 j1 hF hD n (a + 1) v (some (vI (pkR r (b 143 (20 + m).toNat)))) (some (vI (oR b k m i r))) (some (vI (lwA b k m i j a))) (by omega) (by omega) hv
    simp only [fdU]
    rw [c56_4]
    repeat (first | rw [bnd_s] | rw [tI_m] | rw [tL_m] | rw [tA_m] | rw [tV_m] | rw [fC131 hs _ (by decide)] | rw [pC131 hs _ _ (by decide)] | rw [p5] | rw [gF_g hch.1.1 _ (by decide)] | rw [p8] | rw [if_pos (show a < ((ansL b m).length : Int) by omega)] | rw [q15] | rw [CS_131_0 hc] | rw [CS_131_1 hc] | rw [CS_131_3 hc] | rw [aC132 hs _ i0 (by omega)] | rw [aC133 hs _ i0 (by omega)] | rw [aC132 hs _ j0 (by omega)] | rw [aC133 hs _ j0 (by omega)] | rw [e2] | rw [e3] | rw [e2'] | rw [e3'] | rw [q1] | rw [q2] | rw [w32_id (z := oR b k m i r * 9) (by omega) (by omega)] | rw [Int.mul_comm (oR b k m i r) 9] | rw [w32_id (z := 9 * oR b k m i r + oR b k m j r) (by omega) (by omega)] | rw [aC135 hs _ (show 0 ≤ 9 * oR b k m i r + oR b k m j r by omega) (by omega)] | rw [el])
    by_cases za : a = 0
    · have e0 : lwA b k m i j 0 = lwA b k m i j a := by rw [za]
      rw [if_pos za, c56_53, w32_id (z := a + 1) (by omega) (by omega), ih _ (fun _ => e0.symm), fP_n e0]
    · have hv' := hv (by omega)
      rw [if_neg za, hv']
      by_cases g : lwA b k m i j a = lwA b k m i j 0
      · rw [if_pos g, c56_53, w32_id (z := a + 1) (by omega) (by omega), ih _ (fun _ => rfl), fP_n g.symm]
      · rw [if_neg g, fP_s (fun w => g w.symm)]
        rfl
theorem k56 (d : Nat) {n0 : Nat} (hI : Inv s b n0) {k : Nat} {m : Int} (m0 : 0 ≤ m) (m1 : m < b 143 0) (ha2 : 0 ≤ b 145 (800 * k + 3) ∧ b 145 (800 * k + 3) ≤ 2) (hP : PlayR b k m) (hA : AnsC s b (40 + 5 * m.toNat) (b 143 (20 + m).toNat) (ansL b m)) (hw : b 145 (800 * k + 1) = 1 ∨ b 145 (800 * k + 1) = 2 ∨ b 145 (800 * k + 1) = 3 ∨ b 145 (800 * k + 1) = 6) {i j : Int} (i0 : 0 ≤ i) (i1 : i < asN (b 145 (800 * k + 3)) (b 143 (20 + m).toNat) (b 143 (24 + m).toNat)) (j0 : 0 ≤ j) (j1 : j < asN (b 145 (800 * k + 3)) (b 143 (20 + m).toNat) (b 143 (24 + m).toNat)) {c : Nat → Nat → Int} (hF : PlF b c) (hD : lwD b c k) : Cd (d + 3) 56 [vA 131, vI i, vI j] (s, c) = some ([vI ((fdU (fP b k m i j) (ansL b m).length 0).getD (-1))], (s, c)) := by
  rw [c56 (hg := gC131 hI.1.l c)]
  exact k56_4 d hI m0 m1 ha2 hP hA hw i0 i1 j0 j1 hF hD (ansL b m).length 0 (-1) none none none (by omega) (by omega) (fun w => by omega)
end
theorem fdU_none {α : Type} {f : Int → Option α} : ∀ (n : Nat) (j : Int), fdU f n j = none ↔ ∀ i, j ≤ i → i < j + n → f i = none
  | 0, j => ⟨fun _ i h1 h2 => by omega, fun _ => rfl⟩
  | n + 1, j => by
    simp only [fdU]
    cases g : f j with
    | some x =>
      refine ⟨fun h => (by cases h), fun h => ?_⟩
      rw [h j (by omega) (by omega)] at g; cases g
    | none =>
      simp only []
      rw [fdU_none n (j + 1)]
      refine ⟨fun h i h1 h2 => ?_, fun h i h1 h2 => h i (by omega) (by omega)⟩
      by_cases e : i = j
      · rw [e]; exact g
      · exact h i (by omega) (by omega)
theorem fdU_map {α β : Type} (g : α → β) (f : Int → Option α) : ∀ (n : Nat) (j : Int), (fdU f n j).map g = fdU (fun i => (f i).map g) n j
  | 0, _ => rfl
  | n + 1, j => by
    simp only [fdU]
    rw [← fdU_map g f n (j + 1)]
    cases f j <;> rfl
theorem fdU_pr {α : Type} {P : α → Prop} {f : Int → Option α} : ∀ (n : Nat) (j : Int) (x : α), (∀ i, j ≤ i → i < j + n → ∀ x, f i = some x → P x) → fdU f n j = some x → P x
  | 0, _, _, _, h => by simp [fdU] at h
  | n + 1, j, x, hf, h => by
    simp only [fdU] at h
    cases g : f j with
    | some y => rw [g] at h; simp only [Option.some.injEq] at h; subst h; exact hf j (by omega) (by omega) y g
    | none => rw [g] at h; exact fdU_pr n (j + 1) x (fun i hi hi2 => hf i (by omega) (by omega)) h
/-- by which answer two askings tell -/
def FF (b : Nat → Nat → Int) (k : Nat) (m i j : Int) : Option Int := fdU (fP b k m i j) (ansL b m).length 0
theorem FF_nn {b : Nat → Nat → Int} {k : Nat} {m i j a : Int} (h : FF b k m i j = some a) : 0 ≤ a := fdU_pr (P := fun a => 0 ≤ a) _ _ _ (fun x h1 _ y hy => by
  unfold fP at hy
  split at hy
  · simp only [Option.some.injEq] at hy; omega
  · cases hy) h
def TC (c : Nat → Nat → Int) : Int × Int × Int := (c 131 13, c 131 14, c 131 12)
section
variable {s : List (Nat × Nat)} {b : Nat → Nat → Int}
theorem lwD_u {c : Nat → Nat → Int} {k i : Nat} {v : Int} (h : lwD b c k) : lwD b (u2 c 131 i v) k := fun x x0 x1 => by rw [u2_n (by omega)]; exact h x x0 x1
def T1 (b : Nat → Nat → Int) (k : Nat) (m q i : Int) : Option (Int × Int × Int) := (FF b k m i i).map (fun a => (if q = 2 then 0 else i, if q = 2 then i else -1, a))
def T2 (b : Nat → Nat → Int) (k : Nat) (m i j : Int) : Option (Int × Int × Int) := (FF b k m i j).map (fun a => (i, j, a))
theorem k53_15 (d : Nat) {n0 : Nat} (hI : Inv s b n0) {k : Nat} {m : Int} (m0 : 0 ≤ m) (m1 : m < b 143 0) (ha2 : 0 ≤ b 145 (800 * k + 3) ∧ b 145 (800 * k + 3) ≤ 2) (hP : PlayR b k m) (hA : AnsC s b (40 + 5 * m.toNat) (b 143 (20 + m).toNat) (ansL b m)) (hw : b 145 (800 * k + 1) = 1 ∨ b 145 (800 * k + 1) = 2 ∨ b 145 (800 * k + 1) = 3 ∨ b 145 (800 * k + 1) = 6) (q : Int) : ∀ (n : Nat) (i : Int) (c : Nat → Nat → Int), 0 ≤ i → i + n = asN (b 145 (800 * k + 3)) (b 143 (20 + m).toNat) (b 143 (24 + m).toNat) → PlF b c → lwD b c k → TC c = (-1, -1, -1) → ∃ c', Rr (Cd (d + 3)) 53 15 [some (vA 131), some (vI q), some (vI i)] [] (s, c) = some ([vI (b2i (fdU (T1 b k m q) n i).isSome)], (s, c')) ∧ PlF b c' ∧ TC c' = (fdU (T1 b k m q) n i).getD (-1, -1, -1)
  | 0, i, c, h0, h, hF, hD, hT => by
    have hs := hI.1.l
    have p8 : c 131 8 = asN (b 145 (800 * k + 3)) (b 143 (20 + m).toNat) (b 143 (24 + m).toNat) := (hF _ _ (by omega) (by omega) (by omega)).trans hP.2.2.2.1
    refine ⟨c, ?_, hF, hT⟩
    rw [c53_15]
    repeat (first | rw [bnd_s] | rw [tI_m] | rw [tL_m] | rw [tA_m] | rw [tV_m] | rw [fC131 hs _ (by decide)] | rw [pC131 hs _ _ (by decide)] | rw [p8] | rw [if_neg (show ¬ i < asN (b 145 (800 * k + 3)) (b 143 (20 + m).toNat) (b 143 (24 + m).toNat) by omega)])
    rfl
  | n + 1, i, c, h0, h, hF, hD, hT => by
    have hs := hI.1.l
    have hM := hI.mok m m0 m1
    have aN := asN_b (a := b 145 (800 * k + 3)) hM.2.1.1 hM.2.1.2 hM.2.2.1.1 hM.2.2.1.2
    have p8 : c 131 8 = asN (b 145 (800 * k + 3)) (b 143 (20 + m).toNat) (b 143 (24 + m).toNat) := (hF _ _ (by omega) (by omega) (by omega)).trans hP.2.2.2.1
    have q6 := k56 d hI m0 m1 ha2 hP hA hw h0 (show i < asN (b 145 (800 * k + 3)) (b 143 (20 + m).toNat) (b 143 (24 + m).toNat) by omega) h0 (by omega) hF hD
    have T13 : c 131 13 = -1 := congrArg (fun t => t.1) hT
    have T14 : c 131 14 = -1 := congrArg (fun t => t.2.1) hT
    simp only [fdU]
    cases e : FF b k m i i with
    | none =>
      have q6' : Cd (d + 3) 56 [vA 131, vI i, vI i] (s, c) = some ([vI (-1)], (s, c)) := by
        rw [q6]; show some ([vI ((FF b k m i i).getD (-1))], (s, c)) = _; rw [e]; rfl
      have eT : T1 b k m q i = none := by unfold T1; rw [e]; rfl
      rw [eT]
      obtain ⟨c', y1, y2, y3⟩ := k53_15 d hI m0 m1 ha2 hP hA hw q n (i + 1) (u2 c 131 12 (-1)) (by omega) (by omega) (hF.u (by omega) _) (lwD_u hD) (by unfold TC; rw [u2_n (by omega), u2_n (by omega), u2_e, T13, T14])
      refine ⟨c', ?_, y2, y3⟩
      have e12 : u2 c 131 12 (-1) 131 12 = -1 := u2_e _ _ _ _
      rw [c53_15]
      repeat (first | rw [bnd_s] | rw [tI_m] | rw [tL_m] | rw [tA_m] | rw [tV_m] | rw [fC131 hs _ (by decide)] | rw [pC131 hs _ _ (by decide)] | rw [p8] | rw [if_pos (show i < asN (b 145 (800 * k + 3)) (b 143 (20 + m).toNat) (b 143 (24 + m).toNat) by omega)] | rw [q6'] | rw [e12] | rw [if_pos (show (-1 : Int) = -1 from rfl)] | rw [w32_id (z := i + 1) (by omega) (by omega)])
      exact y1
    | some a =>
      have a0 := FF_nn e
      have q6' : Cd (d + 3) 56 [vA 131, vI i, vI i] (s, c) = some ([vI a], (s, c)) := by
        rw [q6]; show some ([vI ((FF b k m i i).getD (-1))], (s, c)) = _; rw [e]; rfl
      have eT : T1 b k m q i = some (if q = 2 then 0 else i, if q = 2 then i else -1, a) := by unfold T1; rw [e]; rfl
      rw [eT]
      have e12 : u2 c 131 12 a 131 12 = a := u2_e _ _ _ _
      refine ⟨u2 (u2 (u2 c 131 12 a) 131 13 (if q = 2 then 0 else i)) 131 14 (if q = 2 then i else -1), ?_, ((hF.u (by omega) _).u (by omega) _).u (by omega) _, by unfold TC; rw [u2_n (by omega), u2_e, u2_e, u2_n (by omega), u2_n (by omega), u2_e]; rfl⟩
      rw [c53_15]
      repeat (first | rw [bnd_s] | rw [tI_m] | rw [tL_m] | rw [tA_m] | rw [tV_m] | rw [fC131 hs _ (by decide)] | rw [pC131 hs _ _ (by decide)] | rw [p8] | rw [if_pos (show i < asN (b 145 (800 * k + 3)) (b 143 (20 + m).toNat) (b 143 (24 + m).toNat) by omega)] | rw [q6'] | rw [e12] | rw [if_neg (show ¬ a = -1 by omega)])
      by_cases g : q = 2
      · rw [if_pos g, if_pos g, if_pos g, c53_36]
        repeat (first | rw [bnd_s] | rw [tI_m] | rw [tL_m] | rw [tA_m] | rw [tV_m] | rw [fC131 hs _ (by decide)] | rw [pC131 hs _ _ (by decide)] | rw [if_pos g] | rw [c53_44])
        rfl
      · rw [if_neg g, if_neg g, if_neg g, c53_36]
        repeat (first | rw [bnd_s] | rw [tI_m] | rw [tL_m] | rw [tA_m] | rw [tV_m] | rw [fC131 hs _ (by decide)] | rw [pC131 hs _ _ (by decide)] | rw [if_neg g] | rw [c53_44])
        rfl
theorem k54_8 (d : Nat) {n0 : Nat} (hI : Inv s b n0) {k : Nat} {m : Int} (m0 : 0 ≤ m) (m1 : m < b 143 0) (ha2 : 0 ≤ b 145 (800 * k + 3) ∧ b 145 (800 * k + 3) ≤ 2) (hP : PlayR b k m) (hA : AnsC s b (40 + 5 * m.toNat) (b 143 (20 + m).toNat) (ansL b m)) (hw : b 145 (800 * k + 1) = 1 ∨ b 145 (800 * k + 1) = 2 ∨ b 145 (800 * k + 1) = 3 ∨ b 145 (800 * k + 1) = 6) {i : Int} (i0 : 0 ≤ i) (i1 : i < asN (b 145 (800 * k + 3)) (b 143 (20 + m).toNat) (b 143 (24 + m).toNat)) : ∀ (n : Nat) (j : Int) (c : Nat → Nat → Int), 0 ≤ j → j + n = asN (b 145 (800 * k + 3)) (b 143 (20 + m).toNat) (b 143 (24 + m).toNat) → PlF b c → lwD b c k → TC c = (-1, -1, -1) → (∃ t c', fdU (T2 b k m i) n j = some t ∧ Rr (Cd (d + 3)) 54 8 [some (vA 131), some (vI i), some (vI j)] [] (s, c) = some ([vI 1], (s, c')) ∧ PlF b c' ∧ TC c' = t) ∨ (∃ c', fdU (T2 b k m i) n j = none ∧ Rr (Cd (d + 3)) 54 8 [some (vA 131), some (vI i), some (vI j)] [] (s, c) = Rr (Cd (d + 3)) 54 2 [some (vA 131), some (vI (i + 1)), some (vI (asN (b 145 (800 * k + 3)) (b 143 (20 + m).toNat) (b 143 (24 + m).toNat)))] [] (s, c') ∧ PlF b c' ∧ lwD b c' k ∧ TC c' = (-1, -1, -1))
  | 0, j, c, h0, h, hF, hD, hT => by
    have hs := hI.1.l
    have hM := hI.mok m m0 m1
    have aN := asN_b (a := b 145 (800 * k + 3)) hM.2.1.1 hM.2.1.2 hM.2.2.1.1 hM.2.2.1.2
    have p8 : c 131 8 = asN (b 145 (800 * k + 3)) (b 143 (20 + m).toNat) (b 143 (24 + m).toNat) := (hF _ _ (by omega) (by omega) (by omega)).trans hP.2.2.2.1
    refine Or.inr ⟨c, rfl, ?_, hF, hD, hT⟩
    rw [c54_8]
    repeat (first | rw [bnd_s] | rw [tI_m] | rw [tL_m] | rw [tA_m] | rw [tV_m] | rw [fC131 hs _ (by decide)] | rw [pC131 hs _ _ (by decide)] | rw [p8] | rw [if_neg (show ¬ j < asN (b 145 (800 * k + 3)) (b 143 (20 + m).toNat) (b 143 (24 + m).toNat) by omega)] | rw [w32_id (z := i + 1) (by omega) (by omega)])
    rw [show j = asN (b 145 (800 * k + 3)) (b 143 (20 + m).toNat) (b 143 (24 + m).toNat) by omega]
  | n + 1, j, c, h0, h, hF, hD, hT => by
    have hs := hI.1.l
    have hM := hI.mok m m0 m1
    have aN := asN_b (a := b 145 (800 * k + 3)) hM.2.1.1 hM.2.1.2 hM.2.2.1.1 hM.2.2.1.2
    have p8 : c 131 8 = asN (b 145 (800 * k + 3)) (b 143 (20 + m).toNat) (b 143 (24 + m).toNat) := (hF _ _ (by omega) (by omega) (by omega)).trans hP.2.2.2.1
    have q6 := k56 d hI m0 m1 ha2 hP hA hw i0 i1 h0 (show j < asN (b 145 (800 * k + 3)) (b 143 (20 + m).toNat) (b 143 (24 + m).toNat) by omega) hF hD
    have T13 : c 131 13 = -1 := congrArg (fun t => t.1) hT
    have T14 : c 131 14 = -1 := congrArg (fun t => t.2.1) hT
    simp only [fdU]
    cases e : FF b k m i j with
    | none =>
      have q6' : Cd (d + 3) 56 [vA 131, vI i, vI j] (s, c) = some ([vI (-1)], (s, c)) := by
        rw [q6]; show some ([vI ((FF b k m i j).getD (-1))], (s, c)) = _; rw [e]; rfl
      have eT : T2 b k m i j = none := by unfold T2; rw [e]; rfl
      rw [eT]
      have e12 : u2 c 131 12 (-1) 131 12 = -1 := u2_e _ _ _ _
      have run : Rr (Cd (d + 3)) 54 8 [some (vA 131), some (vI i), some (vI j)] [] (s, c) = Rr (Cd (d + 3)) 54 8 [some (vA 131), some (vI i), some (vI (j + 1))] [] (s, u2 c 131 12 (-1)) := by
        rw [c54_8]
        repeat (first | rw [bnd_s] | rw [tI_m] | rw [tL_m] | rw [tA_m] | rw [tV_m] | rw [fC131 hs _ (by decide)] | rw [pC131 hs _ _ (by decide)] | rw [p8] | rw [if_pos (show j < asN (b 145 (800 * k + 3)) (b 143 (20 + m).toNat) (b 143 (24 + m).toNat) by omega)] | rw [q6'] | rw [e12] | rw [if_pos (show (-1 : Int) = -1 from rfl)] | rw [w32_id (z := j + 1) (by omega) (by omega)])
      rw [run]
      exact k54_8 d hI m0 m1 ha2 hP hA hw i0 i1 n (j + 1) (u2 c 131 12 (-1)) (by omega) (by omega) (hF.u (by omega) _) (lwD_u hD) (by unfold TC; rw [u2_n (by omega), u2_n (by omega), u2_e, T13, T14])
    | some a =>
      have a0 := FF_nn e
      have q6' : Cd (d + 3) 56 [vA 131, vI i, vI j] (s, c) = some ([vI a], (s, c)) := by
        rw [q6]; show some ([vI ((FF b k m i j).getD (-1))], (s, c)) = _; rw [e]; rfl
      have eT : T2 b k m i j = some (i, j, a) := by unfold T2; rw [e]; rfl
      rw [eT]
      have e12 : u2 c 131 12 a 131 12 = a := u2_e _ _ _ _
      refine Or.inl ⟨(i, j, a), u2 (u2 (u2 c 131 12 a) 131 13 i) 131 14 j, rfl, ?_, ((hF.u (by omega) _).u (by omega) _).u (by omega) _, by unfold TC; rw [u2_n (by omega), u2_e, u2_e, u2_n (by omega), u2_n (by omega), u2_e]⟩
      rw [c54_8]
      repeat (first | rw [bnd_s] | rw [tI_m] | rw [tL_m] | rw [tA_m] | rw [tV_m] | rw [fC131 hs _ (by decide)] | rw [pC131 hs _ _ (by decide)] | rw [p8] | rw [if_pos (show j < asN (b 145 (800 * k + 3)) (b 143 (20 + m).toNat) (b 143 (24 + m).toNat) by omega)] | rw [q6'] | rw [e12] | rw [if_neg (show ¬ a = -1 by omega)])
theorem k54_2 (d : Nat) {n0 : Nat} (hI : Inv s b n0) {k : Nat} {m : Int} (m0 : 0 ≤ m) (m1 : m < b 143 0) (ha2 : 0 ≤ b 145 (800 * k + 3) ∧ b 145 (800 * k + 3) ≤ 2) (hP : PlayR b k m) (hA : AnsC s b (40 + 5 * m.toNat) (b 143 (20 + m).toNat) (ansL b m)) (hw : b 145 (800 * k + 1) = 1 ∨ b 145 (800 * k + 1) = 2 ∨ b 145 (800 * k + 1) = 3 ∨ b 145 (800 * k + 1) = 6) : ∀ (n : Nat) (i : Int) (c : Nat → Nat → Int) (o2 : Option AV), 0 ≤ i → i + n = asN (b 145 (800 * k + 3)) (b 143 (20 + m).toNat) (b 143 (24 + m).toNat) → PlF b c → lwD b c k → TC c = (-1, -1, -1) → ∃ c', Rr (Cd (d + 3)) 54 2 [some (vA 131), some (vI i), o2] [] (s, c) = some ([vI (b2i (fdU (fun i => fdU (T2 b k m i) (asN (b 145 (800 * k + 3)) (b 143 (20 + m).toNat) (b 143 (24 + m).toNat)).toNat 0) n i).isSome)], (s, c')) ∧ PlF b c' ∧ TC c' = (fdU (fun i => fdU (T2 b k m i) (asN (b 145 (800 * k + 3)) (b 143 (20 + m).toNat) (b 143 (24 + m).toNat)).toNat 0) n i).getD (-1, -1, -1)
  | 0, i, c, o2, h0, h, hF, hD, hT => by
    have hs := hI.1.l
    have p8 : c 131 8 = asN (b 145 (800 * k + 3)) (b 143 (20 + m).toNat) (b 143 (24 + m).toNat) := (hF _ _ (by omega) (by omega) (by omega)).trans hP.2.2.2.1
    refine ⟨c, ?_, hF, hT⟩
    rw [c54_2]
    repeat (first | rw [bnd_s] | rw [tI_m] | rw [tL_m] | rw [tA_m] | rw [tV_m] | rw [fC131 hs _ (by decide)] | rw [pC131 hs _ _ (by decide)] | rw [p8] | rw [if_neg (show ¬ i < asN (b 145 (800 * k + 3)) (b 143 (20 + m).toNat) (b 143 (24 + m).toNat) by omega)])
    rfl
  | n + 1, i, c, o2, h0, h, hF, hD, hT => by
    have hs := hI.1.l
    have p8 : c 131 8 = asN (b 145 (800 * k + 3)) (b 143 (20 + m).toNat) (b 143 (24 + m).toNat) := (hF _ _ (by omega) (by omega) (by omega)).trans hP.2.2.2.1
    have run : Rr (Cd (d + 3)) 54 2 [some (vA 131), some (vI i), o2] [] (s, c) = Rr (Cd (d + 3)) 54 8 [some (vA 131), some (vI i), some (vI 0)] [] (s, c) := by
      rw [c54_2]
      repeat (first | rw [bnd_s] | rw [tI_m] | rw [tL_m] | rw [tA_m] | rw [tV_m] | rw [fC131 hs _ (by decide)] | rw [pC131 hs _ _ (by decide)] | rw [p8] | rw [if_pos (show i < asN (b 145 (800 * k + 3)) (b 143 (20 + m).toNat) (b 143 (24 + m).toNat) by omega)])
    rw [run]
    simp only [fdU]
    rcases k54_8 d hI m0 m1 ha2 hP hA hw h0 (show i < asN (b 145 (800 * k + 3)) (b 143 (20 + m).toNat) (b 143 (24 + m).toNat) by omega) (asN (b 145 (800 * k + 3)) (b 143 (20 + m).toNat) (b 143 (24 + m).toNat)).toNat 0 c (by omega) (by omega) hF hD hT with ⟨t, c', y1, y2, y3, y4⟩ | ⟨c', y1, y2, y3, y4, y5⟩
    · rw [y1]; exact ⟨c', y2, y3, y4⟩
    · rw [y1, y2]; exact k54_2 d hI m0 m1 ha2 hP hA hw n (i + 1) c' (some (vI (asN (b 145 (800 * k + 3)) (b 143 (20 + m).toNat) (b 143 (24 + m).toNat)))) (by omega) (by omega) y3 y4 y5
def TT (b : Nat → Nat → Int) (k : Nat) (m q : Int) : Option (Int × Int × Int) := if q = 2 ∧ b 145 (800 * k + 2) ≠ 0 then fdU (fun i => fdU (T2 b k m i) (asN (b 145 (800 * k + 3)) (b 143 (20 + m).toNat) (b 143 (24 + m).toNat)).toNat 0) (asN (b 145 (800 * k + 3)) (b 143 (20 + m).toNat) (b 143 (24 + m).toNat)).toNat 0 else fdU (T1 b k m q) (asN (b 145 (800 * k + 3)) (b 143 (20 + m).toNat) (b 143 (24 + m).toNat)).toNat 0
theorem k53 (d : Nat) {n0 : Nat} (hI : Inv s b n0) {k : Nat} {m : Int} (m0 : 0 ≤ m) (m1 : m < b 143 0) (ha2 : 0 ≤ b 145 (800 * k + 3) ∧ b 145 (800 * k + 3) ≤ 2) (hP : PlayR b k m) (hA : AnsC s b (40 + 5 * m.toNat) (b 143 (20 + m).toNat) (ansL b m)) (hw : b 145 (800 * k + 1) = 1 ∨ b 145 (800 * k + 1) = 2 ∨ b 145 (800 * k + 1) = 3 ∨ b 145 (800 * k + 1) = 6) (q : Int) : ∃ c', Cd (d + 5) 53 [vA 131, vI q] (s, b) = some ([vI (b2i (TT b k m q).isSome)], (s, c')) ∧ PlF b c' ∧ TC c' = (TT b k m q).getD (-1, -1, -1) := by
  have hs := hI.1.l
  have hM := hI.mok m m0 m1
  have aN := asN_b (a := b 145 (800 * k + 3)) hM.2.1.1 hM.2.1.2 hM.2.2.1.1 hM.2.2.1.2
  obtain ⟨c1, r1, f1, g1⟩ := k47 (d + 3) (c := b) hs
  obtain ⟨c2, r2, f2, g2⟩ := k55_2 (d + 2) (f1.inv hI) (w := b 145 (800 * k + 1)) ((f1 131 6 (by omega) (by omega) (by omega)).trans hP.2.1) 81 0 c1 none none (by omega) (by omega) (fun _ _ _ => rfl) (fun x x0 x1 => by omega)
  have r2' : Cd (d + 4) 55 [vA 131] (s, c1) = some ([], (s, c2)) := by
    rw [c55 (hg := gC131 hs _)]; exact r2
  have f2' : PlF b c2 := fun o i h1 h2 h3 => (f2 o i h2).trans (f1 o i h1 h2 h3)
  have hT : TC c2 = (-1, -1, -1) := by
    unfold TC; rw [f2 131 13 (by omega), f2 131 14 (by omega), f2 131 12 (by omega), g1 13 (by omega) (by omega), g1 14 (by omega) (by omega), g1 12 (by omega) (by omega)]
  have e7 : c2 131 7 = b 145 (800 * k + 2) := (f2' 131 7 (by omega) (by omega) (by omega)).trans hP.2.2.1
  by_cases g : q = 2 ∧ b 145 (800 * k + 2) ≠ 0
  · have eT : TT b k m q = fdU (fun i => fdU (T2 b k m i) (asN (b 145 (800 * k + 3)) (b 143 (20 + m).toNat) (b 143 (24 + m).toNat)).toNat 0) (asN (b 145 (800 * k + 3)) (b 143 (20 + m).toNat) (b 143 (24 + m).toNat)).toNat 0 := if_pos g
    obtain ⟨c3, y1, y2, y3⟩ := k54_2 d hI m0 m1 ha2 hP hA hw (asN (b 145 (800 * k + 3)) (b 143 (20 + m).toNat) (b 143 (24 + m).toNat)).toNat 0 c2 none (by omega) (by omega) f2' g2 hT
    rw [eT]
    refine ⟨c3, ?_, y2, y3⟩
    have y1' : Cd (d + 4) 54 [vA 131] (s, c2) = some ([vI (b2i (fdU (fun i => fdU (T2 b k m i) (asN (b 145 (800 * k + 3)) (b 143 (20 + m).toNat) (b 143 (24 + m).toNat)).toNat 0) (asN (b 145 (800 * k + 3)) (b 143 (20 + m).toNat) (b 143 (24 + m).toNat)).toNat 0).isSome)], (s, c3)) := by
      rw [c54 (hg := gC131 hs _)]; exact y1
    rw [c53 (hg := gC131 hs _)]
    repeat (first | rw [bnd_s] | rw [tI_m] | rw [tL_m] | rw [tA_m] | rw [tV_m] | rw [fC131 hs _ (by decide)] | rw [pC131 hs _ _ (by decide)] | rw [r1] | rw [r2'] | rw [if_pos g.1] | rw [e7] | rw [if_neg g.2] | rw [y1'] | rw [if_pos (b2i_o _)])
  · have eT : TT b k m q = fdU (T1 b k m q) (asN (b 145 (800 * k + 3)) (b 143 (20 + m).toNat) (b 143 (24 + m).toNat)).toNat 0 := if_neg g
    obtain ⟨c3, y1, y2, y3⟩ := k53_15 (d + 1) hI m0 m1 ha2 hP hA hw q (asN (b 145 (800 * k + 3)) (b 143 (20 + m).toNat) (b 143 (24 + m).toNat)).toNat 0 c2 (by omega) (by omega) f2' g2 hT
    rw [eT]
    refine ⟨c3, ?_, y2, y3⟩
    rw [c53 (hg := gC131 hs _)]
    repeat (first | rw [bnd_s] | rw [tI_m] | rw [tL_m] | rw [tA_m] | rw [tV_m] | rw [r1] | rw [r2'])
    by_cases g1 : q = 2
    · rw [if_pos g1]
      repeat (first | rw [bnd_s] | rw [tI_m] | rw [tL_m] | rw [tA_m] | rw [tV_m] | rw [fC131 hs _ (by decide)] | rw [pC131 hs _ _ (by decide)] | rw [e7] | rw [if_pos (show b 145 (800 * k + 2) = 0 from Decidable.not_not.mp (fun w => g ⟨g1, w⟩))] | rw [c53_13])
      exact y1
    · rw [if_neg g1, c53_13]
      exact y1
end
