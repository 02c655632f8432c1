/-! the class's table of what is believed -/
theorem bt9 {a y : Int} (h0 : 0 ≤ a) (h1 : a < 512) (h2 : 0 ≤ y) (h3 : y < 9) : (0 ≤ ior a (ishl 1 y) ∧ ior a (ishl 1 y) < 512) ∧ ∀ o, 0 ≤ o → bt (ior a (ishl 1 y)) o = (bt a o || decide (o = y)) := by
  have hp : 2 ^ y.toNat ≤ 256 := Nat.pow_le_pow_right (by decide) (show y.toNat ≤ 8 by omega)
  rw [pow_sh h2 (by omega)]
  obtain ⟨M, hM⟩ : ∃ M, M = 2 ^ y.toNat := ⟨_, rfl⟩
  rw [← hM] at hp ⊢
  refine ⟨?_, fun o ho => ?_⟩
  · rw [ior_n h0 (by omega) (by omega) (by omega), Int.toNat_natCast]
    have := Nat.or_lt_two_pow (n := 9) (show a.toNat < 2 ^ 9 by omega) (show M < 2 ^ 9 by omega)
    omega
  · rw [bt_ior h0 (by omega) (by omega) (by omega)]
    congr 1
    unfold bt
    rw [Int.toNat_natCast, hM, Nat.testBit_two_pow]
    exact decide_eq_decide.mpr (by omega)
def FK (c c' : Nat → Nat → Int) : Prop := ∀ o k, o ≠ 130 → ¬ (o = 127 ∧ 4 ≤ k ∧ k ≤ 7) → c' o k = c o k
def JX (c : Nat → Nat → Int) (X : List (Int × Int)) : Prop := (c 127 0 = 128 ∧ c 127 1 = 129 ∧ c 127 2 = 130) ∧ c 127 3 = (X.length : Int) ∧ X.length ≤ 300 ∧ StC c X
theorem JX_of {c c' : Nat → Nat → Int} {X : List (Int × Int)} (f : FK c c') (h : JX c X) : JX c' X := by
  obtain ⟨⟨h1, h2, h3⟩, h4, h5, h6⟩ := h
  refine ⟨⟨?_, ?_, ?_⟩, ?_, h5, fun j q hq => ?_⟩
  case refine_5 => rw [f 128 j (by omega) (by omega), f 129 j (by omega) (by omega)]; exact h6 j q hq
  all_goals (rw [f _ _ (by omega) (by omega)]; assumption)
theorem nmF_b {a b x y : Int} (ha : 0 ≤ a ∧ a ≤ 9) (hb : 0 ≤ b ∧ b ≤ 9) (hx : 0 ≤ x ∧ x ≤ 9) (hy : 0 ≤ y ∧ y ≤ 9) (v : Int) : bdd (nmF a b x y v) := by
  unfold nmF bdd
  split
  · omega
  · split
    · omega
    · split <;> omega
section
variable {s : List (Nat × Nat)} {X : List (Int × Int)}
theorem k28_l (d : Nat) (hs : SpL s) {x y : Int} (hx : 0 ≤ x ∧ x < 7) (hy : 0 ≤ y ∧ y < 7) (hA : okA X) {g : (Int → Int) → Bool} (hg : ∀ nm, (∀ st, runC nm X st = b2i (g nm) :: st) ∧ ((∀ v, bdd (nm v)) → ∀ st, okRn nm X st)) (o1 : Option AV) : ∀ (m : Nat) (v V : Int) (c : Nat → Nat → Int), 0 ≤ v → v + (m : Int) = 9 → JX c X → c 127 6 = x → c 127 7 = y → (0 ≤ V ∧ V < 512) → (∀ o, 0 ≤ o → bt V o = (decide (o < v) && g (nmF (o / 3) (o % 3) x y))) → ∃ c' V', Rr (Cd (d + 4)) 28 14 [some (vA 127), o1, some (vI V), some (vI v)] [] (s, c) = some ([vI V'], (s, c')) ∧ FK c c' ∧ (0 ≤ V' ∧ V' < 512) ∧ ∀ o, 0 ≤ o → o < 9 → bt V' o = g (nmF (o / 3) (o % 3) x y) := by
  intro m
  induction m with
  | zero =>
    intro v V c v0 hv hJ h6 h7 hV hb
    refine ⟨c, V, ?_, fun _ _ _ _ => rfl, hV, fun o a1 a2 => ?_⟩
    · rw [c28_14, if_neg (by omega)]
    · rw [hb o a1, decide_eq_true (by omega), Bool.true_and]
  | succ m ih =>
    intro v V c v0 hv hJ h6 h7 hV hb
    have f1 : FK c (u2 (u2 c 127 4 (v / 3)) 127 5 (v % 3)) := fun o k g1 g2 => by rw [u2_n (by omega), u2_n (by omega)]
    have hJ1 := JX_of f1 hJ
    have hE : JE (u2 (u2 c 127 4 (v / 3)) 127 5 (v % 3)) X (nmF (v / 3) (v % 3) x y) := ⟨hJ1.1, hJ1.2.1, hJ1.2.2.1, hJ1.2.2.2, by rw [u2_n (by omega), u2_e]; rfl, by rw [u2_e]; rfl, by rw [u2_n (by omega), u2_n (by omega), h6]; rfl, by rw [u2_n (by omega), u2_n (by omega), h7]; rfl⟩
    have hbd : ∀ w, bdd (nmF (v / 3) (v % 3) x y w) := nmF_b (by omega) (by omega) (by omega) (by omega)
    obtain ⟨c2, r2', f2⟩ := k29 d hs hbd hE hA ((hg _).2 hbd []) (b := g (nmF (v / 3) (v % 3) x y)) ((hg _).1 [])
    have f3 : FK c c2 := fun o k g1 g2 => by rw [f2 o k g1, f1 o k g1 g2]
    have e6 : c2 127 6 = x := by rw [f2 127 6 (by decide), u2_n (by omega), u2_n (by omega)]; exact h6
    have e7 : c2 127 7 = y := by rw [f2 127 7 (by decide), u2_n (by omega), u2_n (by omega)]; exact h7
    have st : ∀ R, (if b2i (g (nmF (v / 3) (v % 3) x y)) = 0 then Rr (Cd (d + 4)) 28 14 [some (vA 127), o1, some (vI V), some (vI (v + 1))] [] (s, c2) else Rr (Cd (d + 4)) 28 14 [some (vA 127), o1, some (vI (ior V (ishl 1 v))), some (vI (v + 1))] [] (s, c2)) = R → Rr (Cd (d + 4)) 28 14 [some (vA 127), o1, some (vI V), some (vI v)] [] (s, c) = R := fun R hR => by
      (try rw [c28_14]); (try rw [if_pos (show v < 9 by omega)]); (try rw [idiv_n (by omega) (by omega) (by omega) (by omega)]); (try rw [irem_n (by omega) (by omega) (by omega) (by omega)]); (try rw [pC127 hs _ _ (by decide)]); (try rw [bnd_s]); (try rw [pC127 hs _ _ (by decide)]); (try rw [bnd_s]); (try rw [r2']); (try rw [bnd_s]); (try rw [tI_m]); (try rw [bnd_s]); (try rw [c28_36]); (try rw [c28_36]); (try rw [w32_id (z := v + 1) (by omega) (by omega)])
      exact hR
    cases eg : g (nmF (v / 3) (v % 3) x y) with
    | true =>
      have hb9 := bt9 hV.1 hV.2 v0 (show v < 9 by omega)
      obtain ⟨c3, V3, r3, f4, h3, b3⟩ := ih (v + 1) (ior V (ishl 1 v)) c2 (by omega) (by omega) (JX_of f3 hJ) e6 e7 hb9.1 (fun o ho => by
        rw [hb9.2 o ho, hb o ho]
        by_cases e : o = v
        · subst e
          rw [eg, decide_eq_true rfl, decide_eq_true (show o < o + 1 by omega), Bool.or_true]; rfl
        · rw [decide_eq_false e, Bool.or_false]
          congr 1
          exact decide_eq_decide.mpr (by omega))
      refine ⟨c3, V3, st _ ?_, fun o k g1 g2 => (f4 o k g1 g2).trans (f3 o k g1 g2), h3, b3⟩
      rw [eg, if_neg (show ¬ b2i true = 0 by decide), r3]
    | false =>
      obtain ⟨c3, V3, r3, f4, h3, b3⟩ := ih (v + 1) V c2 (by omega) (by omega) (JX_of f3 hJ) e6 e7 hV (fun o ho => by
        rw [hb o ho]
        by_cases e : o = v
        · subst e
          rw [eg, Bool.and_false, Bool.and_false]
        · congr 1
          exact decide_eq_decide.mpr (by omega))
      refine ⟨c3, V3, st _ ?_, fun o k g1 g2 => (f4 o k g1 g2).trans (f3 o k g1 g2), h3, b3⟩
      rw [eg, if_pos (show b2i false = 0 from rfl), r3]
/-- what the table says of a pair -/
def Jp (G : Int → Int → Bool) (p V : Int) : Prop := (0 ≤ V ∧ V < 512) ∧ ∀ o, 0 ≤ o → o < 9 → bt V o = G p o
theorem k28 (d : Nat) (hs : SpL s) {c : Nat → Nat → Int} (hJ : JX c X) (hA : okA X) {g : (Int → Int) → Bool} (hg : ∀ nm, (∀ st, runC nm X st = b2i (g nm) :: st) ∧ ((∀ v, bdd (nm v)) → ∀ st, okRn nm X st)) {p : Int} (h0 : 0 ≤ p) (h1 : p < 49) : ∃ c' V, Cd (d + 5) 28 [vA 127, vI p] (s, c) = some ([vI V], (s, c')) ∧ FK c c' ∧ Jp (fun p o => g (nmF (o / 3) (o % 3) (p / 7) (p % 7))) p V := by
  have f1 : FK c (u2 (u2 c 127 6 (p / 7)) 127 7 (p % 7)) := fun o k g1 g2 => by rw [u2_n (by omega), u2_n (by omega)]
  obtain ⟨c', V, r, f, h, b⟩ := k28_l d hs (x := p / 7) (y := p % 7) (by omega) (by omega) hA hg (some (vI p)) 9 0 0 (u2 (u2 c 127 6 (p / 7)) 127 7 (p % 7)) (by omega) (by omega) (JX_of f1 hJ) (by rw [u2_n (by omega), u2_e]) (u2_e _ _ _ _) (by omega) (fun o ho => by rw [bt_z, decide_eq_false (by omega), Bool.false_and])
  refine ⟨c', V, ?_, fun o k g1 g2 => (f o k g1 g2).trans (f1 o k g1 g2), h, b⟩
  (try rw [c28 (hg := gC127 hs c)]); (try rw [idiv_n (by omega) (by omega) (by omega) (by omega)]); (try rw [irem_n (by omega) (by omega) (by omega) (by omega)]); (try rw [pC127 hs _ _ (by decide)]); (try rw [bnd_s]); (try rw [pC127 hs _ _ (by decide)]); (try rw [bnd_s]); (try rw [r])
theorem bt_511 : ∀ o, o < 9 → bt 511 ((o : Nat) : Int) = true := by decide
/-- steps that say what G says; none: all is believed -/
def SG (X : List (Int × Int)) (G : Int → Int → Bool) : Prop := (X = [] ∧ ∀ p o, G p o = true) ∨ (X ≠ [] ∧ okA X ∧ ∃ g : (Int → Int) → Bool, (∀ nm, (∀ st, runC nm X st = b2i (g nm) :: st) ∧ ((∀ v, bdd (nm v)) → ∀ st, okRn nm X st)) ∧ ∀ p o, G p o = g (nmF (o / 3) (o % 3) (p / 7) (p % 7)))
theorem k27_l (d : Nat) (hs : SpL s) {G : Int → Int → Bool} (hG : SG X G) {q : Nat} (hq : s[q]? = some (100, 49)) (hq1 : q ≠ 130 ∧ q ≠ 127 ∧ q ≠ 128 ∧ q ≠ 129) : ∀ (m : Nat) (v : Int) (c : Nat → Nat → Int), 0 ≤ v → v + (m : Int) = 49 → JX c X → ∃ c', Rr (Cd (d + 5)) 27 2 [some (vA 127), some (vA (q : Int)), some (vI v)] [] (s, c) = some ([], (s, c')) ∧ (∀ o k, o ≠ 130 → ¬ (o = 127 ∧ 4 ≤ k ∧ k ≤ 7) → o ≠ q → c' o k = c o k) ∧ (∀ j, 0 ≤ j → j < v → c' q j.toNat = c q j.toNat) ∧ (∀ j, v ≤ j → j < 49 → Jp G j (c' q j.toNat)) := by
  intro m
  induction m with
  | zero =>
    intro v c v0 hv hJ
    refine ⟨c, ?_, fun _ _ _ _ _ => rfl, fun _ _ _ => rfl, fun j a1 a2 => by omega⟩
    (try rw [c27_2]); (try rw [gL_g hq (by decide) c]); (try rw [bnd_s]); (try rw [if_neg (show ¬ v < ((49 : Nat) : Int) by omega)])
  | succ m ih =>
    intro v c v0 hv hJ
    have key : ∃ c1 V, Rr (Cd (d + 5)) 27 2 [some (vA 127), some (vA (q : Int)), some (vI v)] [] (s, c) = Rr (Cd (d + 5)) 27 16 [some (vA 127), some (vA (q : Int)), some (vI v)] [vI V, vI v, vA (q : Int)] (s, c1) ∧ FK c c1 ∧ Jp G v V := by
      have st : ∀ R, (if (X.length : Int) = 0 then Rr (Cd (d + 5)) 27 16 [some (vA 127), some (vA (q : Int)), some (vI v)] [vI 511, vI v, vA (q : Int)] (s, c) else ((Cd (d + 5) 28 [vA 127, vI v] (s, c)).bind toI).bind fun q3 => Rr (Cd (d + 5)) 27 16 [some (vA 127), some (vA (q : Int)), some (vI v)] [vI q3.1, vI v, vA (q : Int)] q3.2) = R → Rr (Cd (d + 5)) 27 2 [some (vA 127), some (vA (q : Int)), some (vI v)] [] (s, c) = R := fun R hR => by
        (try rw [c27_2]); (try rw [gL_g hq (by decide) c]); (try rw [bnd_s]); (try rw [if_pos (show v < ((49 : Nat) : Int) by omega)]); (try rw [fC127 hs _ (by decide)]); (try rw [bnd_s]); (try rw [hJ.2.1])
        exact hR
      rcases hG with ⟨e, hA⟩ | ⟨e, hA, g, hg, hGg⟩
      · refine ⟨c, 511, st _ (by rw [if_pos (by rw [e]; rfl)]), fun _ _ _ _ => rfl, by omega, fun o a1 a2 => ?_⟩
        rw [hA]
        have := bt_511 o.toNat (by omega)
        rw [Int.toNat_of_nonneg a1] at this; exact this
      · obtain ⟨c1, V, r, f, hp⟩ := k28 d hs hJ hA hg v0 (show v < 49 by omega)
        have hn : ¬ (X.length : Int) = 0 := fun w => e (List.length_eq_zero_iff.mp (by omega))
        refine ⟨c1, V, st _ ?_, f, hp.1, fun o a1 a2 => by rw [hGg]; exact hp.2 o a1 a2⟩
        (try rw [if_neg hn]); (try rw [r]); (try rw [bnd_s]); (try rw [tI_m]); (try rw [bnd_s])
    obtain ⟨c1, V, r1, f1, hp⟩ := key
    have e2 : ∀ o k, o ≠ 130 → ¬ (o = 127 ∧ 4 ≤ k ∧ k ≤ 7) → o ≠ q → u2 c1 q v.toNat V o k = c o k := fun o k g1 g2 g3 => by rw [u2_n (by omega), f1 o k g1 g2]
    have hJ2 : JX (u2 c1 q v.toNat V) X := by
      obtain ⟨⟨a1, a2, a3⟩, a4, a5, a6⟩ := hJ
      refine ⟨⟨?_, ?_, ?_⟩, ?_, a5, fun j q' hq' => ?_⟩
      case refine_5 => rw [e2 128 j (by omega) (by omega) (by omega), e2 129 j (by omega) (by omega) (by omega)]; exact a6 j q' hq'
      all_goals (rw [e2 _ _ (by omega) (by omega) (by omega)]; assumption)
    obtain ⟨c3, r3, f3, l3, h3⟩ := ih (v + 1) (u2 c1 q v.toNat V) (by omega) (by omega) hJ2
    refine ⟨c3, ?_, fun o k g1 g2 g3 => by rw [f3 o k g1 g2 g3, e2 o k g1 g2 g3], fun j a1 a2 => ?_, fun j a1 a2 => ?_⟩
    · (try rw [r1]); (try rw [c27_16]); (try rw [pA_g (a := 0) hq c1 V v0 (show v < ((49 : Nat) : Int) by omega)]); (try rw [bnd_s]); (try rw [w32_id (z := v + 1) (by omega) (by omega)]); (try rw [r3])
    · rw [l3 j a1 (by omega), u2_n (by omega), f1 q j.toNat hq1.1 (by omega)]
    · by_cases e : j = v
      · subst e
        rw [l3 j v0 (by omega), u2_e]; exact hp
      · exact h3 j (by omega) a2
theorem k27 (d : Nat) (hs : SpL s) {G : Int → Int → Bool} (hG : SG X G) {q : Nat} (hq : s[q]? = some (100, 49)) (hq1 : q ≠ 130 ∧ q ≠ 127 ∧ q ≠ 128 ∧ q ≠ 129) {c : Nat → Nat → Int} (hJ : JX c X) : ∃ c', Cd (d + 6) 27 [vA 127, vA (q : Int)] (s, c) = some ([], (s, c')) ∧ (∀ o k, o ≠ 130 → ¬ (o = 127 ∧ 4 ≤ k ∧ k ≤ 7) → o ≠ q → c' o k = c o k) ∧ (∀ j, 0 ≤ j → j < 49 → Jp G j (c' q j.toNat)) := by
  obtain ⟨c', r, f, _, h⟩ := k27_l d hs hG hq hq1 49 0 c (by omega) (by omega) hJ
  exact ⟨c', by rw [c27 (hg := gC127 hs c)]; exact r, f, h⟩
theorem shO (hs : SpL s) {k : Nat} (hk : k < 8) : s[60 + 2 * k]? = some (8, 4) ∧ s[61 + 2 * k]? = some (100, 49) := by
  rcases n8 hk with rfl | rfl | rfl | rfl | rfl | rfl | rfl | rfl
  · exact ⟨sC60 hs, sC61 hs⟩
  · exact ⟨sC62 hs, sC63 hs⟩
  · exact ⟨sC64 hs, sC65 hs⟩
  · exact ⟨sC66 hs, sC67 hs⟩
  · exact ⟨sC68 hs, sC69 hs⟩
  · exact ⟨sC70 hs, sC71 hs⟩
  · exact ⟨sC72 hs, sC73 hs⟩
  · exact ⟨sC74 hs, sC75 hs⟩
theorem CS_60 {c : Nat → Nat → Int} (h : CS c) {k : Nat} (hk : k < 8) : c (60 + 2 * k) 0 = ((61 + 2 * k : Nat) : Int) := by
  rcases n8 hk with rfl | rfl | rfl | rfl | rfl | rfl | rfl | rfl
  · exact CS_60_0 h
  · exact CS_62_0 h
  · exact CS_64_0 h
  · exact CS_66_0 h
  · exact CS_68_0 h
  · exact CS_70_0 h
  · exact CS_72_0 h
  · exact CS_74_0 h
theorem k68 (d : Nat) (hs : SpL s) {G : Int → Int → Bool} (hG : SG X G) {k : Nat} (hk : k < 8) {c : Nat → Nat → Int} (hJ : JX c X) (h4 : c 122 4 = 127) (hq0 : c (60 + 2 * k) 0 = ((61 + 2 * k : Nat) : Int)) (h13 : c 122 13 = 0 ∨ c 122 13 = 1) : ∃ c', Cd (d + 7) 68 [vA 122, vA ((60 + 2 * k : Nat) : Int)] (s, c) = some ([], (s, c')) ∧ (∀ o j, o ≠ 130 → ¬ (o = 127 ∧ 4 ≤ j ∧ j ≤ 7) → ¬ (o = 60 + 2 * k ∧ 1 ≤ j ∧ j ≤ 3) → o ≠ 61 + 2 * k → c' o j = c o j) ∧ (c' (60 + 2 * k) 1 = c 122 11 ∧ c' (60 + 2 * k) 2 = c 122 12 ∧ c' (60 + 2 * k) 3 = c 122 13) ∧ (∀ j, 0 ≤ j → j < 49 → Jp G j (c' (61 + 2 * k) j.toNat)) := by
  have ho := shO hs hk
  have e1 : ∀ o j, ¬ (o = 60 + 2 * k ∧ 1 ≤ j ∧ j ≤ 3) → u2 (u2 (u2 c (60 + 2 * k) 1 (c 122 11)) (60 + 2 * k) 3 (c 122 13)) (60 + 2 * k) 2 (c 122 12) o j = c o j := fun o j g => by rw [u2_n (by omega), u2_n (by omega), u2_n (by omega)]
  have hJ1 : JX (u2 (u2 (u2 c (60 + 2 * k) 1 (c 122 11)) (60 + 2 * k) 3 (c 122 13)) (60 + 2 * k) 2 (c 122 12)) X := by
    obtain ⟨⟨a1, a2, a3⟩, a4, a5, a6⟩ := hJ
    refine ⟨⟨?_, ?_, ?_⟩, ?_, a5, fun j q' hq' => ?_⟩
    case refine_5 => rw [e1 128 j (by omega), e1 129 j (by omega)]; exact a6 j q' hq'
    all_goals (rw [e1 _ _ (by omega)]; assumption)
  obtain ⟨c', r, f, h⟩ := k27 d hs hG ho.2 (by omega) hJ1
  refine ⟨c', ?_, fun o j g1 g2 g3 g4 => by rw [f o j g1 g2 g4, e1 o j g3], ⟨?_, ?_, ?_⟩, h⟩
  · rw [c68 (hg := gC122 hs c)]
    repeat (first | rw [bnd_s] | rw [fC122 hs _ (by decide)] | rw [pF_g ho.1 _ _ (by decide)] | rw [gF_g ho.1 _ (by decide)] | rw [if_pos h13] | rw [u2_n (by omega)] | rw [h4] | rw [hq0] | rw [r] | rw [tV_m])
  · rw [f _ _ (by omega) (by omega) (by omega), u2_n (by omega), u2_n (by omega), u2_e]
  · rw [f _ _ (by omega) (by omega) (by omega), u2_e]
  · rw [f _ _ (by omega) (by omega) (by omega), u2_n (by omega), u2_e]
end
