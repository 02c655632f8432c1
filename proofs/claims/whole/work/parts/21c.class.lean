/-! the class's tokens; its parser -/
def TokC (T : Int → Int) (n K : Int) (c : Nat → Nat → Int) : Prop := c 122 8 = K ∧ c 122 9 = 0 ∧ (0 ≤ K ∧ K ≤ n) ∧ sts T n K.toNat = n ∧ (∀ j : Nat, (j : Int) < K → sts T n j < n ∧ c 124 j = tkc T n (sts T n j) ∧ c 125 j = sts T n j ∧ c 126 j = tkv T n (sts T n j)) ∧ c 124 K.toNat = 0 ∧ c 125 K.toNat = n
def FS (c c' : Nat → Nat → Int) : Prop := ∀ o k, ¬ (o = 122 ∧ (k = 8 ∨ k = 9)) → o ≠ 124 → o ≠ 125 → o ≠ 126 → c' o k = c o k
theorem FS.rf (c : Nat → Nat → Int) : FS c c := fun _ _ _ _ _ _ => rfl
theorem FS.tr {a b c : Nat → Nat → Int} (h : FS a b) (g : FS b c) : FS a c := fun o k h1 h2 h3 h4 => (g o k h1 h2 h3 h4).trans (h o k h1 h2 h3 h4)
theorem FS.tp {T : Int → Int} {n : Int} {c c' : Nat → Nat → Int} (f : FS c c') (h : TpC T n c) : TpC T n c' := by
  obtain ⟨⟨h1, h2, h3⟩, h4⟩ := h
  refine ⟨⟨?_, ?_, h3⟩, fun i g0 g1 => ?_⟩
  · rw [f 122 0 (by omega) (by omega) (by omega) (by omega)]; exact h1
  · rw [f 122 5 (by omega) (by omega) (by omega) (by omega)]; exact h2
  · rw [f 123 i.toNat (by omega) (by omega) (by omega) (by omega)]; exact h4 i g0 g1
theorem FS.rd {c c' : Nat → Nat → Int} (f : FS c c') (h : RdC c) : RdC c' := by
  obtain ⟨h1, h2, h3, h4, h5, h6, h7⟩ := h
  refine ⟨?_, ?_, ?_, ?_, ?_, ?_, ?_⟩ <;> rw [f _ _ (by omega) (by omega) (by omega) (by omega)] <;> assumption
theorem FS.xt {c c' : Nat → Nat → Int} (f : FS c c') (h : Xt c) : Xt c' := by
  obtain ⟨xs, h⟩ := h
  exact ⟨xs, fun i k hi => (f i k (by omega) (by omega) (by omega) (by omega)).trans (h i k hi)⟩
theorem k82_l (d : Nat) {s : List (Nat × Nat)} {T : Int → Int} {n : Int} (hs : SpL s) : ∀ (k : Nat) (v m : Int) (j : Nat) (c : Nat → Nat → Int), n ≤ v + k → 0 ≤ m → m ≤ v → v ≤ n → TpC T n c → RdC c → Xt c → c 122 8 = (j : Int) → c 122 9 = 0 → fe isK T n v = sts T n j → (∀ i : Nat, i < j → sts T n i < n ∧ c 124 i = tkc T n (sts T n i) ∧ c 125 i = sts T n i ∧ c 126 i = tkv T n (sts T n i)) → (j : Int) ≤ v → ∃ c' K, Rr (Cd (d + 8)) 82 10 [some (vA 122), some (vI v), some (vI m)] [] (s, c) = some ([], (s, c')) ∧ TokC T n K c' ∧ FS c c' := by
  intro k
  have fin : ∀ (m : Int) (j : Nat) (c : Nat → Nat → Int), TpC T n c → RdC c → c 122 8 = (j : Int) → c 122 9 = 0 → sts T n j = n → (∀ i : Nat, i < j → sts T n i < n ∧ c 124 i = tkc T n (sts T n i) ∧ c 125 i = sts T n i ∧ c 126 i = tkv T n (sts T n i)) → (j : Int) ≤ n → ∃ c' K, Rr (Cd (d + 8)) 82 10 [some (vA 122), some (vI n), some (vI m)] [] (s, c) = some ([], (s, c')) ∧ TokC T n K c' ∧ FS c c' := by
    intro m j c hT hR hj h9 hst hfl hjn
    have hn := hT.1
    refine ⟨u2 (u2 c 124 j 0) 125 j n, (j : Int), ?_, ⟨?_, ?_, ⟨by omega, hjn⟩, ?_, fun i hi => ?_, ?_, ?_⟩, fun o k g1 g2 g3 g4 => ?_⟩
    · have e55 : Rr (Cd (d + 8)) 82 55 [some (vA 122), some (vI n), some (vI m)] [] (s, c) = some ([], (s, u2 (u2 c 124 j 0) 125 j n)) := by
        rw [c82_55]
        repeat (first | rw [bnd_s] | rw [fC122 hs _ (by decide)] | rw [hR.1] | rw [hR.2.1] | rw [hj] | rw [qC124 hs _ _ (show (0 : Int) ≤ (j : Int) by omega) (by omega)] | rw [u2_n (by omega)] | rw [hn.2.1] | rw [qC125 hs _ _ (show (0 : Int) ≤ (j : Int) by omega) (by omega)] | rw [Int.toNat_natCast])
      rw [c82_10]
      by_cases g : m < 300
      · (try rw [if_pos g]); (try rw [fC122 hs _ (by decide)]); (try rw [bnd_s]); (try rw [hn.2.1]); (try rw [if_neg (by omega)]); (try rw [e55])
      · rw [if_neg g, e55]
    · rw [u2_n (by omega), u2_n (by omega)]; exact hj
    · rw [u2_n (by omega), u2_n (by omega)]; exact h9
    · rw [Int.toNat_natCast]; exact hst
    · have hi : i < j := by omega
      rw [u2_n (by omega), u2_n (by omega), show u2 (u2 c 124 j 0) 125 j n 125 i = c 125 i by rw [u2_n (by omega), u2_n (by omega)], u2_n (by omega), u2_n (by omega)]
      exact hfl i hi
    · rw [Int.toNat_natCast, u2_n (by omega), u2_e]
    · rw [Int.toNat_natCast, u2_e]
    · rw [u2_n (by omega), u2_n (by omega)]
  induction k with
  | zero =>
    intro v m j c a1 a2 a3 a4 hT hR hx hj h9 hv hfl hjv
    have e : v = n := by omega
    subst e
    rw [fe_z (by omega)] at hv
    exact fin m j c hT hR hj h9 hv.symm hfl hjv
  | succ k ih =>
    intro v m j c a1 a2 a3 a4 hT hR hx hj h9 hv hfl hjv
    have hn := hT.1
    by_cases g : v < n
    · have ht := (hT.2 v (by omega) g).1
      by_cases hK : T v = 32 ∨ T v = 10
      · have hb : isK (T v) = true := isK_t.mpr hK
        obtain ⟨c', K, r, q1, q2⟩ := ih (v + 1) (m + 1) j c (by omega) (by omega) (by omega) (by omega) hT hR hx hj h9 (by rw [← fe_s g hb]; exact hv) hfl (by omega)
        refine ⟨c', K, ?_, q1, q2⟩
        have e29 : Rr (Cd (d + 8)) 82 29 [some (vA 122), some (vI v), some (vI m)] [] (s, c) = some ([], (s, c')) := by
          rw [c82_29, c82_53, w32_id (by omega) (by omega), w32_id (by omega) (by omega), r]
        (try rw [c82_10]); (try rw [if_pos (by omega)]); (try rw [fC122 hs _ (by decide)]); (try rw [bnd_s]); (try rw [hn.2.1]); (try rw [if_pos g]); (try rw [fC122 hs _ (by decide)]); (try rw [bnd_s]); (try rw [hn.1]); (try rw [aC123 hs _ (by omega) (by omega)]); (try rw [bnd_s]); (try rw [ht])
        by_cases g32 : T v = 32
        · rw [if_pos g32, e29]
        · (try rw [if_neg g32]); (try rw [fC122 hs _ (by decide)]); (try rw [bnd_s]); (try rw [hn.1]); (try rw [aC123 hs _ (by omega) (by omega)]); (try rw [bnd_s]); (try rw [ht]); (try rw [if_pos (by omega)]); (try rw [e29])
      · have hb : ¬ (v < n ∧ isK (T v) = true) := fun w => hK (isK_t.mp w.2)
        have hvj : sts T n j = v := by rw [← hv, fe_z hb]
        have e9 : FS c (u2 (u2 c 125 j v) 126 j 0) := fun o k g1 g2 g3 g4 => by rw [u2_n (by omega), u2_n (by omega)]
        obtain ⟨c1, r1, p1, p2, p3⟩ := k83 d hs (e9.xt hx) (e9.tp hT) (e9.rd hR) (j := (j : Int)) (by rw [u2_n (by omega), u2_n (by omega)]; exact hj) (by omega) (by omega) (p := v) (by omega) g
        rw [Int.toNat_natCast] at p1 p2 p3
        have p2 := p2 (u2_e _ _ _ _)
        have f1 : FS c (u2 c1 122 8 ((j : Int) + 1)) := fun o k g1 g2 g3 g4 => by
          rw [u2_n (by omega), p3 o k (by omega) (by omega), u2_n (by omega), u2_n (by omega)]
        have tb := tke_b (T := T) g
        obtain ⟨c', K, r, q1, q2⟩ := ih (tke T n v) (m + 1) (j + 1) (u2 c1 122 8 ((j : Int) + 1)) (by omega) (by omega) (by omega) tb.2 (f1.tp hT) (f1.rd hR) (f1.xt hx) (by rw [u2_e]; omega) (by rw [u2_n (by omega), p3 122 9 (by omega) (by omega), u2_n (by omega), u2_n (by omega)]; exact h9) (by rw [sts_s (by omega), hvj]) (fun i hi => by
          by_cases e : i = j
          · subst e
            rw [hvj]
            refine ⟨g, ?_, ?_, ?_⟩
            · rw [u2_n (by omega)]; exact p1
            · rw [u2_n (by omega), p3 125 i (by omega) (by omega), u2_n (by omega), u2_e]
            · rw [u2_n (by omega)]; exact p2
          · obtain ⟨b1, b2, b3, b4⟩ := hfl i (by omega)
            refine ⟨b1, ?_, ?_, ?_⟩
            · rw [u2_n (by omega), p3 124 i (by omega) (by omega), u2_n (by omega), u2_n (by omega)]; exact b2
            · rw [u2_n (by omega), p3 125 i (by omega) (by omega), u2_n (by omega), u2_n (by omega)]; exact b3
            · rw [u2_n (by omega), p3 126 i (by omega) (by omega), u2_n (by omega), u2_n (by omega)]; exact b4) (by omega)
        refine ⟨c', K, ?_, q1, f1.tr q2⟩
        have h8 : c1 122 8 = (j : Int) := by rw [p3 122 8 (by omega) (by omega), u2_n (by omega), u2_n (by omega)]; exact hj
        (try rw [c82_10]); (try rw [if_pos (by omega)]); (try rw [fC122 hs _ (by decide)]); (try rw [bnd_s]); (try rw [hn.2.1]); (try rw [if_pos g]); (try rw [fC122 hs _ (by decide)]); (try rw [bnd_s]); (try rw [hn.1]); (try rw [aC123 hs _ (by omega) (by omega)]); (try rw [bnd_s]); (try rw [ht]); (try rw [if_neg (by omega)]); (try rw [fC122 hs _ (by decide)]); (try rw [bnd_s]); (try rw [hn.1]); (try rw [aC123 hs _ (by omega) (by omega)]); (try rw [bnd_s]); (try rw [ht]); (try rw [if_neg (by omega)]); (try rw [fC122 hs _ (by decide)]); (try rw [bnd_s]); (try rw [hR.2.1]); (try rw [fC122 hs _ (by decide)]); (try rw [bnd_s]); (try rw [hj]); (try rw [qC125 hs _ _ (by omega) (by omega)]); (try rw [bnd_s]); (try rw [Int.toNat_natCast]); (try rw [fC122 hs _ (by decide)]); (try rw [bnd_s]); (try rw [u2_n (by omega)]); (try rw [hR.2.2.1]); (try rw [fC122 hs _ (by decide)]); (try rw [bnd_s]); (try rw [u2_n (by omega)]); (try rw [hj]); (try rw [qC126 hs _ _ (by omega) (by omega)]); (try rw [bnd_s]); (try rw [Int.toNat_natCast]); (try rw [r1]); (try rw [bnd_s]); (try rw [tI_m]); (try rw [bnd_s]); (try rw [fC122 hs _ (by decide)]); (try rw [bnd_s]); (try rw [h8]); (try rw [pC122 hs _ _ (by decide)]); (try rw [bnd_s]); (try rw [w32_id (by omega) (by omega)]); (try rw [c82_53]); (try rw [w32_id (by omega) (by omega)]); (try rw [r])
    · have e : v = n := by omega
      subst e
      rw [fe_z (by omega)] at hv
      exact fin m j c hT hR hj h9 hv.symm hfl hjv
theorem k82 (d : Nat) {s : List (Nat × Nat)} {c : Nat → Nat → Int} {T : Int → Int} {n : Int} (hs : SpL s) (hx : Xt c) (hT : TpC T n c) (hR : RdC c) : ∃ c' K, Cd (d + 9) 82 [vA 122] (s, c) = some ([], (s, c')) ∧ TokC T n K c' ∧ FS c c' := by
  have hn := hT.1
  have f0 : FS c (u2 (u2 c 122 8 0) 122 9 0) := fun o k g1 g2 g3 g4 => by rw [u2_n (by omega), u2_n (by omega)]
  obtain ⟨c', K, r, q1, q2⟩ := k82_l d hs (T := T) (n := n) n.toNat 0 0 0 (u2 (u2 c 122 8 0) 122 9 0) (by omega) (by omega) (by omega) (by omega) (f0.tp hT) (f0.rd hR) (f0.xt hx) (by rw [u2_n (by omega), u2_e]; rfl) (u2_e _ _ _ _) rfl (fun i hi => by omega) (by omega)
  refine ⟨c', K, ?_, q1, f0.tr q2⟩
  (try rw [c82 (hg := gC122 hs c)]); (try rw [pC122 hs _ _ (by decide)]); (try rw [bnd_s]); (try rw [pC122 hs _ _ (by decide)]); (try rw [bnd_s]); (try rw [r])
/-- the reader while it reads -/
def EV (tk nv st : Int → Int) (K : Int) (c : Nat → Nat → Int) : Prop := RdC c ∧ c 122 8 = K ∧ (0 ≤ K ∧ K ≤ 300) ∧ tk K = 0 ∧ (∀ i, 0 ≤ i → i ≤ K → c 124 i.toNat = tk i ∧ c 125 i.toNat = st i) ∧ (∀ i, 0 ≤ i → i < K → c 126 i.toNat = nv i)
theorem EV_tok {T : Int → Int} {n K : Int} {c : Nat → Nat → Int} (hn : n ≤ 300) (hR : RdC c) (h : TokC T n K c) : EV (tkA T n) (nvA T n) (fun i => sts T n i.toNat) K c := by
  obtain ⟨h1, h2, h3, h4, h5, h6, h7⟩ := h
  have tz : tkA T n K = 0 := by unfold tkA; rw [h4, if_neg (by omega)]
  refine ⟨hR, h1, ⟨h3.1, by omega⟩, tz, fun i g0 g1 => ?_, fun i g0 g1 => ?_⟩
  · by_cases e : i = K
    · rw [e, tz]
      exact ⟨h6, by rw [h7]; show n = sts T n K.toNat; exact h4.symm⟩
    · have a := h5 i.toNat (by omega)
      refine ⟨?_, a.2.2.1⟩
      unfold tkA
      rw [if_pos a.1]; exact a.2.1
  · have a := h5 i.toNat (by omega)
    unfold nvA
    rw [if_pos a.1]; exact a.2.2.2
/-- steps, in the class's words -/
def rnC (q : Int × Int) : Int := if q.1 = 0 then 3 else if q.1 = 1 then (if q.2 = 0 then 97 else if q.2 = 1 then 98 else if q.2 = 2 then 120 else 121) else if q.1 = 2 then 6 else if q.1 = 3 then 43 else if q.1 = 4 then 45 else if q.1 = 5 then 42 else if q.1 = 10 then 60 else if q.1 = 11 then 4 else if q.1 = 12 then 62 else if q.1 = 13 then 5 else if q.1 = 14 then 61 else if q.1 = 15 then 35 else if q.1 = 20 then 7 else if q.1 = 21 then 8 else 9
def StC (c : Nat → Nat → Int) (X : List (Int × Int)) : Prop := ∀ (j : Nat) (q : Int × Int), X[j]? = some q → c 128 j = rnC q ∧ (q.1 = 0 → c 129 j = q.2)
def KS (K : Int) (c : Nat → Nat → Int) (i : Int) (X : List (Int × Int)) : Prop := c 122 9 = i ∧ (0 ≤ i ∧ i ≤ K) ∧ c 127 3 = (X.length : Int) ∧ (X.length : Int) ≤ i ∧ StC c X ∧ c 122 6 = 0 ∧ c 122 7 = -1
def FP (c c' : Nat → Nat → Int) : Prop := ∀ o k, ¬ (o = 122 ∧ (k = 6 ∨ k = 7 ∨ k = 9)) → ¬ (o = 127 ∧ k = 3) → o ≠ 128 → o ≠ 129 → c' o k = c o k
theorem FP.rf (c : Nat → Nat → Int) : FP c c := fun _ _ _ _ _ _ => rfl
theorem FP.tr {a b c : Nat → Nat → Int} (h : FP a b) (g : FP b c) : FP a c := fun o k h1 h2 h3 h4 => (g o k h1 h2 h3 h4).trans (h o k h1 h2 h3 h4)
theorem EV_of {tk nv st : Int → Int} {K : Int} {c c' : Nat → Nat → Int} (h : EV tk nv st K c) (f : FP c c') : EV tk nv st K c' := by
  obtain ⟨⟨a1, a2, a3, a4, a5, a6, a7⟩, h1, h2, h3, h4, h5⟩ := h
  refine ⟨⟨?_, ?_, ?_, ?_, ?_, ?_, ?_⟩, ?_, h2, h3, fun i g0 g1 => ?_, fun i g0 g1 => ?_⟩
  case refine_9 => rw [f 124 _ (by omega) (by omega) (by omega) (by omega), f 125 _ (by omega) (by omega) (by omega) (by omega)]; exact h4 i g0 g1
  case refine_10 => rw [f 126 _ (by omega) (by omega) (by omega) (by omega)]; exact h5 i g0 g1
  all_goals (rw [f _ _ (by omega) (by omega) (by omega) (by omega)]; assumption)
def KR (st : Int → Int) (K : Int) (c c' : Nat → Nat → Int) (X : List (Int × Int)) (r : Rs) : Prop := FP c c' ∧ (r.1 = 0 → KS K c' r.2.1 (X ++ r.2.2)) ∧ (r.1 ≠ 0 → c' 122 6 = r.1 ∧ c' 122 7 = st r.2.1)
def rv (r : Rs) : Int := if r.1 = 0 then 1 else 0
theorem rv_1 {r : Rs} (h : r.1 = 0) : rv r = 1 := if_pos h
theorem rv_0 {r : Rs} (h : r.1 ≠ 0) : rv r = 0 := if_neg h
def KQ (s : List (Nat × Nat)) (tk nv st : Int → Int) (K : Int) (D z : Nat) (a : List AV) (Q : Int → Rs) : Prop := ∀ d c i X, EV tk nv st K c → KS K c i X → ∃ c', Cd (d + D + 1) z (vA 122 :: a) (s, c) = some ([vI (rv (Q i))], (s, c')) ∧ KR st K c c' X (Q i)
theorem KQ_up {s : List (Nat × Nat)} {tk nv st : Int → Int} {K : Int} {D D' z : Nat} {a : List AV} {Q : Int → Rs} (h : KQ s tk nv st K D z a Q) (hD : D ≤ D') : KQ s tk nv st K D' z a Q := fun d c i X h1 h2 => by
  have := h (d + (D' - D)) c i X h1 h2
  rw [show d + (D' - D) + D + 1 = d + D' + 1 by omega] at this
  exact this
theorem KR_ok {st : Int → Int} {K : Int} {c : Nat → Nat → Int} {X : List (Int × Int)} {i : Int} (h : KS K c i X) : KR st K c c X (pOk i []) := ⟨FP.rf c, fun _ => by show KS K c i (X ++ []); rw [List.append_nil]; exact h, fun g => absurd rfl g⟩
section
variable {s : List (Nat × Nat)} {tk nv st : Int → Int} {K : Int} {c : Nat → Nat → Int} {i : Int} {X : List (Int × Int)}
theorem k70 (d : Nat) (hs : SpL s) (hE : EV tk nv st K c) (hk : KS K c i X) {e : Int} (he : e ≠ 0) : ∃ c', Cd (d + 1) 70 [vA 122, vI e] (s, c) = some ([vI 0], (s, c')) ∧ KR st K c c' X (pEr e i) := by
  have hi := hk.2.1
  have hK := hE.2.2.1
  refine ⟨u2 (u2 c 122 6 e) 122 7 (st i), ?_, fun o k g1 g2 g3 g4 => by rw [u2_n (by omega), u2_n (by omega)], fun g => absurd g he, fun _ => ⟨by rw [u2_n (by omega), u2_e]; rfl, u2_e _ _ _ _⟩⟩
  (try rw [c70 (hg := gC122 hs c)]); (try rw [pC122 hs _ _ (by decide)]); (try rw [bnd_s]); (try rw [fC122 hs _ (by decide)]); (try rw [bnd_s]); (try rw [u2_n (by omega)]); (try rw [hE.1.2.1]); (try rw [fC122 hs _ (by decide)]); (try rw [bnd_s]); (try rw [u2_n (by omega)]); (try rw [hk.1]); (try rw [aC125 hs _ hi.1 (by omega)]); (try rw [bnd_s]); (try rw [u2_n (by omega)]); (try rw [(hE.2.2.2.2.1 i hi.1 hi.2).2]); (try rw [pC122 hs _ _ (by decide)]); (try rw [bnd_s])
theorem k71 (d : Nat) (hs : SpL s) (hE : EV tk nv st K c) (hk : KS K c i X) (hn : tk i ≠ 0) : ∃ c', Cd (d + 1) 71 [vA 122] (s, c) = some ([], (s, c')) ∧ FP c c' ∧ KS K c' (i + 1) X := by
  have hi := hk.2.1
  have hK := hE.2.2.1
  have hlt := tk_lt hE.2.2.2.1 hi.2 hn
  refine ⟨u2 c 122 9 (i + 1), ?_, fun o k g1 g2 g3 g4 => u2_n (by omega), u2_e _ _ _ _, ⟨by omega, hlt⟩, by rw [u2_n (by omega)]; exact hk.2.2.1, by have := hk.2.2.2.1; omega, fun j q hq => ?_, by rw [u2_n (by omega)]; exact hk.2.2.2.2.2.1, by rw [u2_n (by omega)]; exact hk.2.2.2.2.2.2⟩
  · (try rw [c71 (hg := gC122 hs c)]); (try rw [fC122 hs _ (by decide)]); (try rw [bnd_s]); (try rw [hk.1]); (try rw [fC122 hs _ (by decide)]); (try rw [bnd_s]); (try rw [hE.2.1]); (try rw [if_pos (by omega)]); (try rw [fC122 hs _ (by decide)]); (try rw [bnd_s]); (try rw [hk.1]); (try rw [pC122 hs _ _ (by decide)]); (try rw [bnd_s]); (try rw [w32_id (by omega) (by omega)]); (try rw [c71_11])
  · rw [u2_n (by omega), u2_n (by omega)]; exact hk.2.2.2.2.1 j q hq
theorem k26 (d : Nat) (hs : SpL s) (hE : EV tk nv st K c) (hk : KS K c i X) (q : Int × Int) (hl : (X.length : Int) + 1 ≤ i) {a b : Int} (ha : a = rnC q) (hb : q.1 = 0 → b = q.2) : ∃ c', Cd (d + 1) 26 [vA 127, vI a, vI b] (s, c) = some ([], (s, c')) ∧ FP c c' ∧ KS K c' i (X ++ [q]) := by
  have hi := hk.2.1
  have hK := hE.2.2.1
  have h3 := hk.2.2.1
  refine ⟨u2 (u2 (u2 c 128 X.length a) 129 X.length b) 127 3 ((X.length : Int) + 1), ?_, fun o k g1 g2 g3 g4 => by rw [u2_n (by omega), u2_n (by omega), u2_n (by omega)], ?_, hi, ?_, ?_, fun j q' hq => ?_, by rw [u2_n (by omega), u2_n (by omega), u2_n (by omega)]; exact hk.2.2.2.2.2.1, by rw [u2_n (by omega), u2_n (by omega), u2_n (by omega)]; exact hk.2.2.2.2.2.2⟩
  · rw [c26 (hg := gC127 hs c)]
    repeat (first | rw [bnd_s] | rw [fC127 hs _ (by decide)] | rw [pC127 hs _ _ (by decide)] | rw [u2_n (by omega)] | rw [h3] | rw [if_pos (show (X.length : Int) < 300 by omega)] | rw [hE.1.2.2.2.2.1] | rw [hE.1.2.2.2.2.2.1] | rw [qC128 hs _ _ (show (0 : Int) ≤ (X.length : Int) by omega) (by omega)] | rw [qC129 hs _ _ (show (0 : Int) ≤ (X.length : Int) by omega) (by omega)] | rw [Int.toNat_natCast] | rw [w32_id (z := (X.length : Int) + 1) (by omega) (by omega)] | rw [c26_22])
  · rw [u2_n (by omega), u2_n (by omega), u2_n (by omega)]; exact hk.1
  · rw [u2_e, List.length_append]; simp
  · rw [List.length_append]; simp; omega
  · by_cases e : j < X.length
    · rw [List.getElem?_append_left e] at hq
      rw [u2_n (by omega), u2_n (by omega), u2_n (by omega), u2_n (by omega), u2_n (by omega), u2_n (by omega)]
      exact hk.2.2.2.2.1 j q' hq
    · rw [List.getElem?_append_right (by omega)] at hq
      have ej : j = X.length := by
        have := (List.getElem?_eq_some_iff.mp hq).1
        simp at this; omega
      subst ej
      rw [Nat.sub_self] at hq
      have eq : q = q' := by simpa using hq
      subst eq
      rw [u2_n (by omega), u2_n (by omega), u2_e, u2_n (by omega), u2_e]
      exact ⟨ha, hb⟩
theorem k71g (d : Nat) (hs : SpL s) (hE : EV tk nv st K c) (h9 : c 122 9 = i) (h0 : 0 ≤ i) (h1 : i < K) : Cd (d + 1) 71 [vA 122] (s, c) = some ([], (s, u2 c 122 9 (i + 1))) := by
  have hK := hE.2.2.1
  (try rw [c71 (hg := gC122 hs c)]); (try rw [fC122 hs _ (by decide)]); (try rw [bnd_s]); (try rw [h9]); (try rw [fC122 hs _ (by decide)]); (try rw [bnd_s]); (try rw [hE.2.1]); (try rw [if_pos (by omega)]); (try rw [fC122 hs _ (by decide)]); (try rw [bnd_s]); (try rw [h9]); (try rw [pC122 hs _ _ (by decide)]); (try rw [bnd_s]); (try rw [w32_id (by omega) (by omega)]); (try rw [c71_11])
theorem k26s (d : Nat) (hs : SpL s) (hE : EV tk nv st K c) (hk : KS K c i X) (hn : tk i ≠ 0) (q : Int × Int) {a b : Int} (ha : a = rnC q) (hb : q.1 = 0 → b = q.2) : ∃ c1 c2, Cd (d + 1) 26 [vA 127, vI a, vI b] (s, c) = some ([], (s, c1)) ∧ Cd (d + 1) 71 [vA 122] (s, c1) = some ([], (s, c2)) ∧ FP c c2 ∧ KS K c2 (i + 1) (X ++ [q]) := by
  have hi := hk.2.1
  have hK := hE.2.2.1
  have hlt := tk_lt hE.2.2.2.1 hi.2 hn
  have h3 := hk.2.2.1
  have hl := hk.2.2.2.1
  have f1 : FP c (u2 (u2 (u2 c 128 X.length a) 129 X.length b) 127 3 ((X.length : Int) + 1)) := fun o k g1 g2 g3 g4 => by rw [u2_n (by omega), u2_n (by omega), u2_n (by omega)]
  have h9 : u2 (u2 (u2 c 128 X.length a) 129 X.length b) 127 3 ((X.length : Int) + 1) 122 9 = i := by
    rw [u2_n (by omega), u2_n (by omega), u2_n (by omega)]; exact hk.1
  refine ⟨_, _, ?_, k71g d hs (EV_of hE f1) h9 hi.1 (by omega), f1.tr (fun o k g1 g2 g3 g4 => u2_n (by omega)), u2_e _ _ _ _, ⟨by omega, by omega⟩, ?_, ?_, fun j q' hq => ?_, by rw [u2_n (by omega), u2_n (by omega), u2_n (by omega), u2_n (by omega)]; exact hk.2.2.2.2.2.1, by rw [u2_n (by omega), u2_n (by omega), u2_n (by omega), u2_n (by omega)]; exact hk.2.2.2.2.2.2⟩
  · rw [c26 (hg := gC127 hs c)]
    repeat (first | rw [bnd_s] | rw [fC127 hs _ (by decide)] | rw [pC127 hs _ _ (by decide)] | rw [u2_n (by omega)] | rw [h3] | rw [if_pos (show (X.length : Int) < 300 by omega)] | rw [hE.1.2.2.2.2.1] | rw [hE.1.2.2.2.2.2.1] | rw [qC128 hs _ _ (show (0 : Int) ≤ (X.length : Int) by omega) (by omega)] | rw [qC129 hs _ _ (show (0 : Int) ≤ (X.length : Int) by omega) (by omega)] | rw [Int.toNat_natCast] | rw [w32_id (z := (X.length : Int) + 1) (by omega) (by omega)] | rw [c26_22])
  · rw [u2_n (by omega), u2_e, List.length_append]; simp
  · rw [List.length_append]; simp; omega
  · by_cases e : j < X.length
    · rw [List.getElem?_append_left e] at hq
      rw [u2_n (by omega), u2_n (by omega), u2_n (by omega), u2_n (by omega), u2_n (by omega), u2_n (by omega), u2_n (by omega), u2_n (by omega)]
      exact hk.2.2.2.2.1 j q' hq
    · rw [List.getElem?_append_right (by omega)] at hq
      have ej : j = X.length := by
        have := (List.getElem?_eq_some_iff.mp hq).1
        simp at this; omega
      subst ej
      rw [Nat.sub_self] at hq
      have eq : q = q' := by simpa using hq
      subst eq
      rw [u2_n (by omega), u2_n (by omega), u2_n (by omega), u2_e, u2_n (by omega), u2_n (by omega), u2_e]
      exact ⟨ha, hb⟩
theorem tkr (hE : EV tk nv st K c) (hk : KS K c i X) : c 124 i.toNat = tk i := (hE.2.2.2.2.1 i hk.2.1.1 hk.2.1.2).1
end
theorem andL_n {tk nv : Int → Int} {i : Int} (h : tk i ≠ 8) : ∀ f, andL tk nv f i = pOk i []
  | 0 => rfl
  | f + 1 => by unfold andL; rw [if_neg h]
theorem andL_e {tk nv : Int → Int} {i : Int} {f : Nat} (h : tk i = 8) (h1 : (cmpP tk nv 8 (i + 1)).1 ≠ 0) : andL tk nv (f + 1) i = cmpP tk nv 8 (i + 1) := by
  unfold andL; rw [if_pos h, pBd_er h1]
theorem andL_s {tk nv : Int → Int} {i : Int} {f : Nat} (h : tk i = 8) (h1 : (cmpP tk nv 8 (i + 1)).1 = 0) : andL tk nv (f + 1) i = ((andL tk nv f (cmpP tk nv 8 (i + 1)).2.1).1, (andL tk nv f (cmpP tk nv 8 (i + 1)).2.1).2.1, (cmpP tk nv 8 (i + 1)).2.2 ++ ([(21, 0)] ++ (andL tk nv f (cmpP tk nv 8 (i + 1)).2.1).2.2)) := by
  rw [andL, if_pos h, pBd_s h1, pBd_ok]
theorem orL_n {tk nv : Int → Int} {i : Int} (h : tk i ≠ 9) : ∀ f, orL tk nv f i = pOk i []
  | 0 => rfl
  | f + 1 => by unfold orL; rw [if_neg h]
theorem orL_e {tk nv : Int → Int} {i : Int} {f : Nat} (h : tk i = 9) (h1 : (andP tk nv (i + 1)).1 ≠ 0) : orL tk nv (f + 1) i = andP tk nv (i + 1) := by
  unfold orL; rw [if_pos h, pBd_er h1]
theorem orL_s {tk nv : Int → Int} {i : Int} {f : Nat} (h : tk i = 9) (h1 : (andP tk nv (i + 1)).1 = 0) : orL tk nv (f + 1) i = ((orL tk nv f (andP tk nv (i + 1)).2.1).1, (orL tk nv f (andP tk nv (i + 1)).2.1).2.1, (andP tk nv (i + 1)).2.2 ++ ([(22, 0)] ++ (orL tk nv f (andP tk nv (i + 1)).2.1).2.2)) := by
  rw [orL, if_pos h, pBd_s h1, pBd_ok]
theorem k79_l (d D : Nat) {s : List (Nat × Nat)} {tk nv st : Int → Int} {K : Int} (hs : SpL s) (hz : tk K = 0) {a : Int} {P : Int → Rs} (hW : WQ K (P)) (H : KQ s tk nv st K D 80 [vI a] (P)) : ∀ (f : Nat) (v : Int), 0 ≤ v → v + (f : Int) = 300 → ∀ (c : Nat → Nat → Int) (i : Int) (X : List (Int × Int)), EV tk nv st K c → KS K c i X → ∃ c', Rr (Cd (d + D + 1)) 79 8 [some (vA 122), some (vI a), some (vI v)] [] (s, c) = some ([vI (rv (mulL tk P f i))], (s, c')) ∧ KR st K c c' X (mulL tk P f i) := by
  intro f
  induction f with
  | zero =>
    intro v v0 hv c i X hE hk
    refine ⟨c, ?_, KR_ok hk⟩
    rw [c79_8, if_neg (by omega), c79_33]; rfl
  | succ f ih =>
    intro v v0 hv c i X hE hk
    have hi := hk.2.1
    have hK := hE.2.2.1
    have htk := tkr hE hk
    have hXl := hk.2.2.2.1
    by_cases h : tk i = 42
    · obtain ⟨c1, r1, f1, s1⟩ := k71 (d + D) hs hE hk (by rw [h]; decide)
      have E1 := EV_of hE f1
      obtain ⟨c2, r2, f2, s2, t2⟩ := H d c1 (i + 1) X E1 s1
      have w := hW (i + 1) (by omega) s1.2.1.2
      by_cases hr : (P (i + 1)).1 = 0
      · have s2 := s2 hr
        have E2 := EV_of E1 f2
        have w3 := w.2.1 hr
        obtain ⟨c3, r3, f3, s3⟩ := k26 (d + D) hs E2 s2 (5, 0) (a := 42) (b := 0) (by rw [List.length_append]; omega) rfl (fun g => rfl)
        have E3 := EV_of E2 f3
        obtain ⟨c4, r4, f4, s4, t4⟩ := ih (v + 1) (by omega) (by omega) c3 _ _ E3 s3
        refine ⟨c4, ?_, ((f1.tr f2).tr f3).tr f4, fun z => ?_, fun z => ?_⟩
        · (try rw [c79_8]); (try rw [if_pos (by omega)]); (try rw [fC122 hs _ (by decide)]); (try rw [bnd_s]); (try rw [hE.1.1]); (try rw [fC122 hs _ (by decide)]); (try rw [bnd_s]); (try rw [hk.1]); (try rw [aC124 hs _ hi.1 (by omega)]); (try rw [bnd_s]); (try rw [htk]); (try rw [if_pos h]); (try rw [r1]); (try rw [bnd_s]); (try rw [tV_m]); (try rw [bnd_s]); (try rw [r2]); (try rw [rv_1 hr]); (try rw [bnd_s]); (try rw [tI_m]); (try rw [bnd_s]); (try rw [if_neg (show ¬ (1 : Int) = 0 by decide)]); (try rw [fC122 hs _ (by decide)]); (try rw [bnd_s]); (try rw [E2.1.2.2.2.1]); (try rw [r3]); (try rw [bnd_s]); (try rw [tV_m]); (try rw [bnd_s]); (try rw [w32_id (by omega) (by omega)]); (try rw [r4]); (try rw [mulL_s h hr]); (try rfl)
        · rw [mulL_s h hr] at z ⊢
          have q := s4 z
          simp only [List.append_assoc] at q ⊢
          exact q
        · rw [mulL_s h hr] at z ⊢
          exact t4 z
      · refine ⟨c2, ?_, f1.tr f2, fun z => ?_, fun z => ?_⟩
        · (try rw [c79_8]); (try rw [if_pos (by omega)]); (try rw [fC122 hs _ (by decide)]); (try rw [bnd_s]); (try rw [hE.1.1]); (try rw [fC122 hs _ (by decide)]); (try rw [bnd_s]); (try rw [hk.1]); (try rw [aC124 hs _ hi.1 (by omega)]); (try rw [bnd_s]); (try rw [htk]); (try rw [if_pos h]); (try rw [r1]); (try rw [bnd_s]); (try rw [tV_m]); (try rw [bnd_s]); (try rw [r2]); (try rw [rv_0 hr]); (try rw [bnd_s]); (try rw [tI_m]); (try rw [bnd_s]); (try rw [if_pos rfl]); (try rw [mulL_e h hr]); (try rw [rv_0 hr])
        · rw [mulL_e h hr] at z; exact absurd z hr
        · rw [mulL_e h hr]; exact t2 hr
    · refine ⟨c, ?_, by rw [mulL_n h]; exact KR_ok hk⟩
      (try rw [c79_8]); (try rw [if_pos (by omega)]); (try rw [fC122 hs _ (by decide)]); (try rw [bnd_s]); (try rw [hE.1.1]); (try rw [fC122 hs _ (by decide)]); (try rw [bnd_s]); (try rw [hk.1]); (try rw [aC124 hs _ hi.1 (by omega)]); (try rw [bnd_s]); (try rw [htk]); (try rw [if_neg h]); (try rw [c79_33]); (try rw [mulL_n h]); (try rfl)
theorem k79 (D : Nat) {s : List (Nat × Nat)} {tk nv st : Int → Int} {K : Int} (hs : SpL s) (hz : tk K = 0) {a : Int} {P : Int → Rs} (hW : WQ K (P)) (H : KQ s tk nv st K D 80 [vI a] (P)) : KQ s tk nv st K (D + 1) 79 [vI a] (term tk P) := fun d c i X hE hk => by
  show ∃ c', Cd (d + D + 1 + 1) 79 (vA 122 :: [vI a]) (s, c) = some ([vI (rv (term tk P i))], (s, c')) ∧ KR st K c c' X (term tk P i)
  obtain ⟨c2, r2, f2, s2, t2⟩ := H d c i X hE hk
  have E2 := EV_of hE f2
  by_cases hr : (P i).1 = 0
  · obtain ⟨c4, r4, f4, s4, t4⟩ := k79_l d D hs hz hW H 300 0 (by omega) (by omega) c2 _ _ E2 (s2 hr)
    unfold term
    rw [pBd_s hr]
    refine ⟨c4, ?_, f2.tr f4, fun z => ?_, fun z => t4 z⟩
    · (try rw [c79 (hg := gC122 hs c)]); (try rw [r2]); (try rw [rv_1 hr]); (try rw [bnd_s]); (try rw [tI_m]); (try rw [bnd_s]); (try rw [if_neg (show ¬ (1 : Int) = 0 by decide)]); (try rw [r4]); (try rfl)
    · have q := s4 z
      simp only [List.append_assoc] at q ⊢
      exact q
  · unfold term
    rw [pBd_er hr]
    refine ⟨c2, ?_, f2, fun z => absurd z hr, t2⟩
    (try rw [c79 (hg := gC122 hs c)]); (try rw [r2]); (try rw [rv_0 hr]); (try rw [bnd_s]); (try rw [tI_m]); (try rw [bnd_s]); (try rw [if_pos rfl])
theorem k78_l (d D : Nat) {s : List (Nat × Nat)} {tk nv st : Int → Int} {K : Int} (hs : SpL s) (hz : tk K = 0) {a : Int} {P : Int → Rs} (hW : WQ K (term tk P)) (H : KQ s tk nv st K D 79 [vI a] (term tk P)) : ∀ (f : Nat) (v : Int), 0 ≤ v → v + (f : Int) = 300 → ∀ (c : Nat → Nat → Int) (i : Int) (X : List (Int × Int)) (o3 : Option AV), EV tk nv st K c → KS K c i X → ∃ c', Rr (Cd (d + D + 1)) 78 8 [some (vA 122), some (vI a), some (vI v), o3] [] (s, c) = some ([vI (rv (addL tk P f i))], (s, c')) ∧ KR st K c c' X (addL tk P f i) := by
  intro f
  induction f with
  | zero =>
    intro v v0 hv c i X o3 hE hk
    refine ⟨c, ?_, KR_ok hk⟩
    rw [c78_8, if_neg (by omega), c78_46]; rfl
  | succ f ih =>
    intro v v0 hv c i X o3 hE hk
    have hi := hk.2.1
    have hK := hE.2.2.1
    have htk := tkr hE hk
    have hXl := hk.2.2.2.1
    by_cases h : tk i = 43 ∨ tk i = 45
    · obtain ⟨c1, r1, f1, s1⟩ := k71 (d + D) hs hE hk (by omega)
      have E1 := EV_of hE f1
      obtain ⟨c2, r2, f2, s2, t2⟩ := H d c1 (i + 1) X E1 s1
      have w := hW (i + 1) (by omega) s1.2.1.2
      have e25 : ∀ R, Rr (Cd (d + D + 1)) 78 25 [some (vA 122), some (vI a), some (vI v), o3] [] (s, c) = R → Rr (Cd (d + D + 1)) 78 8 [some (vA 122), some (vI a), some (vI v), o3] [] (s, c) = R := fun R hR => by
        (try rw [c78_8]); (try rw [if_pos (by omega)]); (try rw [fC122 hs _ (by decide)]); (try rw [bnd_s]); (try rw [hE.1.1]); (try rw [fC122 hs _ (by decide)]); (try rw [bnd_s]); (try rw [hk.1]); (try rw [aC124 hs _ hi.1 (by omega)]); (try rw [bnd_s]); (try rw [htk])
        rcases h with h | h
        · rw [if_pos h, hR]
        · (try rw [if_neg (by omega)]); (try rw [fC122 hs _ (by decide)]); (try rw [bnd_s]); (try rw [hE.1.1]); (try rw [fC122 hs _ (by decide)]); (try rw [bnd_s]); (try rw [hk.1]); (try rw [aC124 hs _ hi.1 (by omega)]); (try rw [bnd_s]); (try rw [htk]); (try rw [if_pos h]); (try rw [hR])
      by_cases hr : (term tk P (i + 1)).1 = 0
      · have s2 := s2 hr
        have E2 := EV_of E1 f2
        have w3 := w.2.1 hr
        obtain ⟨c3, r3, f3, s3⟩ := k26 (d + D) hs E2 s2 (addO (tk i), 0) (a := tk i) (b := 0) (by rw [List.length_append]; omega) (by rcases h with h | h <;> rw [h] <;> rfl) (fun g => rfl)
        have E3 := EV_of E2 f3
        obtain ⟨c4, r4, f4, s4, t4⟩ := ih (v + 1) (by omega) (by omega) c3 _ _ (some (vI (tk i))) E3 s3
        refine ⟨c4, ?_, ((f1.tr f2).tr f3).tr f4, fun z => ?_, fun z => ?_⟩
        · apply e25
          (try rw [c78_25]); (try rw [fC122 hs _ (by decide)]); (try rw [bnd_s]); (try rw [hE.1.1]); (try rw [fC122 hs _ (by decide)]); (try rw [bnd_s]); (try rw [hk.1]); (try rw [aC124 hs _ hi.1 (by omega)]); (try rw [bnd_s]); (try rw [htk]); (try rw [r1]); (try rw [bnd_s]); (try rw [tV_m]); (try rw [bnd_s]); (try rw [r2]); (try rw [rv_1 hr]); (try rw [bnd_s]); (try rw [tI_m]); (try rw [bnd_s]); (try rw [if_neg (show ¬ (1 : Int) = 0 by decide)]); (try rw [fC122 hs _ (by decide)]); (try rw [bnd_s]); (try rw [E2.1.2.2.2.1]); (try rw [r3]); (try rw [bnd_s]); (try rw [tV_m]); (try rw [bnd_s]); (try rw [w32_id (by omega) (by omega)]); (try rw [r4]); (try rw [addL_s h hr]); (try rfl)
        · rw [addL_s h hr] at z ⊢
          have q := s4 z
          simp only [List.append_assoc] at q ⊢
          exact q
        · rw [addL_s h hr] at z ⊢
          exact t4 z
      · refine ⟨c2, ?_, f1.tr f2, fun z => ?_, fun z => ?_⟩
        · apply e25
          (try rw [c78_25]); (try rw [fC122 hs _ (by decide)]); (try rw [bnd_s]); (try rw [hE.1.1]); (try rw [fC122 hs _ (by decide)]); (try rw [bnd_s]); (try rw [hk.1]); (try rw [aC124 hs _ hi.1 (by omega)]); (try rw [bnd_s]); (try rw [htk]); (try rw [r1]); (try rw [bnd_s]); (try rw [tV_m]); (try rw [bnd_s]); (try rw [r2]); (try rw [rv_0 hr]); (try rw [bnd_s]); (try rw [tI_m]); (try rw [bnd_s]); (try rw [if_pos rfl]); (try rw [addL_e h hr]); (try rw [rv_0 hr])
        · rw [addL_e h hr] at z; exact absurd z hr
        · rw [addL_e h hr]; exact t2 hr
    · refine ⟨c, ?_, by rw [addL_n h]; exact KR_ok hk⟩
      (try rw [c78_8]); (try rw [if_pos (by omega)]); (try rw [fC122 hs _ (by decide)]); (try rw [bnd_s]); (try rw [hE.1.1]); (try rw [fC122 hs _ (by decide)]); (try rw [bnd_s]); (try rw [hk.1]); (try rw [aC124 hs _ hi.1 (by omega)]); (try rw [bnd_s]); (try rw [htk]); (try rw [if_neg (by omega)]); (try rw [fC122 hs _ (by decide)]); (try rw [bnd_s]); (try rw [hE.1.1]); (try rw [fC122 hs _ (by decide)]); (try rw [bnd_s]); (try rw [hk.1]); (try rw [aC124 hs _ hi.1 (by omega)]); (try rw [bnd_s]); (try rw [htk]); (try rw [if_neg (by omega)]); (try rw [c78_46]); (try rw [addL_n h]); (try rfl)
theorem k78 (D : Nat) {s : List (Nat × Nat)} {tk nv st : Int → Int} {K : Int} (hs : SpL s) (hz : tk K = 0) {a : Int} {P : Int → Rs} (hW : WQ K (term tk P)) (H : KQ s tk nv st K D 79 [vI a] (term tk P)) : KQ s tk nv st K (D + 1) 78 [vI a] (expr tk P) := fun d c i X hE hk => by
  show ∃ c', Cd (d + D + 1 + 1) 78 (vA 122 :: [vI a]) (s, c) = some ([vI (rv (expr tk P i))], (s, c')) ∧ KR st K c c' X (expr tk P i)
  obtain ⟨c2, r2, f2, s2, t2⟩ := H d c i X hE hk
  have E2 := EV_of hE f2
  by_cases hr : (term tk P i).1 = 0
  · obtain ⟨c4, r4, f4, s4, t4⟩ := k78_l d D hs hz hW H 300 0 (by omega) (by omega) c2 _ _ none E2 (s2 hr)
    unfold expr
    rw [pBd_s hr]
    refine ⟨c4, ?_, f2.tr f4, fun z => ?_, fun z => t4 z⟩
    · (try rw [c78 (hg := gC122 hs c)]); (try rw [r2]); (try rw [rv_1 hr]); (try rw [bnd_s]); (try rw [tI_m]); (try rw [bnd_s]); (try rw [if_neg (show ¬ (1 : Int) = 0 by decide)]); (try rw [r4]); (try rfl)
    · have q := s4 z
      simp only [List.append_assoc] at q ⊢
      exact q
  · unfold expr
    rw [pBd_er hr]
    refine ⟨c2, ?_, f2, fun z => absurd z hr, t2⟩
    (try rw [c78 (hg := gC122 hs c)]); (try rw [r2]); (try rw [rv_0 hr]); (try rw [bnd_s]); (try rw [tI_m]); (try rw [bnd_s]); (try rw [if_pos rfl])
theorem k76_l (d D : Nat) {s : List (Nat × Nat)} {tk nv st : Int → Int} {K : Int} (hs : SpL s) (hz : tk K = 0) (hW : WQ K (cmpP tk nv 8)) (H : KQ s tk nv st K D 77 [vI 0] (cmpP tk nv 8)) : ∀ (f : Nat) (v : Int), 0 ≤ v → v + (f : Int) = 300 → ∀ (c : Nat → Nat → Int) (i : Int) (X : List (Int × Int)), EV tk nv st K c → KS K c i X → ∃ c', Rr (Cd (d + D + 1)) 76 8 [some (vA 122), some (vI v)] [] (s, c) = some ([vI (rv (andL tk nv f i))], (s, c')) ∧ KR st K c c' X (andL tk nv f i) := by
  intro f
  induction f with
  | zero =>
    intro v v0 hv c i X hE hk
    refine ⟨c, ?_, KR_ok hk⟩
    rw [c76_8, if_neg (by omega), c76_33]; rfl
  | succ f ih =>
    intro v v0 hv c i X hE hk
    have hi := hk.2.1
    have hK := hE.2.2.1
    have htk := tkr hE hk
    have hXl := hk.2.2.2.1
    by_cases h : tk i = 8
    · obtain ⟨c1, r1, f1, s1⟩ := k71 (d + D) hs hE hk (by rw [h]; decide)
      have E1 := EV_of hE f1
      obtain ⟨c2, r2, f2, s2, t2⟩ := H d c1 (i + 1) X E1 s1
      have w := hW (i + 1) (by omega) s1.2.1.2
      by_cases hr : (cmpP tk nv 8 (i + 1)).1 = 0
      · have s2 := s2 hr
        have E2 := EV_of E1 f2
        have w3 := w.2.1 hr
        obtain ⟨c3, r3, f3, s3⟩ := k26 (d + D) hs E2 s2 (21, 0) (a := 8) (b := 0) (by rw [List.length_append]; omega) rfl (fun g => rfl)
        have E3 := EV_of E2 f3
        obtain ⟨c4, r4, f4, s4, t4⟩ := ih (v + 1) (by omega) (by omega) c3 _ _ E3 s3
        refine ⟨c4, ?_, ((f1.tr f2).tr f3).tr f4, fun z => ?_, fun z => ?_⟩
        · (try rw [c76_8]); (try rw [if_pos (by omega)]); (try rw [fC122 hs _ (by decide)]); (try rw [bnd_s]); (try rw [hE.1.1]); (try rw [fC122 hs _ (by decide)]); (try rw [bnd_s]); (try rw [hk.1]); (try rw [aC124 hs _ hi.1 (by omega)]); (try rw [bnd_s]); (try rw [htk]); (try rw [if_pos h]); (try rw [r1]); (try rw [bnd_s]); (try rw [tV_m]); (try rw [bnd_s]); (try rw [r2]); (try rw [rv_1 hr]); (try rw [bnd_s]); (try rw [tI_m]); (try rw [bnd_s]); (try rw [if_neg (show ¬ (1 : Int) = 0 by decide)]); (try rw [fC122 hs _ (by decide)]); (try rw [bnd_s]); (try rw [E2.1.2.2.2.1]); (try rw [r3]); (try rw [bnd_s]); (try rw [tV_m]); (try rw [bnd_s]); (try rw [w32_id (by omega) (by omega)]); (try rw [r4]); (try rw [andL_s h hr]); (try rfl)
        · rw [andL_s h hr] at z ⊢
          have q := s4 z
          simp only [List.append_assoc] at q ⊢
          exact q
        · rw [andL_s h hr] at z ⊢
          exact t4 z
      · refine ⟨c2, ?_, f1.tr f2, fun z => ?_, fun z => ?_⟩
        · (try rw [c76_8]); (try rw [if_pos (by omega)]); (try rw [fC122 hs _ (by decide)]); (try rw [bnd_s]); (try rw [hE.1.1]); (try rw [fC122 hs _ (by decide)]); (try rw [bnd_s]); (try rw [hk.1]); (try rw [aC124 hs _ hi.1 (by omega)]); (try rw [bnd_s]); (try rw [htk]); (try rw [if_pos h]); (try rw [r1]); (try rw [bnd_s]); (try rw [tV_m]); (try rw [bnd_s]); (try rw [r2]); (try rw [rv_0 hr]); (try rw [bnd_s]); (try rw [tI_m]); (try rw [bnd_s]); (try rw [if_pos rfl]); (try rw [andL_e h hr]); (try rw [rv_0 hr])
        · rw [andL_e h hr] at z; exact absurd z hr
        · rw [andL_e h hr]; exact t2 hr
    · refine ⟨c, ?_, by rw [andL_n h]; exact KR_ok hk⟩
      (try rw [c76_8]); (try rw [if_pos (by omega)]); (try rw [fC122 hs _ (by decide)]); (try rw [bnd_s]); (try rw [hE.1.1]); (try rw [fC122 hs _ (by decide)]); (try rw [bnd_s]); (try rw [hk.1]); (try rw [aC124 hs _ hi.1 (by omega)]); (try rw [bnd_s]); (try rw [htk]); (try rw [if_neg h]); (try rw [c76_33]); (try rw [andL_n h]); (try rfl)
theorem k76 (D : Nat) {s : List (Nat × Nat)} {tk nv st : Int → Int} {K : Int} (hs : SpL s) (hz : tk K = 0) (hW : WQ K (cmpP tk nv 8)) (H : KQ s tk nv st K D 77 [vI 0] (cmpP tk nv 8)) : KQ s tk nv st K (D + 1) 76 [] (andP tk nv) := fun d c i X hE hk => by
  show ∃ c', Cd (d + D + 1 + 1) 76 (vA 122 :: []) (s, c) = some ([vI (rv (andP tk nv i))], (s, c')) ∧ KR st K c c' X (andP tk nv i)
  obtain ⟨c2, r2, f2, s2, t2⟩ := H d c i X hE hk
  have E2 := EV_of hE f2
  by_cases hr : (cmpP tk nv 8 i).1 = 0
  · obtain ⟨c4, r4, f4, s4, t4⟩ := k76_l d D hs hz hW H 300 0 (by omega) (by omega) c2 _ _ E2 (s2 hr)
    unfold andP
    rw [pBd_s hr]
    refine ⟨c4, ?_, f2.tr f4, fun z => ?_, fun z => t4 z⟩
    · (try rw [c76 (hg := gC122 hs c)]); (try rw [r2]); (try rw [rv_1 hr]); (try rw [bnd_s]); (try rw [tI_m]); (try rw [bnd_s]); (try rw [if_neg (show ¬ (1 : Int) = 0 by decide)]); (try rw [r4]); (try rfl)
    · have q := s4 z
      simp only [List.append_assoc] at q ⊢
      exact q
  · unfold andP
    rw [pBd_er hr]
    refine ⟨c2, ?_, f2, fun z => absurd z hr, t2⟩
    (try rw [c76 (hg := gC122 hs c)]); (try rw [r2]); (try rw [rv_0 hr]); (try rw [bnd_s]); (try rw [tI_m]); (try rw [bnd_s]); (try rw [if_pos rfl])
theorem k75_l (d D : Nat) {s : List (Nat × Nat)} {tk nv st : Int → Int} {K : Int} (hs : SpL s) (hz : tk K = 0) (hW : WQ K (andP tk nv)) (H : KQ s tk nv st K D 76 [] (andP tk nv)) : ∀ (f : Nat) (v : Int), 0 ≤ v → v + (f : Int) = 300 → ∀ (c : Nat → Nat → Int) (i : Int) (X : List (Int × Int)), EV tk nv st K c → KS K c i X → ∃ c', Rr (Cd (d + D + 1)) 75 7 [some (vA 122), some (vI v)] [] (s, c) = some ([vI (rv (orL tk nv f i))], (s, c')) ∧ KR st K c c' X (orL tk nv f i) := by
  intro f
  induction f with
  | zero =>
    intro v v0 hv c i X hE hk
    refine ⟨c, ?_, KR_ok hk⟩
    rw [c75_7, if_neg (by omega), c75_31]; rfl
  | succ f ih =>
    intro v v0 hv c i X hE hk
    have hi := hk.2.1
    have hK := hE.2.2.1
    have htk := tkr hE hk
    have hXl := hk.2.2.2.1
    by_cases h : tk i = 9
    · obtain ⟨c1, r1, f1, s1⟩ := k71 (d + D) hs hE hk (by rw [h]; decide)
      have E1 := EV_of hE f1
      obtain ⟨c2, r2, f2, s2, t2⟩ := H d c1 (i + 1) X E1 s1
      have w := hW (i + 1) (by omega) s1.2.1.2
      by_cases hr : (andP tk nv (i + 1)).1 = 0
      · have s2 := s2 hr
        have E2 := EV_of E1 f2
        have w3 := w.2.1 hr
        obtain ⟨c3, r3, f3, s3⟩ := k26 (d + D) hs E2 s2 (22, 0) (a := 9) (b := 0) (by rw [List.length_append]; omega) rfl (fun g => rfl)
        have E3 := EV_of E2 f3
        obtain ⟨c4, r4, f4, s4, t4⟩ := ih (v + 1) (by omega) (by omega) c3 _ _ E3 s3
        refine ⟨c4, ?_, ((f1.tr f2).tr f3).tr f4, fun z => ?_, fun z => ?_⟩
        · (try rw [c75_7]); (try rw [if_pos (by omega)]); (try rw [fC122 hs _ (by decide)]); (try rw [bnd_s]); (try rw [hE.1.1]); (try rw [fC122 hs _ (by decide)]); (try rw [bnd_s]); (try rw [hk.1]); (try rw [aC124 hs _ hi.1 (by omega)]); (try rw [bnd_s]); (try rw [htk]); (try rw [if_pos h]); (try rw [r1]); (try rw [bnd_s]); (try rw [tV_m]); (try rw [bnd_s]); (try rw [r2]); (try rw [rv_1 hr]); (try rw [bnd_s]); (try rw [tI_m]); (try rw [bnd_s]); (try rw [if_neg (show ¬ (1 : Int) = 0 by decide)]); (try rw [fC122 hs _ (by decide)]); (try rw [bnd_s]); (try rw [E2.1.2.2.2.1]); (try rw [r3]); (try rw [bnd_s]); (try rw [tV_m]); (try rw [bnd_s]); (try rw [w32_id (by omega) (by omega)]); (try rw [r4]); (try rw [orL_s h hr]); (try rfl)
        · rw [orL_s h hr] at z ⊢
          have q := s4 z
          simp only [List.append_assoc] at q ⊢
          exact q
        · rw [orL_s h hr] at z ⊢
          exact t4 z
      · refine ⟨c2, ?_, f1.tr f2, fun z => ?_, fun z => ?_⟩
        · (try rw [c75_7]); (try rw [if_pos (by omega)]); (try rw [fC122 hs _ (by decide)]); (try rw [bnd_s]); (try rw [hE.1.1]); (try rw [fC122 hs _ (by decide)]); (try rw [bnd_s]); (try rw [hk.1]); (try rw [aC124 hs _ hi.1 (by omega)]); (try rw [bnd_s]); (try rw [htk]); (try rw [if_pos h]); (try rw [r1]); (try rw [bnd_s]); (try rw [tV_m]); (try rw [bnd_s]); (try rw [r2]); (try rw [rv_0 hr]); (try rw [bnd_s]); (try rw [tI_m]); (try rw [bnd_s]); (try rw [if_pos rfl]); (try rw [orL_e h hr]); (try rw [rv_0 hr])
        · rw [orL_e h hr] at z; exact absurd z hr
        · rw [orL_e h hr]; exact t2 hr
    · refine ⟨c, ?_, by rw [orL_n h]; exact KR_ok hk⟩
      (try rw [c75_7]); (try rw [if_pos (by omega)]); (try rw [fC122 hs _ (by decide)]); (try rw [bnd_s]); (try rw [hE.1.1]); (try rw [fC122 hs _ (by decide)]); (try rw [bnd_s]); (try rw [hk.1]); (try rw [aC124 hs _ hi.1 (by omega)]); (try rw [bnd_s]); (try rw [htk]); (try rw [if_neg h]); (try rw [c75_31]); (try rw [orL_n h]); (try rfl)
theorem k75 (D : Nat) {s : List (Nat × Nat)} {tk nv st : Int → Int} {K : Int} (hs : SpL s) (hz : tk K = 0) (hW : WQ K (andP tk nv)) (H : KQ s tk nv st K D 76 [] (andP tk nv)) : KQ s tk nv st K (D + 1) 75 [] (orP tk nv) := fun d c i X hE hk => by
  show ∃ c', Cd (d + D + 1 + 1) 75 (vA 122 :: []) (s, c) = some ([vI (rv (orP tk nv i))], (s, c')) ∧ KR st K c c' X (orP tk nv i)
  obtain ⟨c2, r2, f2, s2, t2⟩ := H d c i X hE hk
  have E2 := EV_of hE f2
  by_cases hr : (andP tk nv i).1 = 0
  · obtain ⟨c4, r4, f4, s4, t4⟩ := k75_l d D hs hz hW H 300 0 (by omega) (by omega) c2 _ _ E2 (s2 hr)
    unfold orP
    rw [pBd_s hr]
    refine ⟨c4, ?_, f2.tr f4, fun z => ?_, fun z => t4 z⟩
    · (try rw [c75 (hg := gC122 hs c)]); (try rw [r2]); (try rw [rv_1 hr]); (try rw [bnd_s]); (try rw [tI_m]); (try rw [bnd_s]); (try rw [if_neg (show ¬ (1 : Int) = 0 by decide)]); (try rw [r4]); (try rfl)
    · have q := s4 z
      simp only [List.append_assoc] at q ⊢
      exact q
  · unfold orP
    rw [pBd_er hr]
    refine ⟨c2, ?_, f2, fun z => absurd z hr, t2⟩
    (try rw [c75 (hg := gC122 hs c)]); (try rw [r2]); (try rw [rv_0 hr]); (try rw [bnd_s]); (try rw [tI_m]); (try rw [bnd_s]); (try rw [if_pos rfl])
theorem cl30 (d : Nat) (x : Int) (hp : HP) : Cd (d + 1) 30 [vI x] hp = some ([vI (b2i (decide (x = 3 ∨ x = 97 ∨ x = 98 ∨ x = 120 ∨ x = 121)))], hp) := by
  have a1 : ∀ o0, Rr (Cd d) 30 15 [o0] [] hp = some ([vI 1], hp) := fun o0 => by rw [c30_15, c30_18, if_pos (by decide)]
  have a0 : ∀ o0, Rr (Cd d) 30 18 [o0] [vI 0] hp = some ([vI 0], hp) := fun o0 => by rw [c30_18, if_pos (by decide)]
  rw [c30, a1, a0]
  by_cases g1 : x = 3
  · rw [if_pos g1, decide_eq_true (by omega)]; rfl
  · rw [if_neg g1]
    by_cases g2 : x = 97
    · rw [if_pos g2, decide_eq_true (by omega)]; rfl
    · rw [if_neg g2]
      by_cases g3 : x = 98
      · rw [if_pos g3, decide_eq_true (by omega)]; rfl
      · rw [if_neg g3]
        by_cases g4 : x = 120
        · rw [if_pos g4, decide_eq_true (by omega)]; rfl
        · rw [if_neg g4]
          by_cases g5 : x = 121
          · rw [if_pos g5, decide_eq_true (by omega)]; rfl
          · rw [if_neg g5, decide_eq_false (by omega)]; rfl
theorem cmpO_n {x : Int} : cmpO x < 0 ↔ ¬ (x = 60 ∨ x = 4 ∨ x = 62 ∨ x = 5 ∨ x = 61 ∨ x = 35) := by
  unfold cmpO
  repeat (split; · omega)
  omega
theorem cmpO_r {x : Int} (h : ¬ cmpO x < 0) : x = rnC (cmpO x, 0) := by
  have : x = 60 ∨ x = 4 ∨ x = 62 ∨ x = 5 ∨ x = 61 ∨ x = 35 := Classical.byContradiction fun w => h (cmpO_n.mpr w)
  rcases this with e | e | e | e | e | e <;> subst e <;> rfl
theorem cl24 (d : Nat) (x : Int) (hp : HP) : Cd (d + 1) 24 [vI x] hp = some ([vI (b2i (decide (¬ cmpO x < 0)))], hp) := by
  have a1 : ∀ o0, Rr (Cd d) 24 18 [o0] [] hp = some ([vI 1], hp) := fun o0 => by rw [c24_18, c24_21, if_pos (by decide)]
  have a0 : ∀ o0, Rr (Cd d) 24 21 [o0] [vI 0] hp = some ([vI 0], hp) := fun o0 => by rw [c24_21, if_pos (by decide)]
  have key : ∀ b : Bool, b = decide (¬ cmpO x < 0) → some ([vI (b2i b)], hp) = some ([vI (b2i (decide (¬ cmpO x < 0)))], hp) := fun b hb => by rw [hb]
  have kt : (x = 60 ∨ x = 4 ∨ x = 62 ∨ x = 5 ∨ x = 61 ∨ x = 35) → (true = decide (¬ cmpO x < 0)) := fun h => (decide_eq_true (p := ¬ cmpO x < 0) (fun w => cmpO_n.mp w h)).symm
  rw [c24, a1, a0]
  by_cases g1 : x = 60
  · rw [if_pos g1]; exact key true (kt (by omega))
  · rw [if_neg g1]
    by_cases g2 : x = 4
    · rw [if_pos g2]; exact key true (kt (by omega))
    · rw [if_neg g2]
      by_cases g3 : x = 62
      · rw [if_pos g3]; exact key true (kt (by omega))
      · rw [if_neg g3]
        by_cases g4 : x = 5
        · rw [if_pos g4]; exact key true (kt (by omega))
        · rw [if_neg g4]
          by_cases g5 : x = 61
          · rw [if_pos g5]; exact key true (kt (by omega))
          · rw [if_neg g5]
            by_cases g6 : x = 35
            · rw [if_pos g6]; exact key true (kt (by omega))
            · rw [if_neg g6]; exact key false (decide_eq_false (p := ¬ cmpO x < 0) (fun w => w (cmpO_n.mpr (by omega)))).symm
