/-! the class runs what judge says -/
theorem k33 (d : Nat) (v : Int) (hp : HP) : Cd (d + 2) 33 [vL v] hp = some ([vL (farV v)], hp) := by
  (try rw [c33]); (try rw [j289]); (try rw [bnd_s]); (try rw [tL_m]); (try rw [bnd_s]); (try rw [j287]); (try rw [bnd_s]); (try rw [tL_m]); (try rw [bnd_s])
  have e : (if -1000000000 < (if v < 1000000000 then v else 1000000000) then (if v < 1000000000 then v else 1000000000) else -1000000000) = farV v := by
    unfold farV
    by_cases g : 1000000000 < v
    · rw [if_pos g, if_neg (show ¬ v < 1000000000 by omega), if_pos (show (-1000000000 : Int) < 1000000000 by decide)]
    · rw [if_neg g]
      by_cases g2 : v < 1000000000
      · rw [if_pos g2]
        by_cases g3 : v < -1000000000
        · rw [if_pos g3, if_neg (by omega)]
        · rw [if_neg g3]
          by_cases g4 : -1000000000 < v
          · rw [if_pos g4]
          · rw [if_neg g4]; omega
      · rw [if_neg g2, if_pos (show (-1000000000 : Int) < 1000000000 by decide), if_neg (show ¬ v < -1000000000 by omega)]; omega
  rw [← e]
theorem k159_1 (d : Nat) (hp : HP) : Cd (d + 1) 159 [vI 1] hp = some ([vI 1], hp) := k159 d true hp
theorem k159_0 (d : Nat) (hp : HP) : Cd (d + 1) 159 [vI 0] hp = some ([vI 0], hp) := k159 d false hp
theorem k32_a (d : Nat) {o x y : Int} (ho : o = 3 ∨ o = 4 ∨ o = 5) (hx : bdd x) (hy : bdd y) (hp : HP) : Cd (d + 3) 32 [vI (rnC (o, 0)), vL x, vL y] hp = some ([vL (twoV o x y)], hp) := by
  unfold bdd at hx hy
  have b := mul_b9 hx.1 hx.2 hy.1 hy.2
  rcases ho with e | e | e
  · subst e
    (try rw [show rnC (3, 0) = 43 from rfl]); (try rw [c32]); (try rw [if_neg (by decide)]); (try rw [if_neg (by decide)]); (try rw [if_neg (by decide)]); (try rw [if_neg (by decide)]); (try rw [if_neg (by decide)]); (try rw [if_pos rfl]); (try rw [k33]); (try rw [bnd_s]); (try rw [tL_m]); (try rw [bnd_s]); (try rw [w64_id (by omega) (by omega)]); (try rfl)
  · subst e
    (try rw [show rnC (4, 0) = 45 from rfl]); (try rw [c32]); (try rw [if_neg (by decide)]); (try rw [if_neg (by decide)]); (try rw [if_neg (by decide)]); (try rw [if_neg (by decide)]); (try rw [if_neg (by decide)]); (try rw [if_neg (by decide)]); (try rw [if_pos rfl]); (try rw [k33]); (try rw [bnd_s]); (try rw [tL_m]); (try rw [bnd_s]); (try rw [w64_id (by omega) (by omega)]); (try rfl)
  · subst e
    (try rw [show rnC (5, 0) = 42 from rfl]); (try rw [c32]); (try rw [if_neg (by decide)]); (try rw [if_neg (by decide)]); (try rw [if_neg (by decide)]); (try rw [if_neg (by decide)]); (try rw [if_pos rfl]); (try rw [k33]); (try rw [bnd_s]); (try rw [tL_m]); (try rw [bnd_s]); (try rw [w64_id (by omega) (by omega)]); (try rfl)
theorem k32_c (d : Nat) {o x y : Int} (h1 : 10 ≤ o) (h2 : o ≤ 15) (hp : HP) : Cd (d + 3) 32 [vI (rnC (o, 0)), vL x, vL y] hp = some ([vL (b2i (soV o x y))], hp) := by
  have z : ∀ (L : Nat) (v : Int) (fr : List (Option AV)), (Rr (Cd (d + 2)) 32 L fr [vI v] hp = ((Cd (d + 2) 159 [vI v] hp).bind toI).bind fun q1 => some ([vL q1.1], q1.2)) → (v = 0 ∨ v = 1) → Rr (Cd (d + 2)) 32 L fr [vI v] hp = some ([vL v], hp) := fun L v fr h hv => by
    rw [h]
    rcases hv with e | e
    · subst e; (try rw [k159_0 (d + 1)]); (try rw [bnd_s]); (try rw [tI_m]); (try rw [bnd_s])
    · subst e; (try rw [k159_1 (d + 1)]); (try rw [bnd_s]); (try rw [tI_m]); (try rw [bnd_s])
  have hc : o = 10 ∨ o = 11 ∨ o = 12 ∨ o = 13 ∨ o = 14 ∨ o = 15 := by omega
  rcases hc with e | e | e | e | e | e
  · subst e
    rw [show rnC (10, 0) = 60 from rfl, show soV 10 x y = decide (x < y) from rfl, c32, if_neg (by decide), if_neg (by decide), if_neg (by decide), if_neg (by decide), if_neg (by decide), if_neg (by decide), if_neg (by decide), if_pos rfl]
    by_cases g : x < y
    · rw [if_pos ((lcmp_lt _ _).mpr g), decide_eq_true g]; exact z 24 1 _ (c32_24 ..) (Or.inr rfl)
    · rw [if_neg (fun w => g ((lcmp_lt _ _).mp w)), decide_eq_false g]; exact z 24 0 _ (c32_24 ..) (Or.inl rfl)
  · subst e
    rw [show rnC (11, 0) = 4 from rfl, show soV 11 x y = decide (x ≤ y) from rfl, c32, if_pos rfl]
    by_cases g : y < x
    · rw [if_pos ((lcmp_gt _ _).mpr g), decide_eq_false (by omega)]; exact z 34 0 _ (c32_34 ..) (Or.inl rfl)
    · rw [if_neg (fun w => g ((lcmp_gt _ _).mp w)), decide_eq_true (by omega)]; exact z 34 1 _ (c32_34 ..) (Or.inr rfl)
  · subst e
    rw [show rnC (12, 0) = 62 from rfl, show soV 12 x y = decide (y < x) from rfl, c32, if_neg (by decide), if_neg (by decide), if_neg (by decide), if_neg (by decide), if_neg (by decide), if_neg (by decide), if_neg (by decide), if_neg (by decide), if_neg (by decide), if_pos rfl]
    by_cases g : y < x
    · rw [if_pos ((lcmp_gt _ _).mpr g), decide_eq_true g]; exact z 44 1 _ (c32_44 ..) (Or.inr rfl)
    · rw [if_neg (fun w => g ((lcmp_gt _ _).mp w)), decide_eq_false g]; exact z 44 0 _ (c32_44 ..) (Or.inl rfl)
  · subst e
    rw [show rnC (13, 0) = 5 from rfl, show soV 13 x y = decide (y ≤ x) from rfl, c32, if_neg (by decide), if_pos rfl]
    by_cases g : x < y
    · rw [if_pos ((lcmp_lt _ _).mpr g), decide_eq_false (by omega)]; exact z 54 0 _ (c32_54 ..) (Or.inl rfl)
    · rw [if_neg (fun w => g ((lcmp_lt _ _).mp w)), decide_eq_true (by omega)]; exact z 54 1 _ (c32_54 ..) (Or.inr rfl)
  · subst e
    rw [show rnC (14, 0) = 61 from rfl, show soV 14 x y = decide (x = y) from rfl, c32, if_neg (by decide), if_neg (by decide), if_neg (by decide), if_neg (by decide), if_neg (by decide), if_neg (by decide), if_neg (by decide), if_neg (by decide), if_pos rfl]
    by_cases g : x = y
    · rw [if_pos ((lcmp_eq _ _).mpr g), decide_eq_true g]; exact z 64 1 _ (c32_64 ..) (Or.inr rfl)
    · rw [if_neg (fun w => g ((lcmp_eq _ _).mp w)), decide_eq_false g]; exact z 64 0 _ (c32_64 ..) (Or.inl rfl)
  · subst e
    rw [show rnC (15, 0) = 35 from rfl, show soV 15 x y = decide (x ≠ y) from rfl, c32, if_neg (by decide), if_neg (by decide), if_neg (by decide), if_pos rfl]
    by_cases g : x = y
    · rw [if_pos ((lcmp_eq _ _).mpr g), decide_eq_false (fun w => w g)]; exact z 74 0 _ (c32_74 ..) (Or.inl rfl)
    · rw [if_neg (fun w => g ((lcmp_eq _ _).mp w)), decide_eq_true g]; exact z 74 1 _ (c32_74 ..) (Or.inr rfl)
theorem k32_b (d : Nat) {o t u : Int} (ho : o = 21 ∨ o = 22) (ht : t = 0 ∨ t = 1) (hu : u = 0 ∨ u = 1) (hp : HP) : Cd (d + 3) 32 [vI (rnC (o, 0)), vL t, vL u] hp = some ([vL (if o = 21 then b2i (decide (t ≠ 0) && decide (u ≠ 0)) else b2i (decide (t ≠ 0) || decide (u ≠ 0)))], hp) := by
  rcases ho with e | e
  · subst e
    rw [show rnC (21, 0) = 8 from rfl, c32, if_neg (by decide), if_neg (by decide), if_pos rfl, if_pos rfl]
    rcases ht with e | e <;> rcases hu with e2 | e2 <;> subst e <;> subst e2
    · rw [show lland 0 0 = b2i (decide ((0 : Int) ≠ 0) && decide ((0 : Int) ≠ 0)) by decide +kernel]
    · rw [show lland 0 1 = b2i (decide ((0 : Int) ≠ 0) && decide ((1 : Int) ≠ 0)) by decide +kernel]
    · rw [show lland 1 0 = b2i (decide ((1 : Int) ≠ 0) && decide ((0 : Int) ≠ 0)) by decide +kernel]
    · rw [show lland 1 1 = b2i (decide ((1 : Int) ≠ 0) && decide ((1 : Int) ≠ 0)) by decide +kernel]
  · subst e
    rw [show rnC (22, 0) = 9 from rfl, c32, if_neg (by decide), if_neg (by decide), if_neg (by decide), if_neg (by decide), if_neg (by decide), if_neg (by decide), if_neg (by decide), if_neg (by decide), if_neg (by decide), if_neg (by decide), if_neg (show ¬ (22 : Int) = 21 by decide)]
    rcases ht with e | e <;> rcases hu with e2 | e2 <;> subst e <;> subst e2
    · rw [show llor 0 0 = b2i (decide ((0 : Int) ≠ 0) || decide ((0 : Int) ≠ 0)) by decide +kernel]
    · rw [show llor 0 1 = b2i (decide ((0 : Int) ≠ 0) || decide ((1 : Int) ≠ 0)) by decide +kernel]
    · rw [show llor 1 0 = b2i (decide ((1 : Int) ≠ 0) || decide ((0 : Int) ≠ 0)) by decide +kernel]
    · rw [show llor 1 1 = b2i (decide ((1 : Int) ≠ 0) || decide ((1 : Int) ≠ 0)) by decide +kernel]
/-- the class's pile of numbers -/
def Sk (c : Nat → Nat → Int) : List Int → Prop
  | [] => True
  | b :: r => c 130 r.length = b ∧ Sk c r
theorem Sk_of {c c' : Nat → Nat → Int} : ∀ (B : List Int), Sk c B → (∀ j, j < B.length → c' 130 j = c 130 j) → Sk c' B
  | [], _, _ => trivial
  | b :: r, h, e => ⟨(e _ (by simp)).trans h.1, Sk_of r h.2 (fun j hj => e j (by simp; omega))⟩
def FJ (c c' : Nat → Nat → Int) : Prop := ∀ o k, o ≠ 130 → c' o k = c o k
def JE (c : Nat → Nat → Int) (X : List (Int × Int)) (nm : Int → Int) : Prop := (c 127 0 = 128 ∧ c 127 1 = 129 ∧ c 127 2 = 130) ∧ c 127 3 = (X.length : Int) ∧ X.length ≤ 300 ∧ StC c X ∧ (c 127 4 = nm 0 ∧ c 127 5 = nm 1 ∧ c 127 6 = nm 2 ∧ c 127 7 = nm 3)
theorem JE_of {c c' : Nat → Nat → Int} {X : List (Int × Int)} {nm : Int → Int} (f : FJ c c') (h : JE c X nm) : JE c' X nm := by
  obtain ⟨⟨h1, h2, h3⟩, h4, h5, h6, h7, h8, h9, h10⟩ := h
  refine ⟨⟨?_, ?_, ?_⟩, ?_, h5, fun j q hq => ?_, ?_, ?_, ?_, ?_⟩
  case refine_5 => rw [f 128 j (by decide), f 129 j (by decide)]; exact h6 j q hq
  all_goals (rw [f _ _ (by decide)]; assumption)
section
variable {s : List (Nat × Nat)} {c : Nat → Nat → Int} {X : List (Int × Int)} {nm : Int → Int}
theorem k29_s (d : Nat) (hs : SpL s) (hb : ∀ v, bdd (nm v)) (hJ : JE c X nm) {j : Nat} {q : Int × Int} (hq : X[j]? = some q) (hok : okOp q = true) {st : List Int} (hst : Sk c st) (hl : st.length ≤ j) (hT : okT q.1 st) (o3 : Option AV) : ∃ c' o3', Rr (Cd (d + 3)) 29 4 [some (vA 127), some (vI (st.length : Int)), some (vI (j : Int)), o3] [] (s, c) = Rr (Cd (d + 3)) 29 4 [some (vA 127), some (vI ((stepC nm q.1 q.2 st).length : Int)), some (vI ((j + 1 : Nat) : Int)), o3'] [] (s, c') ∧ FJ c c' ∧ Sk c' (stepC nm q.1 q.2 st) ∧ (stepC nm q.1 q.2 st).length ≤ j + 1 := by
  have hjX : j < X.length := (List.getElem?_eq_some_iff.mp hq).1
  have h3 := hJ.2.2.1
  have hS := hJ.2.2.2.1 j q hq
  have fJ : ∀ (k : Nat) (v : Int), FJ c (u2 c 130 k v) := fun k v o k' ho => u2_n (by omega)
  have e88 : ∀ (a : Nat) (o3 : Option AV) (c' : Nat → Nat → Int), Rr (Cd (d + 3)) 29 88 [some (vA 127), some (vI (a : Int)), some (vI (j : Int)), o3] [] (s, c') = Rr (Cd (d + 3)) 29 4 [some (vA 127), some (vI (a : Int)), some (vI ((j + 1 : Nat) : Int)), o3] [] (s, c') := fun a o3 c' => by
    rw [c29_88, w32_id (by omega) (by omega)]; rfl
  have beg : ∀ R, (if rnC q = 6 then Rr (Cd (d + 3)) 29 19 [some (vA 127), some (vI (st.length : Int)), some (vI (j : Int)), some (vI (rnC q))] [] (s, c) else if rnC q = 7 then Rr (Cd (d + 3)) 29 19 [some (vA 127), some (vI (st.length : Int)), some (vI (j : Int)), some (vI (rnC q))] [] (s, c) else ((Cd (d + 3) 30 [vI (rnC q)] (s, c)).bind toI).bind fun q6 => (if q6.1 = 0 then (if 1 < (st.length : Int) then (gF q6.2 2 2 127).bind fun x7 => (gF q6.2 2 2 127).bind fun x8 => (gA q6.2 1 x8 (w32 (w32 ((st.length : Int) + (-1)) - 1))).bind fun x9 => (gF q6.2 2 2 127).bind fun x10 => (gA q6.2 1 x10 (w32 ((st.length : Int) + (-1)))).bind fun x11 => ((Cd (d + 3) 32 [vI (rnC q), vL x9, vL x11] q6.2).bind toL).bind fun q12 => (pA q12.2 1 x7 (w32 (w32 ((st.length : Int) + (-1)) - 1)) q12.1).bind fun h13 => Rr (Cd (d + 3)) 29 88 [some (vA 127), some (vI (w32 ((st.length : Int) + (-1)))), some (vI (j : Int)), some (vI (rnC q))] [] h13 else Rr (Cd (d + 3)) 29 88 [some (vA 127), some (vI (st.length : Int)), some (vI (j : Int)), some (vI (rnC q))] [] q6.2) else (if (st.length : Int) < 300 then (gF q6.2 2 2 127).bind fun x14 => (gF q6.2 2 1 127).bind fun x15 => (gA q6.2 0 x15 (j : Int)).bind fun x16 => ((Cd (d + 3) 31 [vA 127, vI (rnC q), vI x16] q6.2).bind toL).bind fun q17 => (pA q17.2 1 x14 (st.length : Int) q17.1).bind fun h18 => Rr (Cd (d + 3)) 29 88 [some (vA 127), some (vI (w32 ((st.length : Int) + 1))), some (vI (j : Int)), some (vI (rnC q))] [] h18 else Rr (Cd (d + 3)) 29 88 [some (vA 127), some (vI (st.length : Int)), some (vI (j : Int)), some (vI (rnC q))] [] q6.2))) = R → Rr (Cd (d + 3)) 29 4 [some (vA 127), some (vI (st.length : Int)), some (vI (j : Int)), o3] [] (s, c) = R := fun R hR => by
    (try rw [c29_4]); (try rw [fC127 hs _ (by decide)]); (try rw [bnd_s]); (try rw [hJ.2.1]); (try rw [if_pos (show (j : Int) < (X.length : Int) by omega)]); (try rw [fC127 hs _ (by decide)]); (try rw [bnd_s]); (try rw [hJ.1.1]); (try rw [aC128 hs _ (show (0 : Int) ≤ (j : Int) by omega) (by omega)]); (try rw [bnd_s]); (try rw [Int.toNat_natCast]); (try rw [hS.1])
    exact hR
  -- a value is laid on
  have val : ∀ x : Int, ¬ rnC q = 6 → ¬ rnC q = 7 → (rnC q = 3 ∨ rnC q = 97 ∨ rnC q = 98 ∨ rnC q = 120 ∨ rnC q = 121) → (Cd (d + 3) 31 [vA 127, vI (rnC q), vI (c 129 j)] (s, c) = some ([vL x], (s, c))) → stepC nm q.1 q.2 st = x :: st → ∃ c' o3', Rr (Cd (d + 3)) 29 4 [some (vA 127), some (vI (st.length : Int)), some (vI (j : Int)), o3] [] (s, c) = Rr (Cd (d + 3)) 29 4 [some (vA 127), some (vI ((stepC nm q.1 q.2 st).length : Int)), some (vI ((j + 1 : Nat) : Int)), o3'] [] (s, c') ∧ FJ c c' ∧ Sk c' (stepC nm q.1 q.2 st) ∧ (stepC nm q.1 q.2 st).length ≤ j + 1 := by
    intro x n6 n7 hv r31 e
    rw [e]
    refine ⟨u2 c 130 st.length x, some (vI (rnC q)), beg _ ?_, fJ _ _, ⟨u2_e _ _ _ _, Sk_of st hst (fun i hi => u2_n (by omega))⟩, by simp only [List.length_cons]; omega⟩
    have ew : w32 ((st.length : Int) + 1) = (((x :: st).length : Nat) : Int) := by rw [w32_id (by omega) (by omega)]; simp
    (try rw [if_neg n6]); (try rw [if_neg n7]); (try rw [cl30 (d + 2)]); (try rw [bnd_s]); (try rw [tI_m]); (try rw [bnd_s]); (try rw [decide_eq_true hv]); (try rw [if_neg (show ¬ b2i true = 0 by decide)]); (try rw [if_pos (show (st.length : Int) < 300 by omega)]); (try rw [fC127 hs _ (by decide)]); (try rw [bnd_s]); (try rw [hJ.1.2.2]); (try rw [fC127 hs _ (by decide)]); (try rw [bnd_s]); (try rw [hJ.1.2.1]); (try rw [aC129 hs _ (show (0 : Int) ≤ (j : Int) by omega) (by omega)]); (try rw [bnd_s]); (try rw [Int.toNat_natCast]); (try rw [r31]); (try rw [bnd_s]); (try rw [tL_m]); (try rw [bnd_s]); (try rw [qC130 hs _ _ (show (0 : Int) ≤ (st.length : Int) by omega) (by omega)]); (try rw [bnd_s]); (try rw [Int.toNat_natCast]); (try rw [ew]); (try rw [e88])
  -- one number is changed
  have one : ∀ (a x : Int) (r : List Int), st = a :: r → (rnC q = 6 ∧ x = -a ∨ rnC q = 7 ∧ x = 1 - a) → bdd a → stepC nm q.1 q.2 st = x :: r → ∃ c' o3', Rr (Cd (d + 3)) 29 4 [some (vA 127), some (vI (st.length : Int)), some (vI (j : Int)), o3] [] (s, c) = Rr (Cd (d + 3)) 29 4 [some (vA 127), some (vI ((stepC nm q.1 q.2 st).length : Int)), some (vI ((j + 1 : Nat) : Int)), o3'] [] (s, c') ∧ FJ c c' ∧ Sk c' (stepC nm q.1 q.2 st) ∧ (stepC nm q.1 q.2 st).length ≤ j + 1 := by
    intro a x r hsr hx ha e
    have hl1 : st.length = r.length + 1 := by rw [hsr]; rfl
    have h1 : c 130 r.length = a := by rw [hsr] at hst; exact hst.1
    have h2 : Sk c r := by rw [hsr] at hst; exact hst.2
    unfold bdd at ha
    have ex : ((x :: r).length : Int) = (st.length : Int) := by rw [hl1]; simp
    have e1 : w32 ((st.length : Int) - 1) = (r.length : Int) := by rw [hl1, w32_id (by omega) (by omega)]; omega
    rw [e]
    refine ⟨u2 c 130 r.length x, some (vI (rnC q)), beg _ ?_, fJ _ _, ⟨u2_e _ _ _ _, Sk_of r h2 (fun i hi => u2_n (by omega))⟩, by simp only [List.length_cons]; omega⟩
    rw [ex]
    have e19 : Rr (Cd (d + 3)) 29 19 [some (vA 127), some (vI (st.length : Int)), some (vI (j : Int)), some (vI (rnC q))] [] (s, c) = Rr (Cd (d + 3)) 29 4 [some (vA 127), some (vI (st.length : Int)), some (vI ((j + 1 : Nat) : Int)), some (vI (rnC q))] [] (s, u2 c 130 r.length x) := by
      (try rw [c29_19]); (try rw [if_pos (show (0 : Int) < (st.length : Int) by omega)]); (try rw [fC127 hs _ (by decide)]); (try rw [bnd_s]); (try rw [hJ.1.2.2]); (try rw [e1])
      rcases hx with ⟨g, ex⟩ | ⟨g, ex⟩
      · (try rw [if_pos g]); (try rw [bnd_s]); (try rw [aC130 hs _ (show (0 : Int) ≤ (r.length : Int) by omega) (by omega)]); (try rw [bnd_s]); (try rw [Int.toNat_natCast]); (try rw [h1]); (try rw [w64_id (z := -a) (by omega) (by omega)]); (try rw [c29_45]); (try rw [qC130 hs _ _ (show (0 : Int) ≤ (r.length : Int) by omega) (by omega)]); (try rw [bnd_s]); (try rw [Int.toNat_natCast]); (try rw [e88]); (try rw [ex])
      · (try rw [if_neg (show ¬ rnC q = 6 by omega)]); (try rw [bnd_s]); (try rw [aC130 hs _ (show (0 : Int) ≤ (r.length : Int) by omega) (by omega)]); (try rw [bnd_s]); (try rw [Int.toNat_natCast]); (try rw [h1]); (try rw [w64_id (z := 1 - a) (by omega) (by omega)]); (try rw [c29_45]); (try rw [qC130 hs _ _ (show (0 : Int) ≤ (r.length : Int) by omega) (by omega)]); (try rw [bnd_s]); (try rw [Int.toNat_natCast]); (try rw [e88]); (try rw [ex])
    rcases hx with ⟨g, _⟩ | ⟨g, _⟩
    · rw [if_pos g, e19]
    · rw [if_neg (by omega), if_pos g, e19]
  -- two numbers are joined
  have tw : ∀ (y x z : Int) (r : List Int), st = y :: x :: r → ¬ rnC q = 6 → ¬ rnC q = 7 → ¬ (rnC q = 3 ∨ rnC q = 97 ∨ rnC q = 98 ∨ rnC q = 120 ∨ rnC q = 121) → Cd (d + 3) 32 [vI (rnC q), vL x, vL y] (s, c) = some ([vL z], (s, c)) → stepC nm q.1 q.2 st = z :: r → ∃ c' o3', Rr (Cd (d + 3)) 29 4 [some (vA 127), some (vI (st.length : Int)), some (vI (j : Int)), o3] [] (s, c) = Rr (Cd (d + 3)) 29 4 [some (vA 127), some (vI ((stepC nm q.1 q.2 st).length : Int)), some (vI ((j + 1 : Nat) : Int)), o3'] [] (s, c') ∧ FJ c c' ∧ Sk c' (stepC nm q.1 q.2 st) ∧ (stepC nm q.1 q.2 st).length ≤ j + 1 := by
    intro y x z r hsr n6 n7 hv r32 e
    have hl1 : st.length = r.length + 2 := by rw [hsr]; rfl
    have h1 : c 130 (r.length + 1) = y := by rw [hsr] at hst; exact hst.1
    have h2 : c 130 r.length = x := by rw [hsr] at hst; exact hst.2.1
    have h3' : Sk c r := by rw [hsr] at hst; exact hst.2.2
    have e1 : w32 ((st.length : Int) + (-1)) = ((r.length + 1 : Nat) : Int) := by rw [hl1, w32_id (by omega) (by omega)]; omega
    have e2 : w32 (((r.length + 1 : Nat) : Int) - 1) = (r.length : Int) := by rw [w32_id (by omega) (by omega)]; omega
    rw [e]
    refine ⟨u2 c 130 r.length z, some (vI (rnC q)), beg _ ?_, fJ _ _, ⟨u2_e _ _ _ _, Sk_of r h3' (fun i hi => u2_n (by omega))⟩, by simp only [List.length_cons]; omega⟩
    (try rw [if_neg n6]); (try rw [if_neg n7]); (try rw [cl30 (d + 2)]); (try rw [bnd_s]); (try rw [tI_m]); (try rw [bnd_s]); (try rw [decide_eq_false hv]); (try rw [if_pos (show b2i false = 0 from rfl)]); (try rw [if_pos (show (1 : Int) < (st.length : Int) by omega)]); (try rw [e1]); (try rw [e2]); (try rw [fC127 hs _ (by decide)]); (try rw [bnd_s]); (try rw [hJ.1.2.2]); (try rw [bnd_s]); (try rw [aC130 hs _ (show (0 : Int) ≤ (r.length : Int) by omega) (by omega)]); (try rw [bnd_s]); (try rw [Int.toNat_natCast]); (try rw [h2]); (try rw [bnd_s]); (try rw [aC130 hs _ (show (0 : Int) ≤ ((r.length + 1 : Nat) : Int) by omega) (by omega)]); (try rw [bnd_s]); (try rw [Int.toNat_natCast]); (try rw [h1]); (try rw [r32]); (try rw [bnd_s]); (try rw [tL_m]); (try rw [bnd_s]); (try rw [qC130 hs _ _ (show (0 : Int) ≤ (r.length : Int) by omega) (by omega)]); (try rw [bnd_s]); (try rw [Int.toNat_natCast]); (try rw [e88])
    rfl
  obtain ⟨o, v⟩ := q
  have hT : okT o st := hT
  have r31 : ∀ (w : Int), Cd (d + 3) 31 [vA 127, vI 3, vI w] (s, c) = some ([vL w], (s, c)) := fun w => by
    rw [c31 (hg := gC127 hs c), if_neg (by decide), if_neg (by decide), if_neg (by decide), if_neg (by decide)]
  rcases okOp_d hok with ⟨rfl, hv⟩ | ⟨rfl, hv⟩ | rfl | rfl | rfl | rfl | rfl | rfl | rfl | rfl | rfl | rfl | rfl | rfl | rfl
  · refine val v (show ¬ (3 : Int) = 6 by decide) (show ¬ (3 : Int) = 7 by decide) (Or.inl rfl) ?_ rfl
    have : c 129 j = v := hS.2 rfl
    rw [this]; exact r31 v
  · have hv4 : v = 0 ∨ v = 1 ∨ v = 2 ∨ v = 3 := by omega
    have g := hJ.2.2.2.2
    rcases hv4 with e | e | e | e <;> subst e
    · refine val (nm 0) (by decide) (by decide) (by decide) ?_ rfl
      show Cd (d + 3) 31 [vA 127, vI 97, vI (c 129 j)] (s, c) = _
      (try rw [c31 (hg := gC127 hs c)]); (try rw [if_pos rfl]); (try rw [fC127 hs _ (by decide)]); (try rw [bnd_s]); (try rw [g.1])
    · refine val (nm 1) (by decide) (by decide) (by decide) ?_ rfl
      show Cd (d + 3) 31 [vA 127, vI 98, vI (c 129 j)] (s, c) = _
      (try rw [c31 (hg := gC127 hs c)]); (try rw [if_neg (by decide)]); (try rw [if_pos rfl]); (try rw [fC127 hs _ (by decide)]); (try rw [bnd_s]); (try rw [g.2.1])
    · refine val (nm 2) (by decide) (by decide) (by decide) ?_ rfl
      show Cd (d + 3) 31 [vA 127, vI 120, vI (c 129 j)] (s, c) = _
      (try rw [c31 (hg := gC127 hs c)]); (try rw [if_neg (by decide)]); (try rw [if_neg (by decide)]); (try rw [if_pos rfl]); (try rw [fC127 hs _ (by decide)]); (try rw [bnd_s]); (try rw [g.2.2.1])
    · refine val (nm 3) (by decide) (by decide) (by decide) ?_ rfl
      show Cd (d + 3) 31 [vA 127, vI 121, vI (c 129 j)] (s, c) = _
      (try rw [c31 (hg := gC127 hs c)]); (try rw [if_neg (by decide)]); (try rw [if_neg (by decide)]); (try rw [if_neg (by decide)]); (try rw [if_pos rfl]); (try rw [fC127 hs _ (by decide)]); (try rw [bnd_s]); (try rw [g.2.2.2])
  · unfold okT at hT
    rw [if_neg (by decide), if_neg (by decide), if_pos rfl] at hT
    obtain ⟨a, r, e, ha⟩ := hT
    exact one a (-a) r e (Or.inl ⟨rfl, rfl⟩) ha (by rw [e]; rfl)
  · unfold okT at hT
    rw [if_neg (by decide), if_neg (by decide), if_neg (by decide), if_pos (by decide)] at hT
    obtain ⟨y, x, r, e, hx, hy⟩ := hT
    exact tw y x (twoV 3 x y) r e (show ¬ (43 : Int) = 6 by decide) (show ¬ (43 : Int) = 7 by decide) (show ¬ ((43 : Int) = 3 ∨ (43 : Int) = 97 ∨ (43 : Int) = 98 ∨ (43 : Int) = 120 ∨ (43 : Int) = 121) by decide) (k32_a d (o := 3) (by omega) hx hy (s, c)) (by rw [e]; rfl)
  · unfold okT at hT
    rw [if_neg (by decide), if_neg (by decide), if_neg (by decide), if_pos (by decide)] at hT
    obtain ⟨y, x, r, e, hx, hy⟩ := hT
    exact tw y x (twoV 4 x y) r e (show ¬ (45 : Int) = 6 by decide) (show ¬ (45 : Int) = 7 by decide) (show ¬ ((45 : Int) = 3 ∨ (45 : Int) = 97 ∨ (45 : Int) = 98 ∨ (45 : Int) = 120 ∨ (45 : Int) = 121) by decide) (k32_a d (o := 4) (by omega) hx hy (s, c)) (by rw [e]; rfl)
  · unfold okT at hT
    rw [if_neg (by decide), if_neg (by decide), if_neg (by decide), if_pos (by decide)] at hT
    obtain ⟨y, x, r, e, hx, hy⟩ := hT
    exact tw y x (twoV 5 x y) r e (show ¬ (42 : Int) = 6 by decide) (show ¬ (42 : Int) = 7 by decide) (show ¬ ((42 : Int) = 3 ∨ (42 : Int) = 97 ∨ (42 : Int) = 98 ∨ (42 : Int) = 120 ∨ (42 : Int) = 121) by decide) (k32_a d (o := 5) (by omega) hx hy (s, c)) (by rw [e]; rfl)
  · unfold okT at hT
    rw [if_neg (by decide), if_neg (by decide), if_neg (by decide), if_neg (by decide), if_pos (by decide)] at hT
    obtain ⟨y, x, r, e⟩ := hT
    exact tw y x (b2i (soV 10 x y)) r e (show ¬ (60 : Int) = 6 by decide) (show ¬ (60 : Int) = 7 by decide) (show ¬ ((60 : Int) = 3 ∨ (60 : Int) = 97 ∨ (60 : Int) = 98 ∨ (60 : Int) = 120 ∨ (60 : Int) = 121) by decide) (k32_c d (o := 10) (by omega) (by omega) (s, c)) (by rw [e]; rfl)
  · unfold okT at hT
    rw [if_neg (by decide), if_neg (by decide), if_neg (by decide), if_neg (by decide), if_pos (by decide)] at hT
    obtain ⟨y, x, r, e⟩ := hT
    exact tw y x (b2i (soV 11 x y)) r e (show ¬ (4 : Int) = 6 by decide) (show ¬ (4 : Int) = 7 by decide) (show ¬ ((4 : Int) = 3 ∨ (4 : Int) = 97 ∨ (4 : Int) = 98 ∨ (4 : Int) = 120 ∨ (4 : Int) = 121) by decide) (k32_c d (o := 11) (by omega) (by omega) (s, c)) (by rw [e]; rfl)
  · unfold okT at hT
    rw [if_neg (by decide), if_neg (by decide), if_neg (by decide), if_neg (by decide), if_pos (by decide)] at hT
    obtain ⟨y, x, r, e⟩ := hT
    exact tw y x (b2i (soV 12 x y)) r e (show ¬ (62 : Int) = 6 by decide) (show ¬ (62 : Int) = 7 by decide) (show ¬ ((62 : Int) = 3 ∨ (62 : Int) = 97 ∨ (62 : Int) = 98 ∨ (62 : Int) = 120 ∨ (62 : Int) = 121) by decide) (k32_c d (o := 12) (by omega) (by omega) (s, c)) (by rw [e]; rfl)
  · unfold okT at hT
    rw [if_neg (by decide), if_neg (by decide), if_neg (by decide), if_neg (by decide), if_pos (by decide)] at hT
    obtain ⟨y, x, r, e⟩ := hT
    exact tw y x (b2i (soV 13 x y)) r e (show ¬ (5 : Int) = 6 by decide) (show ¬ (5 : Int) = 7 by decide) (show ¬ ((5 : Int) = 3 ∨ (5 : Int) = 97 ∨ (5 : Int) = 98 ∨ (5 : Int) = 120 ∨ (5 : Int) = 121) by decide) (k32_c d (o := 13) (by omega) (by omega) (s, c)) (by rw [e]; rfl)
  · unfold okT at hT
    rw [if_neg (by decide), if_neg (by decide), if_neg (by decide), if_neg (by decide), if_pos (by decide)] at hT
    obtain ⟨y, x, r, e⟩ := hT
    exact tw y x (b2i (soV 14 x y)) r e (show ¬ (61 : Int) = 6 by decide) (show ¬ (61 : Int) = 7 by decide) (show ¬ ((61 : Int) = 3 ∨ (61 : Int) = 97 ∨ (61 : Int) = 98 ∨ (61 : Int) = 120 ∨ (61 : Int) = 121) by decide) (k32_c d (o := 14) (by omega) (by omega) (s, c)) (by rw [e]; rfl)
  · unfold okT at hT
    rw [if_neg (by decide), if_neg (by decide), if_neg (by decide), if_neg (by decide), if_pos (by decide)] at hT
    obtain ⟨y, x, r, e⟩ := hT
    exact tw y x (b2i (soV 15 x y)) r e (show ¬ (35 : Int) = 6 by decide) (show ¬ (35 : Int) = 7 by decide) (show ¬ ((35 : Int) = 3 ∨ (35 : Int) = 97 ∨ (35 : Int) = 98 ∨ (35 : Int) = 120 ∨ (35 : Int) = 121) by decide) (k32_c d (o := 15) (by omega) (by omega) (s, c)) (by rw [e]; rfl)
  · unfold okT at hT
    rw [if_neg (by decide), if_neg (by decide), if_neg (by decide), if_neg (by decide), if_neg (by decide), if_pos rfl] at hT
    obtain ⟨a, r, e, ha⟩ := hT
    exact one a (1 - a) r e (Or.inr ⟨rfl, rfl⟩) (by unfold bdd; omega) (by rw [e]; rfl)
  · unfold okT at hT
    rw [if_neg (by decide), if_neg (by decide), if_neg (by decide), if_neg (by decide), if_neg (by decide), if_neg (by decide)] at hT
    obtain ⟨u, w, r, e, hu, hw⟩ := hT
    exact tw u w _ r e (show ¬ (8 : Int) = 6 by decide) (show ¬ (8 : Int) = 7 by decide) (show ¬ ((8 : Int) = 3 ∨ (8 : Int) = 97 ∨ (8 : Int) = 98 ∨ (8 : Int) = 120 ∨ (8 : Int) = 121) by decide) (k32_b d (o := 21) (by omega) hw hu (s, c)) (by rw [e]; rfl)
  · unfold okT at hT
    rw [if_neg (by decide), if_neg (by decide), if_neg (by decide), if_neg (by decide), if_neg (by decide), if_neg (by decide)] at hT
    obtain ⟨u, w, r, e, hu, hw⟩ := hT
    exact tw u w _ r e (show ¬ (9 : Int) = 6 by decide) (show ¬ (9 : Int) = 7 by decide) (show ¬ ((9 : Int) = 3 ∨ (9 : Int) = 97 ∨ (9 : Int) = 98 ∨ (9 : Int) = 120 ∨ (9 : Int) = 121) by decide) (k32_b d (o := 22) (by omega) hw hu (s, c)) (by rw [e]; rfl)
theorem k29_l (d : Nat) (hs : SpL s) (hb : ∀ v, bdd (nm v)) : ∀ (Y P : List (Int × Int)) (c : Nat → Nat → Int) (st : List Int) (o3 : Option AV), X = P ++ Y → JE c X nm → okA Y → Sk c st → st.length ≤ P.length → okRn nm Y st → ∃ c' o3', Rr (Cd (d + 3)) 29 4 [some (vA 127), some (vI (st.length : Int)), some (vI (P.length : Int)), o3] [] (s, c) = Rr (Cd (d + 3)) 29 4 [some (vA 127), some (vI ((runC nm Y st).length : Int)), some (vI (X.length : Int)), o3'] [] (s, c') ∧ FJ c c' ∧ Sk c' (runC nm Y st)
  | [], P, c, st, o3, e, hJ, _, hst, hl, _ => by
    have : X.length = P.length := by rw [e]; simp
    exact ⟨c, o3, by rw [this]; rfl, fun _ _ _ => rfl, hst⟩
  | q :: Y, P, c, st, o3, e, hJ, hA, hst, hl, hO => by
    have hq : X[P.length]? = some q := by rw [e]; simp
    obtain ⟨c1, o1, r1, f1, k1, l1⟩ := k29_s d hs hb hJ hq (hA q (by simp)) hst hl hO.1 o3
    obtain ⟨c2, o2, r2', f2, k2⟩ := k29_l d hs hb Y (P ++ [q]) c1 (stepC nm q.1 q.2 st) o1 (by rw [e]; simp) (JE_of f1 hJ) (fun x hx => hA x (by simp [hx])) k1 (by rw [List.length_append]; exact l1) hO.2
    refine ⟨c2, o2, ?_, fun o k ho => (f2 o k ho).trans (f1 o k ho), k2⟩
    rw [List.length_append] at r2'
    exact r1.trans r2'
theorem k29 (d : Nat) (hs : SpL s) (hb : ∀ v, bdd (nm v)) (hJ : JE c X nm) (hA : okA X) (hO : okRn nm X []) {b : Bool} (hr : runC nm X [] = [b2i b]) : ∃ c', Cd (d + 4) 29 [vA 127] (s, c) = some ([vI (b2i b)], (s, c')) ∧ FJ c c' := by
  obtain ⟨c1, o1, r1, f1, k1⟩ := k29_l d hs hb X [] c [] none rfl hJ hA trivial (Nat.le_refl _) hO
  rw [hr] at k1 r1
  have hJ1 := JE_of f1 hJ
  have h0 : c1 130 0 = b2i b := k1.1
  refine ⟨c1, ?_, f1⟩
  have e : Cd (d + 4) 29 [vA 127] (s, c) = Rr (Cd (d + 3)) 29 4 [some (vA 127), some (vI 0), some (vI 0), none] [] (s, c) := c29 (hg := gC127 hs c) ..
  have r1' : Rr (Cd (d + 3)) 29 4 [some (vA 127), some (vI 0), some (vI 0), none] [] (s, c) = Rr (Cd (d + 3)) 29 4 [some (vA 127), some (vI 1), some (vI (X.length : Int)), o1] [] (s, c1) := r1
  (try rw [e]); (try rw [r1']); (try rw [c29_4]); (try rw [fC127 hs _ (by decide)]); (try rw [bnd_s]); (try rw [hJ1.2.1]); (try rw [if_neg (show ¬ (X.length : Int) < (X.length : Int) by omega)]); (try rw [if_pos (show (0 : Int) < 1 by decide)]); (try rw [fC127 hs _ (by decide)]); (try rw [bnd_s]); (try rw [hJ1.1.2.2]); (try rw [aC130 hs _ (show (0 : Int) ≤ 0 by decide) (by decide)]); (try rw [bnd_s]); (try rw [show (0 : Int).toNat = 0 from rfl]); (try rw [h0])
  cases b with
  | true => rw [if_neg (fun w => absurd ((lcmp_eq _ _).mp w) (by decide)), c29_102, if_pos (Or.inr rfl)]; rfl
  | false => rw [if_pos (show lcmp (b2i false) 0 = 0 from (lcmp_eq _ _).mpr rfl), c29_101, c29_102, if_pos (Or.inl rfl)]; rfl
end
