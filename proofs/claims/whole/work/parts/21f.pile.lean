/-! the reference's pile -/
def FM (k : Nat) (c c' : Nat → Nat → Int) : Prop := ∀ o j, ¬ (o = 142 ∧ ((12 ≤ j ∧ j ≤ 16) ∨ j = 19 ∨ (22 ≤ j ∧ j ≤ 24))) → o ≠ 151 → ¬ (o = 145 ∧ 800 * k + 10 ≤ j ∧ j < 800 * k + 800) → c' o j = c o j
def FQ (k : Nat) (c c' : Nat → Nat → Int) : Prop := ∀ o j, ¬ (o = 142 ∧ (j = 19 ∨ (22 ≤ j ∧ j ≤ 24))) → o ≠ 151 → ¬ (o = 145 ∧ 800 * k + 10 ≤ j ∧ j < 800 * k + 800) → c' o j = c o j
theorem FM.rf (k : Nat) (c : Nat → Nat → Int) : FM k c c := fun _ _ _ _ _ => rfl
theorem FM.tr {k : Nat} {a b c : Nat → Nat → Int} (h : FM k a b) (g : FM k b c) : FM k a c := fun o j h1 h2 h3 => (g o j h1 h2 h3).trans (h o j h1 h2 h3)
theorem FQ.rf (k : Nat) (c : Nat → Nat → Int) : FQ k c c := fun _ _ _ _ _ => rfl
theorem FQ.tr {k : Nat} {a b c : Nat → Nat → Int} (h : FQ k a b) (g : FQ k b c) : FQ k a c := fun o j h1 h2 h3 => (g o j h1 h2 h3).trans (h o j h1 h2 h3)
theorem FQ.fm {k : Nat} {a b : Nat → Nat → Int} (h : FQ k a b) : FM k a b := fun o j h1 h2 h3 => h o j (by omega) h2 h3
theorem FTk.fm {a b : Nat → Nat → Int} (k : Nat) (h : FTk a b) : FM k a b := fun o j h1 h2 h3 => h o j (by omega)
theorem FQ.u {k : Nat} {a b : Nat → Nat → Int} (h : FQ k a b) {j : Nat} (v : Int) (hj : j = 19 ∨ (22 ≤ j ∧ j ≤ 24)) : FQ k a (u2 b 142 j v) := h.tr fun o j' g1 g2 g3 => u2_n (by omega)
def EM (T : Int → Int) (n : Int) (k : Nat) (c : Nat → Nat → Int) : Prop := c 142 2 = 145 ∧ c 142 21 = 151 ∧ c 142 17 = 800 * (k : Int) ∧ TpM T n c
theorem EM_of {T : Int → Int} {n : Int} {k : Nat} {c c' : Nat → Nat → Int} (f : FM k c c') (h : EM T n k c) : EM T n k c' := by
  obtain ⟨h1, h2, h3, ⟨⟨h4, h5, h6⟩, h7⟩⟩ := h
  refine ⟨?_, ?_, ?_, ⟨⟨?_, ?_, h6⟩, fun i g0 g1 => ?_⟩⟩
  · rw [f 142 2 (by omega) (by omega) (by omega)]; exact h1
  · rw [f 142 21 (by omega) (by omega) (by omega)]; exact h2
  · rw [f 142 17 (by omega) (by omega) (by omega)]; exact h3
  · rw [f 142 8 (by omega) (by omega) (by omega)]; exact h4
  · rw [f 142 9 (by omega) (by omega) (by omega)]; exact h5
  · rw [f 150 _ (by omega) (by omega) (by omega)]; exact h7 i g0 g1
def Pl (c : Nat → Nat → Int) : List Int → Prop
  | [] => True
  | b :: r => c 151 r.length = b ∧ Pl c r
theorem Pl_of {c c' : Nat → Nat → Int} : ∀ (B : List Int), Pl c B → (∀ j, j < B.length → c' 151 j = c 151 j) → Pl c' B
  | [], _, _ => trivial
  | b :: r, h, e => ⟨(e _ (by simp)).trans h.1, Pl_of r h.2 (fun j hj => e j (by simp; omega))⟩
theorem Pl_all {S : Int → Prop} {c : Nat → Nat → Int} : ∀ (B : List Int), Pl c B → Al S B → ∀ j, j < B.length → S (c 151 j)
  | [], _, _, j, hj => by simp at hj
  | b :: r, h, g, j, hj => by
    by_cases e : j = r.length
    · rw [e, h.1]; exact g b (by simp)
    · exact Pl_all r h.2 (fun q hq => g q (by simp [hq])) j (by simp at hj; omega)
theorem Pl_t {c : Nat → Nat → Int} : ∀ (p : List Int) {B : List Int}, Pl c (p ++ B) → Pl c B
  | [], _, h => h
  | _ :: p, _, h => Pl_t p h.2
def StpM (k : Nat) (c : Nat → Nat → Int) (X : List (Int × Int)) : Prop := ∀ (j : Nat) (q : Int × Int), X[j]? = some q → c 145 (800 * k + 10 + 2 * j) = q.1 ∧ c 145 (800 * k + 11 + 2 * j) = q.2
def PX (k : Nat) (c : Nat → Nat → Int) (o : Int) (B : List Int) (X : List (Int × Int)) : Prop := c 142 23 = o ∧ c 142 22 = (B.length : Int) ∧ Pl c B ∧ c 142 19 = (X.length : Int) ∧ StpM k c X
theorem PX_ft {k : Nat} {c c' : Nat → Nat → Int} {o : Int} {B : List Int} {X : List (Int × Int)} (f : FTk c c') (h : PX k c o B X) : PX k c' o B X := by
  obtain ⟨h1, h2, h3, h4, h5⟩ := h
  refine ⟨?_, ?_, Pl_of B h3 (fun j _ => f 151 j (by omega)), ?_, fun j q hq => ?_⟩
  · rw [f 142 23 (by omega)]; exact h1
  · rw [f 142 22 (by omega)]; exact h2
  · rw [f 142 19 (by omega)]; exact h4
  · rw [f 145 _ (by omega), f 145 _ (by omega)]; exact h5 j q hq
theorem MT_fq {T : Int → Int} {n i : Int} {k : Nat} {c c' : Nat → Nat → Int} (f : FQ k c c') (h : MT T n i c) : MT T n i c' := by
  unfold MT MTp at *
  rw [f 142 12 (by omega) (by omega) (by omega), f 142 13 (by omega) (by omega) (by omega), f 142 14 (by omega) (by omega) (by omega), f 142 15 (by omega) (by omega) (by omega), f 142 16 (by omega) (by omega) (by omega)]
  exact h
section
variable {s : List (Nat × Nat)} {T : Int → Int} {n : Int} {k : Nat} {c : Nat → Nat → Int} {o : Int} {B : List Int} {X : List (Int × Int)}
theorem StpM_a {c' : Nat → Nat → Int} (h : StpM k c X) (q : Int × Int) (e : ∀ j, j < 800 * k + 10 + 2 * X.length → c' 145 j = c 145 j) (h1 : c' 145 (800 * k + 10 + 2 * X.length) = q.1) (h2 : c' 145 (800 * k + 11 + 2 * X.length) = q.2) : StpM k c' (X ++ [q]) := fun j q' hq => by
  by_cases g : j < X.length
  · rw [List.getElem?_append_left g] at hq
    rw [e _ (by omega), e _ (by omega)]
    exact h j q' hq
  · rw [List.getElem?_append_right (by omega)] at hq
    have ej : j = X.length := by
      have := (List.getElem?_eq_some_iff.mp hq).1
      simp at this; omega
    subst ej
    rw [Nat.sub_self] at hq
    have eq : q = q' := by simpa using hq
    subst eq
    exact ⟨h1, h2⟩
theorem m203 (d : Nat) (hs : SpL s) (hk : k < 8) (hE : EM T n k c) (h : PX k c o B X) (hl : X.length ≤ 300) (q : Int × Int) : ∃ c', Cd (d + 1) 203 [vA 142, vI q.1, vI q.2] (s, c) = some ([], (s, c')) ∧ FQ k c c' ∧ PX k c' o B (X ++ [q]) ∧ c' 142 24 = c 142 24 := by
  obtain ⟨h1, h2, h3, h4, h5⟩ := h
  refine ⟨u2 (u2 (u2 c 145 (800 * k + 10 + 2 * X.length) q.1) 145 (800 * k + 11 + 2 * X.length) q.2) 142 19 ((X.length : Int) + 1), ?_, fun o' j g1 g2 g3 => by rw [u2_n (by omega), u2_n (by omega), u2_n (by omega)], ⟨?_, ?_, Pl_of B h3 (fun j _ => by rw [u2_n (by omega), u2_n (by omega), u2_n (by omega)]), ?_, StpM_a h5 q (fun j hj => by rw [u2_n (by omega), u2_n (by omega), u2_n (by omega)]) (by rw [u2_n (by omega), u2_n (by omega), u2_e]) (by rw [u2_n (by omega), u2_e])⟩, by rw [u2_n (by omega), u2_n (by omega), u2_n (by omega)]⟩
  · have i1 : (800 * (k : Int) + 10 + 2 * (X.length : Int)).toNat = 800 * k + 10 + 2 * X.length := by omega
    have i2 : (800 * (k : Int) + 10 + 2 * (X.length : Int) + 1).toNat = 800 * k + 11 + 2 * X.length := by omega
    rw [c203 (hg := gC142 hs c)]
    repeat (first | rw [bnd_s] | rw [fC142 hs _ (by decide)] | rw [pC142 hs _ _ (by decide)] | rw [u2_n (by omega)] | rw [hE.1] | rw [hE.2.2.1] | rw [h4] | rw [w32_id (z := 800 * (k : Int) + 10) (by omega) (by omega)] | rw [w32_id (z := 2 * (X.length : Int)) (by omega) (by omega)] | rw [w32_id (z := 800 * (k : Int) + 10 + 2 * (X.length : Int)) (by omega) (by omega)] | rw [w32_id (z := 800 * (k : Int) + 10 + 2 * (X.length : Int) + 1) (by omega) (by omega)] | rw [qC145 hs _ _ (show (0 : Int) ≤ 800 * (k : Int) + 10 + 2 * (X.length : Int) by omega) (by omega)] | rw [qC145 hs _ _ (show (0 : Int) ≤ 800 * (k : Int) + 10 + 2 * (X.length : Int) + 1 by omega) (by omega)] | rw [i1] | rw [i2] | rw [w32_id (z := (X.length : Int) + 1) (by omega) (by omega)])
  · rw [u2_n (by omega), u2_n (by omega), u2_n (by omega)]; exact h1
  · rw [u2_n (by omega), u2_n (by omega), u2_n (by omega)]; exact h2
  · rw [u2_e, List.length_append]; simp
theorem m204 (d : Nat) (hs : SpL s) (hE : EM T n k c) (h : PX k c o B X) (hl : B.length < 160) (v : Int) : ∃ c', Cd (d + 1) 204 [vA 142, vI v] (s, c) = some ([], (s, c')) ∧ FQ k c c' ∧ PX k c' o (v :: B) X ∧ c' 142 24 = c 142 24 := by
  obtain ⟨h1, h2, h3, h4, h5⟩ := h
  refine ⟨u2 (u2 c 151 B.length v) 142 22 ((B.length : Int) + 1), ?_, fun o' j g1 g2 g3 => by rw [u2_n (by omega), u2_n (by omega)], ⟨?_, ?_, ⟨by rw [u2_n (by omega), u2_e], Pl_of B h3 (fun j hj => by rw [u2_n (by omega), u2_n (by omega)])⟩, ?_, fun j q hq => ?_⟩, by rw [u2_n (by omega), u2_n (by omega)]⟩
  · rw [c204 (hg := gC142 hs c)]
    repeat (first | rw [bnd_s] | rw [fC142 hs _ (by decide)] | rw [pC142 hs _ _ (by decide)] | rw [u2_n (by omega)] | rw [hE.2.1] | rw [h2] | rw [qC151 hs _ _ (show (0 : Int) ≤ (B.length : Int) by omega) (by omega)] | rw [Int.toNat_natCast] | rw [w32_id (z := (B.length : Int) + 1) (by omega) (by omega)])
  · rw [u2_n (by omega), u2_n (by omega)]; exact h1
  · rw [u2_e]; simp
  · rw [u2_n (by omega), u2_n (by omega)]; exact h4
  · rw [u2_n (by omega), u2_n (by omega), u2_n (by omega), u2_n (by omega)]; exact h5 j q hq
end
theorem m205_l (d : Nat) {s : List (Nat × Nat)} {T : Int → Int} {n : Int} {k : Nat} (hs : SpL s) (hk : k < 8) {B : List Int} (hB : Hd (· ≠ 2) B) (hBl : B.length ≤ 60) : ∀ (m : Nat) (c : Nat → Nat → Int) (o : Int) (X : List (Int × Int)), m ≤ 60 → X.length + m ≤ 300 → -1000 ≤ o - (m : Int) → o ≤ 1000 → EM T n k c → PX k c o (r2 m ++ B) X → ∃ c', Rr (Cd (d + 1)) 205 3 [some (vA 142)] [] (s, c) = some ([], (s, c')) ∧ FQ k c c' ∧ PX k c' (o - (m : Int)) B (X ++ rp m) ∧ c' 142 24 = c 142 24 := by
  intro m
  induction m with
  | zero =>
    intro c o X hm hX o0 o1 hE h
    have h' : PX k c o B X := h
    refine ⟨c, ?_, FQ.rf k c, ?_, rfl⟩
    · (try rw [c205_3]); (try rw [fC142 hs _ (by decide)]); (try rw [bnd_s]); (try rw [h'.2.1])
      cases B with
      | nil => rw [if_neg (by simp), c205_32]
      | cons b r =>
        have hl : ((b :: r).length : Int) = (r.length : Int) + 1 := by simp
        have hb : c 151 r.length = b := h'.2.2.1.1
        have hr : r.length ≤ 60 := by simp at hBl; omega
        (try rw [hl]); (try rw [if_pos (by omega)]); (try rw [fC142 hs _ (by decide)]); (try rw [bnd_s]); (try rw [hE.2.1]); (try rw [fC142 hs _ (by decide)]); (try rw [bnd_s]); (try rw [h'.2.1]); (try rw [hl]); (try rw [w32_id (by omega) (by omega)]); (try rw [show (r.length : Int) + 1 - 1 = (r.length : Int) by omega]); (try rw [aC151 hs _ (by omega) (by omega)]); (try rw [bnd_s]); (try rw [Int.toNat_natCast]); (try rw [hb]); (try rw [if_neg (hB b r rfl)]); (try rw [c205_32])
    · rw [show o - ((0 : Nat) : Int) = o by omega, show X ++ rp 0 = X from List.append_nil X]; exact h'
  | succ m ih =>
    intro c o X hm hX o0 o1 hE h
    obtain ⟨h1, h2, h3, h4, h5⟩ := h
    have hl : ((r2 (m + 1) ++ B).length : Int) = (m : Int) + (B.length : Int) + 1 := by rw [List.length_append, r2_l]; omega
    have hl2 : (r2 m ++ B).length = m + B.length := by rw [List.length_append, r2_l]
    have h3' : c 151 (r2 m ++ B).length = 2 ∧ Pl c (r2 m ++ B) := h3
    rw [hl2] at h3'
    rw [hl] at h2
    have f1 : FQ k c (u2 (u2 c 142 22 ((m : Int) + (B.length : Int))) 142 23 (o - 1)) := ((FQ.rf k c).u _ (by omega)).u _ (by omega)
    have p1 : PX k (u2 (u2 c 142 22 ((m : Int) + (B.length : Int))) 142 23 (o - 1)) (o - 1) (r2 m ++ B) X := ⟨u2_e _ _ _ _, by rw [u2_n (by omega), u2_e, hl2]; omega, Pl_of _ h3'.2 (fun j _ => by rw [u2_n (by omega), u2_n (by omega)]), by rw [u2_n (by omega), u2_n (by omega)]; exact h4, fun j q hq => by rw [u2_n (by omega), u2_n (by omega), u2_n (by omega), u2_n (by omega)]; exact h5 j q hq⟩
    obtain ⟨c2, r2', f2, p2, w2⟩ := m203 d hs hk (EM_of f1.fm hE) p1 (by omega) (2, 0)
    obtain ⟨c3, r3, f3, p3, w3⟩ := ih c2 (o - 1) (X ++ [(2, 0)]) (by omega) (by rw [List.length_append]; simp only [List.length_cons, List.length_nil]; omega) (by omega) (by omega) (EM_of (f1.tr f2).fm hE) p2
    refine ⟨c3, ?_, (f1.tr f2).tr f3, ?_, ?_⟩
    · (try rw [c205_3]); (try rw [fC142 hs _ (by decide)]); (try rw [bnd_s]); (try rw [h2]); (try rw [if_pos (by omega)]); (try rw [fC142 hs _ (by decide)]); (try rw [bnd_s]); (try rw [hE.2.1]); (try rw [fC142 hs _ (by decide)]); (try rw [bnd_s]); (try rw [h2]); (try rw [w32_id (by omega) (by omega)]); (try rw [show (m : Int) + (B.length : Int) + 1 - 1 = (m : Int) + (B.length : Int) by omega]); (try rw [aC151 hs _ (by omega) (by omega)]); (try rw [bnd_s]); (try rw [show ((m : Int) + (B.length : Int)).toNat = m + B.length by omega]); (try rw [h3'.1]); (try rw [if_pos rfl]); (try rw [fC142 hs _ (by decide)]); (try rw [bnd_s]); (try rw [h2]); (try rw [pC142 hs _ _ (by decide)]); (try rw [bnd_s]); (try rw [w32_id (by omega) (by omega)]); (try rw [show (m : Int) + (B.length : Int) + 1 - 1 = (m : Int) + (B.length : Int) by omega]); (try rw [fC142 hs _ (by decide)]); (try rw [bnd_s]); (try rw [u2_n (by omega)]); (try rw [h1]); (try rw [pC142 hs _ _ (by decide)]); (try rw [bnd_s]); (try rw [w32_id (by omega) (by omega)]); (try rw [r2']); (try rw [bnd_s]); (try rw [tV_m]); (try rw [bnd_s]); (try rw [r3])
    · rw [show o - 1 - (m : Int) = o - ((m + 1 : Nat) : Int) by omega] at p3
      have e : X ++ [(2, 0)] ++ rp m = X ++ rp (m + 1) := by
        show X ++ [(2, 0)] ++ rp m = X ++ ((2, 0) :: rp m)
        simp only [List.append_assoc, List.singleton_append]
      rw [e] at p3; exact p3
    · rw [w3, w2, u2_n (by omega), u2_n (by omega)]
theorem m205 (d : Nat) {s : List (Nat × Nat)} {T : Int → Int} {n : Int} {k : Nat} (hs : SpL s) (hk : k < 8) {B : List Int} (hB : Hd (· ≠ 2) B) (hBl : B.length ≤ 60) {m : Nat} {c : Nat → Nat → Int} {o : Int} {X : List (Int × Int)} (hm : m ≤ 60) (hX : X.length + m ≤ 300) (o0 : -1000 ≤ o - (m : Int)) (o1 : o ≤ 1000) (hE : EM T n k c) (h : PX k c o (r2 m ++ B) X) : ∃ c', Cd (d + 2) 205 [vA 142] (s, c) = some ([], (s, c')) ∧ FQ k c c' ∧ PX k c' (o - (m : Int)) B (X ++ rp m) ∧ c' 142 24 = 1 := by
  obtain ⟨h1, h2, h3, h4, h5⟩ := h
  have f1 : FQ k c (u2 c 142 24 1) := (FQ.rf k c).u _ (by omega)
  have p1 : PX k (u2 c 142 24 1) o (r2 m ++ B) X := ⟨by rw [u2_n (by omega)]; exact h1, by rw [u2_n (by omega)]; exact h2, Pl_of _ h3 (fun j _ => u2_n (by omega)), by rw [u2_n (by omega)]; exact h4, fun j q hq => by rw [u2_n (by omega), u2_n (by omega)]; exact h5 j q hq⟩
  obtain ⟨c', r, f, p, w⟩ := m205_l d hs hk hB hBl m (u2 c 142 24 1) o X hm hX o0 o1 (EM_of f1.fm hE) p1
  exact ⟨c', by (try rw [c205 (hg := gC142 hs c)]); (try rw [pC142 hs _ _ (by decide)]); (try rw [bnd_s]); (try rw [r]), f1.tr f, p, by rw [w, u2_e]⟩
theorem m206_l (d : Nat) {s : List (Nat × Nat)} {T : Int → Int} {n : Int} {k : Nat} (hs : SpL s) (hk : k < 8) {B : List Int} {l : Int} (hB : Hd (fun b => 40 ≤ b ∨ b < l) B) (hBl : B.length ≤ 100) {o : Int} : ∀ (p : List Int) (c : Nat → Nat → Int) (X : List (Int × Int)), p.length ≤ 60 → X.length + p.length ≤ 300 → Al (fun q => l ≤ q ∧ q < 40) p → EM T n k c → PX k c o (p ++ B) X → ∃ c', Rr (Cd (d + 1)) 206 0 [some (vA 142), some (vI l)] [] (s, c) = some ([], (s, c')) ∧ FQ k c c' ∧ PX k c' o B (X ++ fl p) ∧ c' 142 24 = c 142 24 := by
  intro p
  induction p with
  | nil =>
    intro c X hp hX hA hE h
    have h' : PX k c o B X := h
    refine ⟨c, ?_, FQ.rf k c, by rw [show X ++ fl [] = X from List.append_nil X]; exact h', rfl⟩
    (try rw [c206_0]); (try rw [fC142 hs _ (by decide)]); (try rw [bnd_s]); (try rw [h'.2.1])
    cases B with
    | nil => rw [if_neg (by simp), c206_36]
    | cons b r =>
      have hl : ((b :: r).length : Int) = (r.length : Int) + 1 := by simp
      have hb : c 151 r.length = b := h'.2.2.1.1
      have hr : r.length ≤ 100 := by simp at hBl; omega
      (try rw [hl]); (try rw [if_pos (by omega)]); (try rw [fC142 hs _ (by decide)]); (try rw [bnd_s]); (try rw [hE.2.1]); (try rw [fC142 hs _ (by decide)]); (try rw [bnd_s]); (try rw [h'.2.1]); (try rw [hl]); (try rw [w32_id (by omega) (by omega)]); (try rw [show (r.length : Int) + 1 - 1 = (r.length : Int) by omega]); (try rw [aC151 hs _ (by omega) (by omega)]); (try rw [bnd_s]); (try rw [Int.toNat_natCast]); (try rw [hb])
      have hq := hB b r rfl
      by_cases g : b < 40
      · (try rw [if_pos g]); (try rw [fC142 hs _ (by decide)]); (try rw [bnd_s]); (try rw [hE.2.1]); (try rw [fC142 hs _ (by decide)]); (try rw [bnd_s]); (try rw [h'.2.1]); (try rw [hl]); (try rw [w32_id (by omega) (by omega)]); (try rw [show (r.length : Int) + 1 - 1 = (r.length : Int) by omega]); (try rw [aC151 hs _ (by omega) (by omega)]); (try rw [bnd_s]); (try rw [Int.toNat_natCast]); (try rw [hb]); (try rw [if_pos (by omega)]); (try rw [c206_36])
      · rw [if_neg g, c206_36]
  | cons q p ih =>
    intro c X hp hX hA hE h
    obtain ⟨h1, h2, h3, h4, h5⟩ := h
    have hq := hA q (by simp)
    have hpl : p.length ≤ 59 := by simp at hp; omega
    have hXl : X.length + p.length + 1 ≤ 300 := by simp at hX; omega
    have hl : ((q :: p ++ B).length : Int) = (p.length : Int) + (B.length : Int) + 1 := by simp
    have hl2 : (p ++ B).length = p.length + B.length := List.length_append
    have h3' : c 151 (p ++ B).length = q ∧ Pl c (p ++ B) := h3
    rw [hl2] at h3'
    rw [hl] at h2
    have f1 : FQ k c (u2 c 142 22 ((p.length : Int) + (B.length : Int))) := (FQ.rf k c).u _ (by omega)
    have p1 : PX k (u2 c 142 22 ((p.length : Int) + (B.length : Int))) o (p ++ B) X := ⟨by rw [u2_n (by omega)]; exact h1, by rw [u2_e, hl2]; omega, Pl_of _ h3'.2 (fun j _ => u2_n (by omega)), by rw [u2_n (by omega)]; exact h4, fun j q hq => by rw [u2_n (by omega), u2_n (by omega)]; exact h5 j q hq⟩
    obtain ⟨c2, r2', f2, p2, w2⟩ := m203 d hs hk (EM_of f1.fm hE) p1 (by omega) (q, 0)
    obtain ⟨c3, r3, f3, p3, w3⟩ := ih c2 (X ++ [(q, 0)]) (by omega) (by rw [List.length_append]; simp only [List.length_cons, List.length_nil]; omega) (fun x hx => hA x (by simp [hx])) (EM_of (f1.tr f2).fm hE) p2
    have ix : ((p.length : Int) + (B.length : Int)).toNat = p.length + B.length := by omega
    refine ⟨c3, ?_, (f1.tr f2).tr f3, ?_, ?_⟩
    · (try rw [c206_0]); (try rw [fC142 hs _ (by decide)]); (try rw [bnd_s]); (try rw [h2]); (try rw [if_pos (by omega)]); (try rw [fC142 hs _ (by decide)]); (try rw [bnd_s]); (try rw [hE.2.1]); (try rw [fC142 hs _ (by decide)]); (try rw [bnd_s]); (try rw [h2]); (try rw [w32_id (by omega) (by omega)]); (try rw [show (p.length : Int) + (B.length : Int) + 1 - 1 = (p.length : Int) + (B.length : Int) by omega]); (try rw [aC151 hs _ (by omega) (by omega)]); (try rw [bnd_s]); (try rw [ix]); (try rw [h3'.1]); (try rw [if_pos hq.2]); (try rw [fC142 hs _ (by decide)]); (try rw [bnd_s]); (try rw [hE.2.1]); (try rw [fC142 hs _ (by decide)]); (try rw [bnd_s]); (try rw [h2]); (try rw [w32_id (by omega) (by omega)]); (try rw [show (p.length : Int) + (B.length : Int) + 1 - 1 = (p.length : Int) + (B.length : Int) by omega]); (try rw [aC151 hs _ (by omega) (by omega)]); (try rw [bnd_s]); (try rw [ix]); (try rw [h3'.1]); (try rw [if_neg (by omega)]); (try rw [fC142 hs _ (by decide)]); (try rw [bnd_s]); (try rw [h2]); (try rw [pC142 hs _ _ (by decide)]); (try rw [bnd_s]); (try rw [w32_id (by omega) (by omega)]); (try rw [show (p.length : Int) + (B.length : Int) + 1 - 1 = (p.length : Int) + (B.length : Int) by omega]); (try rw [fC142 hs _ (by decide)]); (try rw [bnd_s]); (try rw [u2_n (by omega)]); (try rw [hE.2.1]); (try rw [fC142 hs _ (by decide)]); (try rw [bnd_s]); (try rw [u2_e]); (try rw [aC151 hs _ (by omega) (by omega)]); (try rw [bnd_s]); (try rw [u2_n (by omega)]); (try rw [ix]); (try rw [h3'.1]); (try rw [r2']); (try rw [bnd_s]); (try rw [tV_m]); (try rw [bnd_s]); (try rw [r3])
    · have e : X ++ [(q, 0)] ++ fl p = X ++ fl (q :: p) := by
        show X ++ [(q, 0)] ++ fl p = X ++ ((q, 0) :: fl p)
        simp only [List.append_assoc, List.singleton_append]
      rw [e] at p3; exact p3
    · rw [w3, w2, u2_n (by omega)]
theorem m206 (d : Nat) {s : List (Nat × Nat)} {T : Int → Int} {n : Int} {k : Nat} (hs : SpL s) (hk : k < 8) {B p : List Int} {l o : Int} (hB : Hd (fun b => 40 ≤ b ∨ b < l) B) (hBl : B.length ≤ 100) {c : Nat → Nat → Int} {X : List (Int × Int)} (hp : p.length ≤ 60) (hX : X.length + p.length ≤ 300) (hA : Al (fun q => l ≤ q ∧ q < 40) p) (hE : EM T n k c) (h : PX k c o (p ++ B) X) : ∃ c', Cd (d + 2) 206 [vA 142, vI l] (s, c) = some ([], (s, c')) ∧ FQ k c c' ∧ PX k c' o B (X ++ fl p) ∧ c' 142 24 = c 142 24 := by
  obtain ⟨c', r, q⟩ := m206_l d hs hk hB hBl p c X hp hX hA hE h
  refine ⟨c', ?_, q⟩
  rw [c206 (hg := gC142 hs c), ← c206_0 (d + 1) 142 l (s, c), r]
def nmT (x : Int) : Int := if x = 97 then 0 else if x = 98 then 1 else if x = 120 then 2 else if x = 121 then 3 else -1
theorem m207 (d : Nat) {s : List (Nat × Nat)} {T : Int → Int} {n i : Int} {c : Nat → Nat → Int} (hs : SpL s) (h : MT T n i c) : Cd (d + 1) 207 [vA 142] (s, c) = some ([vI (nmT (tkA T n i))], (s, c)) := by
  have hr := MT_tr h
  have e1 := TkR_w hr (x := 97) (y := 97) (by omega) wc_97
  have e2 := TkR_w hr (x := 98) (y := 98) (by omega) wc_98
  have e3 := TkR_w hr (x := 120) (y := 120) (by omega) wc_120
  have e4 := TkR_w hr (x := 121) (y := 121) (by omega) wc_121
  rw [c207 (hg := gC142 hs c), fC142 hs _ (by decide), bnd_s]
  unfold nmT
  by_cases g : c 142 14 = 2
  · rw [if_pos g, fC142 hs _ (by decide), bnd_s]
    by_cases g1 : c 142 16 = 97
    · rw [if_pos ((lcmp_eq _ _).mpr g1), c207_35, if_pos (e1.mp ⟨g, g1⟩)]
    · rw [if_neg (fun w => g1 ((lcmp_eq _ _).mp w)), bnd_s, if_neg (fun w => g1 (e1.mpr w).2)]
      by_cases g2 : c 142 16 = 98
      · rw [if_pos ((lcmp_eq _ _).mpr g2), c207_35, if_pos (e2.mp ⟨g, g2⟩)]
      · rw [if_neg (fun w => g2 ((lcmp_eq _ _).mp w)), bnd_s, if_neg (fun w => g2 (e2.mpr w).2)]
        by_cases g3 : c 142 16 = 120
        · rw [if_pos ((lcmp_eq _ _).mpr g3), c207_35, if_pos (e3.mp ⟨g, g3⟩)]
        · rw [if_neg (fun w => g3 ((lcmp_eq _ _).mp w)), bnd_s, if_neg (fun w => g3 (e3.mpr w).2)]
          by_cases g4 : c 142 16 = 121
          · rw [if_pos ((lcmp_eq _ _).mpr g4), c207_35, if_pos (e4.mp ⟨g, g4⟩)]
          · rw [if_neg (fun w => g4 ((lcmp_eq _ _).mp w)), c207_35, if_neg (fun w => g4 (e4.mpr w).2)]
  · rw [if_neg g, if_neg (fun w => g (e1.mpr w).1), if_neg (fun w => g (e2.mpr w).1), if_neg (fun w => g (e3.mpr w).1), if_neg (fun w => g (e4.mpr w).1)]
theorem m209_1 (d : Nat) {s : List (Nat × Nat)} {c : Nat → Nat → Int} (hs : SpL s) (h21 : c 142 21 = 151) {l : Nat} (h22 : c 142 22 = (l : Int)) (hl : l ≤ 160) {j : Nat} (hj : j < l) (h40 : c 151 j = 40) : ∀ (m v : Nat), v + m = j → Rr (Cd d) 209 2 [some (vA 142), some (vI (v : Int))] [] (s, c) = some ([vI 1], (s, c)) := by
  intro m
  induction m with
  | zero =>
    intro v hv
    (try rw [c209_2]); (try rw [fC142 hs _ (by decide)]); (try rw [bnd_s]); (try rw [h22]); (try rw [if_pos (by omega)]); (try rw [fC142 hs _ (by decide)]); (try rw [bnd_s]); (try rw [h21]); (try rw [aC151 hs _ (by omega) (by omega)]); (try rw [bnd_s]); (try rw [Int.toNat_natCast]); (try rw [show v = j by omega]); (try rw [if_pos h40])
  | succ m ih =>
    intro v hv
    (try rw [c209_2]); (try rw [fC142 hs _ (by decide)]); (try rw [bnd_s]); (try rw [h22]); (try rw [if_pos (by omega)]); (try rw [fC142 hs _ (by decide)]); (try rw [bnd_s]); (try rw [h21]); (try rw [aC151 hs _ (by omega) (by omega)]); (try rw [bnd_s]); (try rw [Int.toNat_natCast])
    by_cases g : c 151 v = 40
    · rw [if_pos g]
    · rw [if_neg g, w32_id (by omega) (by omega)]; exact ih (v + 1) (by omega)
theorem m209_0 (d : Nat) {s : List (Nat × Nat)} {c : Nat → Nat → Int} (hs : SpL s) (h21 : c 142 21 = 151) {l : Nat} (h22 : c 142 22 = (l : Int)) (hl : l ≤ 160) (h40 : ∀ j, j < l → c 151 j ≠ 40) : ∀ (m v : Nat), v + m = l → Rr (Cd d) 209 2 [some (vA 142), some (vI (v : Int))] [] (s, c) = some ([vI 0], (s, c)) := by
  intro m
  induction m with
  | zero =>
    intro v hv
    (try rw [c209_2]); (try rw [fC142 hs _ (by decide)]); (try rw [bnd_s]); (try rw [h22]); (try rw [if_neg (by omega)])
  | succ m ih =>
    intro v hv
    (try rw [c209_2]); (try rw [fC142 hs _ (by decide)]); (try rw [bnd_s]); (try rw [h22]); (try rw [if_pos (by omega)]); (try rw [fC142 hs _ (by decide)]); (try rw [bnd_s]); (try rw [h21]); (try rw [aC151 hs _ (by omega) (by omega)]); (try rw [bnd_s]); (try rw [Int.toNat_natCast]); (try rw [if_neg (h40 v (by omega))]); (try rw [w32_id (by omega) (by omega)])
    exact ih (v + 1) (by omega)
theorem m210 (d : Nat) {s : List (Nat × Nat)} {T : Int → Int} {n i : Int} {c : Nat → Nat → Int} (hs : SpL s) (h : MT T n i c) {b : Bool} (hp : tkA T n i = 41 → Cd (d + 1) 209 [vA 142] (s, c) = some ([vI (b2i b)], (s, c))) : Cd (d + 2) 210 [vA 142] (s, c) = some ([vI (if tkA T n i = 43 ∨ tkA T n i = 45 ∨ tkA T n i = 42 ∨ (tkA T n i = 41 ∧ b = true) then 1 else 0)], (s, c)) := by
  have hr := MT_tr h
  have a1 : ∀ o0, Rr (Cd (d + 1)) 210 19 [o0] [] (s, c) = some ([vI 1], (s, c)) := fun o0 => by rw [c210_19, c210_22, if_pos (by decide)]
  have a0 : ∀ o0, Rr (Cd (d + 1)) 210 21 [o0] [] (s, c) = some ([vI 0], (s, c)) := fun o0 => by rw [c210_21, c210_22, if_pos (by decide)]
  have e3 := TkR_g hr 43 (by omega)
  have e5 := TkR_g hr 45 (by omega)
  have e2 := TkR_g hr 42 (by omega)
  have e1 := TkR_g hr 41 (by omega)
  rw [c210 (hg := gC142 hs c), fC142 hs _ (by decide), bnd_s]
  by_cases g3 : tkA T n i = 43
  · rw [if_pos (e3.mpr g3), a1, if_pos (Or.inl g3)]
  · rw [if_neg (fun w => g3 (e3.mp w)), bnd_s]
    by_cases g5 : tkA T n i = 45
    · rw [if_pos (e5.mpr g5), a1, if_pos (Or.inr (Or.inl g5))]
    · rw [if_neg (fun w => g5 (e5.mp w)), bnd_s]
      by_cases g2 : tkA T n i = 42
      · rw [if_pos (e2.mpr g2), a1, if_pos (Or.inr (Or.inr (Or.inl g2)))]
      · rw [if_neg (fun w => g2 (e2.mp w)), bnd_s]
        by_cases g1 : tkA T n i = 41
        · (try rw [if_pos (e1.mpr g1)]); (try rw [hp g1]); (try rw [bnd_s]); (try rw [tI_m]); (try rw [bnd_s])
          cases b with
          | true => rw [if_neg (show ¬ b2i true = 0 by decide), a1, if_pos (Or.inr (Or.inr (Or.inr ⟨g1, rfl⟩)))]
          | false => rw [if_pos (show b2i false = 0 from rfl), a0, if_neg (fun w => by rcases w with w | w | w | w; exact g3 w; exact g5 w; exact g2 w; exact absurd w.2 (by decide))]
        · rw [if_neg (fun w => g1 (e1.mp w)), a0, if_neg (fun w => by rcases w with w | w | w | w; exact g3 w; exact g5 w; exact g2 w; exact g1 w.1)]
