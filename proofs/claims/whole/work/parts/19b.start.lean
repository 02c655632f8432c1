/-! the start: a state -/
def chB : List (Nat × Nat) := [(1, 10), (100, 15), (100, 15), (100, 7), (100, 7)]
def shB : List (Nat × Nat) := [(8, 4), (100, 49)]
def repB (B : List (Nat × Nat)) : Nat → List (Nat × Nat)
  | 0 => []
  | n + 1 => B ++ repB B n
/-- charts up to m are laid -/
def CQ (o m : Nat) (b c : Nat → Nat → Int) : Prop := (∀ i k, i < o + 10 → i ≠ o + 1 → c i k = b i k) ∧ ∀ m', m' < m → c (o + 1) m' = ((o + 10 + 5 * m' : Nat) : Int) ∧ (∀ j, j < 4 → c (o + 10 + 5 * m') j = ((o + 10 + 5 * m' + 1 + j : Nat) : Int)) ∧ c (o + 10 + 5 * m') 6 = -1
theorem n112_32 (d : Nat) {o : Nat} {b : Nat → Nat → Int} (h0 : 0 < o) (e0 : b o 0 = ((o + 1 : Nat) : Int)) : ∀ (n m : Nat) (s : List (Nat × Nat)) (c : Nat → Nat → Int), m + n = 4 → s.length = o + 10 + 5 * m → s[o]? = some (10, 8) → s[o + 1]? = some (103, 4) → CQ o m b c → ∃ c', Rr (Cd (d + 1)) 112 32 [some (vA (o : Int)), some (vI (m : Int))] [] (s, c) = Rr (Cd (d + 1)) 112 48 [some (vA (o : Int)), some (vI 0)] [] (s ++ repB chB n, c') ∧ CQ o 4 b c'
  | 0, m, s, c, hm, hl, h1, h2, hQ => by
    have : m = 4 := by omega
    subst this
    have x0 : c o 0 = ((o + 1 : Nat) : Int) := by rw [hQ.1 o 0 (by omega) (by omega)]; exact e0
    refine ⟨c, ?_, hQ⟩
    rw [c112_32, gF_g h1 _ (by decide), bnd_s, x0, gL_g h2 (by decide), bnd_s, if_neg (by decide)]
    simp only [repB, List.append_nil]
  | n + 1, m, s, c, hm, hl, h1, h2, hQ => by
    have x0 : c o 0 = ((o + 1 : Nat) : Int) := by rw [hQ.1 o 0 (by omega) (by omega)]; exact e0
    have hs : (s ++ [(1, 10)])[o + 10 + 5 * m]? = some (1, 10) := at_e hl
    obtain ⟨c1, r, f, g0, g1, g2, g3, go, -⟩ := n6 d (s := s ++ [(1, 10)]) (c := mkC c s.length 1) (o := o + 10 + 5 * m) (by omega) hs (by rw [List.length_append, hl]; rfl)
    have hs2 := ap (e := [(100, 7)]) (ap (e := [(100, 7)]) (ap (e := [(100, 15)]) (ap (e := [(100, 15)]) hs)))
    have q2 := ap (e := [(100, 7)]) (ap (e := [(100, 7)]) (ap (e := [(100, 15)]) (ap (e := [(100, 15)]) (ap (e := [(1, 10)]) h2))))
    have q1 := ap (e := [(100, 7)]) (ap (e := [(100, 7)]) (ap (e := [(100, 15)]) (ap (e := [(100, 15)]) (ap (e := [(1, 10)]) h1))))
    have fr : ∀ i k, i < o + 10 + 5 * m → c1 i k = c i k := fun i k hi => by rw [f i k hi, mkC_n (by omega)]
    have hQ2 : CQ o (m + 1) b (u2 c1 (o + 1) m ((o + 10 + 5 * m : Nat) : Int)) := by
      refine ⟨fun i k hi hi2 => by rw [u2_n (fun w => hi2 w.1), fr i k (by omega)]; exact hQ.1 i k hi hi2, fun m' hm' => ?_⟩
      by_cases e : m' = m
      · subst e
        refine ⟨u2_e _ _ _ _, fun j hj => ?_, ?_⟩
        · rw [u2_n (by omega)]
          have : j = 0 ∨ j = 1 ∨ j = 2 ∨ j = 3 := by omega
          rcases this with e | e | e | e <;> subst e
          · rw [g0]
          · rw [g1]
          · rw [g2]
          · rw [g3]
        · rw [u2_n (by omega), go 6 (by decide) (by decide) (by decide) (by decide), hl, mkC_e]; rfl
      · obtain ⟨a1, a2, a3⟩ := hQ.2 m' (by omega)
        refine ⟨by rw [u2_n (fun w => e w.2), fr _ _ (by omega)]; exact a1, fun j hj => by rw [u2_n (by omega), fr _ _ (by omega)]; exact a2 j hj, by rw [u2_n (by omega), fr _ _ (by omega)]; exact a3⟩
    obtain ⟨c', y1, y2⟩ := n112_32 d h0 e0 n (m + 1) (s ++ [(1, 10)] ++ [(100, 15)] ++ [(100, 15)] ++ [(100, 7)] ++ [(100, 7)]) _ (by omega) (by simp only [List.length_append, List.length_cons, List.length_nil, hl]; omega) q1 q2 hQ2
    refine ⟨c', ?_, y2⟩
    have es : s ++ repB chB (n + 1) = s ++ [(1, 10)] ++ [(100, 15)] ++ [(100, 15)] ++ [(100, 7)] ++ [(100, 7)] ++ repB chB n := by
      simp [repB, chB]
    have hl' : ((s.length : Nat) : Int) = ((o + 10 + 5 * m : Nat) : Int) := by rw [hl]
    have r' : Cd (d + 1) 6 [vA (((s, c) : HP).1.length : Int)] (mk (s, c) 1 10) = some ([], (s ++ [(1, 10)] ++ [(100, 15)] ++ [(100, 15)] ++ [(100, 7)] ++ [(100, 7)], c1)) := by
      show Cd (d + 1) 6 [vA ((s.length : Nat) : Int)] (mk (s, c) 1 10) = _
      rw [hl', mk_p]; exact r
    rw [es, ← y1, c112_32, gF_g h1 _ (by decide), bnd_s, x0, gL_g h2 (by decide), bnd_s, if_pos (by omega), bnd_s, r', bnd_s, tV_m, bnd_s]
    have pr := pR_1 q2 hs2 c1 (i := (m : Int)) (by omega) (by omega)
    have pr' : pR (s ++ [(1, 10)] ++ [(100, 15)] ++ [(100, 15)] ++ [(100, 7)] ++ [(100, 7)], c1) ((o + 1 : Nat) : Int) (m : Int) ((((s, c) : HP).1.length : Nat) : Int) = some (s ++ [(1, 10)] ++ [(100, 15)] ++ [(100, 15)] ++ [(100, 7)] ++ [(100, 7)], u2 c1 (o + 1) m ((o + 10 + 5 * m : Nat) : Int)) := by
      show pR _ _ _ ((s.length : Nat) : Int) = _
      rw [hl', pr, Int.toNat_natCast]
    rw [pr', bnd_s, w32_id (by omega) (by omega)]; rfl
def SQ (o k : Nat) (b c : Nat → Nat → Int) : Prop := (∀ i j, i < o + 30 → i ≠ o + 2 → c i j = b i j) ∧ ∀ k', k' < k → c (o + 2) k' = ((o + 30 + 2 * k' : Nat) : Int) ∧ c (o + 30 + 2 * k') 0 = ((o + 30 + 2 * k' + 1 : Nat) : Int)
theorem n112_48 (d : Nat) {o : Nat} {b : Nat → Nat → Int} (h0 : 0 < o) (e0 : b o 1 = ((o + 2 : Nat) : Int)) : ∀ (n m : Nat) (s : List (Nat × Nat)) (c : Nat → Nat → Int), m + n = 8 → s.length = o + 30 + 2 * m → s[o]? = some (10, 8) → s[o + 2]? = some (104, 8) → SQ o m b c → ∃ c', Rr (Cd (d + 1)) 112 48 [some (vA (o : Int)), some (vI (m : Int))] [] (s, c) = some ([], (s ++ repB shB n, c')) ∧ SQ o 8 b c'
  | 0, m, s, c, hm, hl, h1, h2, hQ => by
    have : m = 8 := by omega
    subst this
    have x0 : c o 1 = ((o + 2 : Nat) : Int) := by rw [hQ.1 o 1 (by omega) (by omega)]; exact e0
    refine ⟨c, ?_, hQ⟩
    rw [c112_48, gF_g h1 _ (by decide), bnd_s, x0, gL_g h2 (by decide), bnd_s, if_neg (by decide)]
    simp only [repB, List.append_nil]
  | n + 1, m, s, c, hm, hl, h1, h2, hQ => by
    have x0 : c o 1 = ((o + 2 : Nat) : Int) := by rw [hQ.1 o 1 (by omega) (by omega)]; exact e0
    have hs : (s ++ [(8, 4)])[o + 30 + 2 * m]? = some (8, 4) := at_e hl
    obtain ⟨c1, r, f, g0, go, -⟩ := n104 d (s := s ++ [(8, 4)]) (c := mkC c s.length 8) (o := o + 30 + 2 * m) (by omega) hs (by rw [List.length_append, hl]; rfl)
    have hs2 := ap (e := [(100, 49)]) hs
    have q2 := ap (e := [(100, 49)]) (ap (e := [(8, 4)]) h2)
    have q1 := ap (e := [(100, 49)]) (ap (e := [(8, 4)]) h1)
    have fr : ∀ i k, i < o + 30 + 2 * m → c1 i k = c i k := fun i k hi => by rw [f i k hi, mkC_n (by omega)]
    have hQ2 : SQ o (m + 1) b (u2 c1 (o + 2) m ((o + 30 + 2 * m : Nat) : Int)) := by
      refine ⟨fun i k hi hi2 => by rw [u2_n (fun w => hi2 w.1), fr i k (by omega)]; exact hQ.1 i k hi hi2, fun m' hm' => ?_⟩
      by_cases e : m' = m
      · subst e
        exact ⟨u2_e _ _ _ _, by rw [u2_n (by omega), g0]⟩
      · obtain ⟨a1, a2⟩ := hQ.2 m' (by omega)
        exact ⟨by rw [u2_n (fun w => e w.2), fr _ _ (by omega)]; exact a1, by rw [u2_n (by omega), fr _ _ (by omega)]; exact a2⟩
    obtain ⟨c', y1, y2⟩ := n112_48 d h0 e0 n (m + 1) (s ++ [(8, 4)] ++ [(100, 49)]) _ (by omega) (by simp only [List.length_append, List.length_cons, List.length_nil, hl]; omega) q1 q2 hQ2
    refine ⟨c', ?_, y2⟩
    have es : s ++ repB shB (n + 1) = s ++ [(8, 4)] ++ [(100, 49)] ++ repB shB n := by
      simp [repB, shB]
    have hl' : ((s.length : Nat) : Int) = ((o + 30 + 2 * m : Nat) : Int) := by rw [hl]
    have r' : Cd (d + 1) 104 [vA (((s, c) : HP).1.length : Int)] (mk (s, c) 8 4) = some ([], (s ++ [(8, 4)] ++ [(100, 49)], c1)) := by
      show Cd (d + 1) 104 [vA ((s.length : Nat) : Int)] (mk (s, c) 8 4) = _
      rw [hl', mk_p]; exact r
    rw [es, ← y1, c112_48, gF_g h1 _ (by decide), bnd_s, x0, gL_g h2 (by decide), bnd_s, if_pos (by omega), bnd_s, r', bnd_s, tV_m, bnd_s]
    have pr := pR_8 q2 hs2 c1 (i := (m : Int)) (by omega) (by omega)
    have pr' : pR (s ++ [(8, 4)] ++ [(100, 49)], c1) ((o + 2 : Nat) : Int) (m : Int) ((((s, c) : HP).1.length : Nat) : Int) = some (s ++ [(8, 4)] ++ [(100, 49)], u2 c1 (o + 2) m ((o + 30 + 2 * m : Nat) : Int)) := by
      show pR _ _ _ ((s.length : Nat) : Int) = _
      rw [hl', pr, Int.toNat_natCast]
    rw [pr', bnd_s, w32_id (by omega) (by omega)]; rfl
/-- a fresh state at o -/
def StF (c : Nat → Nat → Int) (o : Nat) : Prop := (c o 0 = ((o + 1 : Nat) : Int) ∧ c o 1 = ((o + 2 : Nat) : Int) ∧ c o 2 = ((o + 3 : Nat) : Int) ∧ c o 3 = ((o + 6 : Nat) : Int) ∧ c o 4 = ((o + 7 : Nat) : Int) ∧ c o 5 = ((o + 8 : Nat) : Int) ∧ c o 6 = 0 ∧ c o 7 = 0) ∧ (c (o + 3) 0 = ((o + 4 : Nat) : Int) ∧ c (o + 3) 1 = ((o + 5 : Nat) : Int) ∧ (∀ k, c (o + 4) k = 0) ∧ c (o + 6) 0 = -1) ∧ (c (o + 7) 0 = 1 ∧ c (o + 7) 1 = 0 ∧ c (o + 7) 2 = 0 ∧ c (o + 7) 3 = 3 ∧ c (o + 7) 4 = 1) ∧ (c (o + 8) 0 = ((o + 9 : Nat) : Int) ∧ c (o + 8) 1 = 1 ∧ c (o + 8) 2 = 0) ∧ (∀ m, m < 4 → c (o + 1) m = ((o + 10 + 5 * m : Nat) : Int) ∧ (∀ j, j < 4 → c (o + 10 + 5 * m) j = ((o + 10 + 5 * m + 1 + j : Nat) : Int)) ∧ c (o + 10 + 5 * m) 6 = -1) ∧ ∀ k, k < 8 → c (o + 2) k = ((o + 30 + 2 * k : Nat) : Int) ∧ c (o + 30 + 2 * k) 0 = ((o + 30 + 2 * k + 1 : Nat) : Int)
theorem StF_of {c c' : Nat → Nat → Int} {o : Nat} (h : StF c o) (e : ∀ i k, i < o + 46 → o ≤ i → c' i k = c i k) : StF c' o := by
  obtain ⟨⟨a0, a1, a2, a3, a4, a5, a6, a7⟩, ⟨b0, b1, b2, b3⟩, ⟨l0, l1, l2, l3, l4⟩, ⟨r0, r1, r2⟩, hm, hk⟩ := h
  have E : ∀ i k, i < 46 → c' (o + i) k = c (o + i) k := fun i k hi => e _ _ (by omega) (by omega)
  have E0 : ∀ k, c' o k = c o k := fun k => e _ _ (by omega) (by omega)
  refine ⟨⟨by rw [E0]; exact a0, by rw [E0]; exact a1, by rw [E0]; exact a2, by rw [E0]; exact a3, by rw [E0]; exact a4, by rw [E0]; exact a5, by rw [E0]; exact a6, by rw [E0]; exact a7⟩, ⟨by rw [E 3 _ (by decide)]; exact b0, by rw [E 3 _ (by decide)]; exact b1, fun k => by rw [E 4 _ (by decide)]; exact b2 k, by rw [E 6 _ (by decide)]; exact b3⟩, ⟨by rw [E 7 _ (by decide)]; exact l0, by rw [E 7 _ (by decide)]; exact l1, by rw [E 7 _ (by decide)]; exact l2, by rw [E 7 _ (by decide)]; exact l3, by rw [E 7 _ (by decide)]; exact l4⟩, ⟨by rw [E 8 _ (by decide)]; exact r0, by rw [E 8 _ (by decide)]; exact r1, by rw [E 8 _ (by decide)]; exact r2⟩, fun m h => ?_, fun k h => ?_⟩
  · obtain ⟨x, y, z⟩ := hm m h
    exact ⟨by rw [E 1 _ (by decide)]; exact x, fun j hj => by rw [e _ _ (by omega) (by omega)]; exact y j hj, by rw [e _ _ (by omega) (by omega)]; exact z⟩
  · obtain ⟨x, y⟩ := hk k h
    exact ⟨by rw [E 2 _ (by decide)]; exact x, by rw [e _ _ (by omega) (by omega)]; exact y⟩
def StP (c : Nat → Nat → Int) (o : Nat) : Prop := (c o 0 = ((o + 1 : Nat) : Int) ∧ c o 1 = ((o + 2 : Nat) : Int) ∧ c o 2 = ((o + 3 : Nat) : Int) ∧ c o 3 = ((o + 6 : Nat) : Int) ∧ c o 4 = ((o + 7 : Nat) : Int) ∧ c o 5 = ((o + 8 : Nat) : Int) ∧ c o 6 = 0 ∧ c o 7 = 0) ∧ (c (o + 3) 0 = ((o + 4 : Nat) : Int) ∧ c (o + 3) 1 = ((o + 5 : Nat) : Int) ∧ (∀ k, c (o + 4) k = 0) ∧ c (o + 6) 0 = -1) ∧ (c (o + 7) 0 = 1 ∧ c (o + 7) 1 = 0 ∧ c (o + 7) 2 = 0 ∧ c (o + 7) 3 = 3 ∧ c (o + 7) 4 = 1) ∧ (c (o + 8) 0 = ((o + 9 : Nat) : Int) ∧ c (o + 8) 1 = 1 ∧ c (o + 8) 2 = 0)
set_option maxHeartbeats 4000000 in
theorem n112a (d : Nat) {s : List (Nat × Nat)} {c : Nat → Nat → Int} {o : Nat} (h0 : 0 < o) (h : s[o]? = some (10, 8)) (hl : s.length = o + 1) (z6 : c o 6 = 0) (z7 : c o 7 = 0) : ∃ c', Cd (d + 2) 112 [vA (o : Int)] (s, c) = Rr (Cd (d + 1)) 112 32 [some (vA (o : Int)), some (vI 0)] [] (s ++ [(103, 4)] ++ [(104, 8)] ++ [(9, 2)] ++ [(100, 20)] ++ [(100, 140)] ++ [(0, 3)] ++ [(3, 5)] ++ [(7, 3)] ++ [(100, 9)], c') ∧ (∀ i k, i < o → c' i k = c i k) ∧ StP c' o := by
  have za : ∃ ca, ca = u2 (mkC (u2 (mkC c (o + 1) 103) o 0 ((o + 1 : Nat) : Int)) (o + 2) 104) o 1 ((o + 2 : Nat) : Int) := ⟨_, rfl⟩
  obtain ⟨ca, za⟩ := za
  have fa : ∀ i k, i < o → ca i k = c i k := fun i k hi => by rw [za, u2_n (by omega), mkC_n (by omega), u2_n (by omega), mkC_n (by omega)]
  have fo : ∀ k, k ≠ 0 → k ≠ 1 → ca o k = c o k := fun k h1 h2 => by rw [za, u2_n (by omega), mkC_n (by omega), u2_n (by omega), mkC_n (by omega)]
  have a0 : ca o 0 = ((o + 1 : Nat) : Int) := by rw [za, u2_n (by omega), mkC_n (by omega), u2_e]
  have a1 : ca o 1 = ((o + 2 : Nat) : Int) := by rw [za, u2_e]
  -- sightings
  have l2 : (s ++ [(103, 4)] ++ [(104, 8)]).length = o + 3 := by simp only [List.length_append, List.length_cons, List.length_nil, hl]
  have hb : (s ++ [(103, 4)] ++ [(104, 8)] ++ [(9, 2)])[o + 3]? = some (9, 2) := at_e l2
  obtain ⟨cb, rb, fb, b0, b1, b2, -⟩ := n106 d (s := s ++ [(103, 4)] ++ [(104, 8)] ++ [(9, 2)]) (c := mkC ca (o + 3) 9) (o := o + 3) (by omega) hb (by rw [List.length_append, l2]; rfl)
  have l3 : (s ++ [(103, 4)] ++ [(104, 8)] ++ [(9, 2)] ++ [(100, 20)] ++ [(100, 140)]).length = o + 6 := by simp only [List.length_append, List.length_cons, List.length_nil, hl]
  -- boxes
  have hc : (s ++ [(103, 4)] ++ [(104, 8)] ++ [(9, 2)] ++ [(100, 20)] ++ [(100, 140)] ++ [(0, 3)])[o + 6]? = some (0, 3) := at_e l3
  obtain ⟨cc, rc, fc, c0', -⟩ := n0 d (s := s ++ [(103, 4)] ++ [(104, 8)] ++ [(9, 2)] ++ [(100, 20)] ++ [(100, 140)] ++ [(0, 3)]) (c := mkC (u2 cb o 2 ((o + 3 : Nat) : Int)) (o + 6) 0) (o := o + 6) (by omega) hc (by rw [List.length_append, l3]; rfl)
  have l4 : (s ++ [(103, 4)] ++ [(104, 8)] ++ [(9, 2)] ++ [(100, 20)] ++ [(100, 140)] ++ [(0, 3)]).length = o + 7 := by rw [List.length_append, l3]; rfl
  have hd : (s ++ [(103, 4)] ++ [(104, 8)] ++ [(9, 2)] ++ [(100, 20)] ++ [(100, 140)] ++ [(0, 3)] ++ [(3, 5)])[o + 7]? = some (3, 5) := at_e l4
  obtain ⟨cd, rd, fd, d0, d3, d4, dk⟩ := n34 d (s := s ++ [(103, 4)] ++ [(104, 8)] ++ [(9, 2)] ++ [(100, 20)] ++ [(100, 140)] ++ [(0, 3)] ++ [(3, 5)]) (c := mkC (u2 cc o 3 ((o + 6 : Nat) : Int)) (o + 7) 3) (o := o + 7) (by omega) hd (by rw [List.length_append, l4]; rfl)
  have l5 : (s ++ [(103, 4)] ++ [(104, 8)] ++ [(9, 2)] ++ [(100, 20)] ++ [(100, 140)] ++ [(0, 3)] ++ [(3, 5)]).length = o + 8 := by rw [List.length_append, l4]; rfl
  have he : (s ++ [(103, 4)] ++ [(104, 8)] ++ [(9, 2)] ++ [(100, 20)] ++ [(100, 140)] ++ [(0, 3)] ++ [(3, 5)] ++ [(7, 3)])[o + 8]? = some (7, 3) := at_e l5
  obtain ⟨ce, re, fe, e0, e1, ek, -⟩ := n90 d (s := s ++ [(103, 4)] ++ [(104, 8)] ++ [(9, 2)] ++ [(100, 20)] ++ [(100, 140)] ++ [(0, 3)] ++ [(3, 5)] ++ [(7, 3)]) (c := mkC (u2 cd o 4 ((o + 7 : Nat) : Int)) (o + 8) 7) (o := o + 8) (by omega) he (by rw [List.length_append, l5]; rfl)
  have l6 : (s ++ [(103, 4)] ++ [(104, 8)] ++ [(9, 2)] ++ [(100, 20)] ++ [(100, 140)] ++ [(0, 3)] ++ [(3, 5)] ++ [(7, 3)] ++ [(100, 9)]).length = o + 10 := by rw [List.length_append, List.length_append, l5]; rfl
  have zf : ∃ cf, cf = u2 ce o 5 ((o + 8 : Nat) : Int) := ⟨_, rfl⟩
  obtain ⟨cf, zf⟩ := zf
  have gE : ∀ i k, i < o + 8 → ¬ (i = o ∧ (k = 4 ∨ k = 5)) → cf i k = cd i k := fun i k hi hk => by rw [zf, u2_n (by omega), fe i k hi, mkC_n (by omega), u2_n (by omega)]
  have gD : ∀ i k, i < o + 7 → ¬ (i = o ∧ k = 3) → cd i k = cc i k := fun i k hi hk => by rw [fd i k hi, mkC_n (by omega), u2_n (by omega)]
  have gC : ∀ i k, i < o + 6 → ¬ (i = o ∧ k = 2) → cc i k = cb i k := fun i k hi hk => by rw [fc i k hi, mkC_n (by omega), u2_n (by omega)]
  have gB : ∀ i k, i < o + 3 → cb i k = ca i k := fun i k hi => by rw [fb i k hi, mkC_n (by omega)]
  have x0 : cf o 0 = ((o + 1 : Nat) : Int) := by rw [gE _ _ (by omega) (by omega), gD _ _ (by omega) (by omega), gC _ _ (by omega) (by omega), gB _ _ (by omega), a0]
  have x1 : cf o 1 = ((o + 2 : Nat) : Int) := by rw [gE _ _ (by omega) (by omega), gD _ _ (by omega) (by omega), gC _ _ (by omega) (by omega), gB _ _ (by omega), a1]
  have H1 : ∀ (q : Nat × Nat) (j : Nat), (s ++ [(103, 4)] ++ [(104, 8)])[j]? = some q → (s ++ [(103, 4)] ++ [(104, 8)] ++ [(9, 2)] ++ [(100, 20)] ++ [(100, 140)] ++ [(0, 3)] ++ [(3, 5)] ++ [(7, 3)] ++ [(100, 9)])[j]? = some q := fun q j hj => ap (ap (ap (ap (ap (ap (ap hj))))))
  have q0 := H1 _ _ (ap (ap h))
  refine ⟨cf, ?_, fun i k hi => ?_, ⟨⟨?_, ?_, ?_, ?_, ?_, ?_, ?_, ?_⟩, ⟨?_, ?_, fun k => ?_, ?_⟩, ⟨?_, ?_, ?_, ?_, ?_⟩, ⟨?_, ?_, ?_⟩⟩⟩
  · skip
    have L1 : (((s ++ [(103, 4)], u2 (mkC c s.length 103) o 0 ((s.length : Nat) : Int)) : HP).1.length : Int) = ((o + 2 : Nat) : Int) := by
      show (((s ++ [(103, 4)]).length : Nat) : Int) = _
      rw [List.length_append, hl]; rfl
    rw [c112 (hg := (gS_p s c o).trans h), if_pos ⟨by omega, by decide⟩, mk_p, pF_g (ap h) _ _ (by decide), bnd_s, mk_p, pF_g (ap (ap h)) _ _ (by decide), bnd_s]
    simp only [List.length_append, List.length_cons, List.length_nil, hl, Nat.zero_add]
    rw [show o + 1 + 1 = o + 2 by omega, ← za, mk_p]
    simp only [List.length_append, List.length_cons, List.length_nil, hl, Nat.zero_add]
    rw [show o + 1 + 1 + 1 = o + 3 by omega, rb, bnd_s, tV_m, bnd_s, pF_g (ap (ap (ap (ap (ap h))))) _ _ (by decide), bnd_s, mk_p]
    simp only [List.length_append, List.length_cons, List.length_nil, hl, Nat.zero_add]
    rw [show o + 1 + 1 + 1 + 1 + 1 + 1 = o + 6 by omega, rc, bnd_s, tV_m, bnd_s, pF_g (ap (ap (ap (ap (ap (ap h)))))) _ _ (by decide), bnd_s, mk_p]
    simp only [List.length_append, List.length_cons, List.length_nil, hl, Nat.zero_add]
    rw [show o + 1 + 1 + 1 + 1 + 1 + 1 + 1 = o + 7 by omega, rd, bnd_s, tV_m, bnd_s, pF_g (ap (ap (ap (ap (ap (ap (ap h))))))) _ _ (by decide), bnd_s, mk_p]
    simp only [List.length_append, List.length_cons, List.length_nil, hl, Nat.zero_add]
    rw [show o + 1 + 1 + 1 + 1 + 1 + 1 + 1 + 1 = o + 8 by omega, re, bnd_s, tV_m, bnd_s, pF_g q0 _ _ (by decide), bnd_s, ← zf]
  · rw [gE _ _ (by omega) (by omega), gD _ _ (by omega) (by omega), gC _ _ (by omega) (by omega), gB _ _ (by omega), fa i k hi]
  · exact x0
  · exact x1
  · rw [gE _ _ (by omega) (by omega), gD _ _ (by omega) (by omega), fc _ _ (by omega), mkC_n (by omega), u2_e]
  · rw [gE _ _ (by omega) (by omega), fd _ _ (by omega), mkC_n (by omega), u2_e]
  · rw [zf, u2_n (by omega), fe _ _ (by omega), mkC_n (by omega), u2_e]
  · rw [zf, u2_e]
  · rw [gE _ _ (by omega) (by omega), gD _ _ (by omega) (by omega), gC _ _ (by omega) (by omega), gB _ _ (by omega), fo 6 (by decide) (by decide), z6]
  · rw [gE _ _ (by omega) (by omega), gD _ _ (by omega) (by omega), gC _ _ (by omega) (by omega), gB _ _ (by omega), fo 7 (by decide) (by decide), z7]
  · rw [gE _ _ (by omega) (by omega), gD _ _ (by omega) (by omega), gC _ _ (by omega) (by omega), b0]
  · rw [gE _ _ (by omega) (by omega), gD _ _ (by omega) (by omega), gC _ _ (by omega) (by omega), b1]
  · rw [gE _ _ (by omega) (by omega), gD _ _ (by omega) (by omega), gC _ _ (by omega) (by omega), show o + 4 = o + 3 + 1 by omega, b2]
  · rw [gE _ _ (by omega) (by omega), gD _ _ (by omega) (by omega), c0']
  · rw [gE _ _ (by omega) (by omega), d0]
  · rw [gE _ _ (by omega) (by omega), dk 1 (by decide) (by decide) (by decide), mkC_e]; rfl
  · rw [gE _ _ (by omega) (by omega), dk 2 (by decide) (by decide) (by decide), mkC_e]; rfl
  · rw [gE _ _ (by omega) (by omega), d3]
  · rw [gE _ _ (by omega) (by omega), d4]
  · rw [zf, u2_n (by omega), e0]
  · rw [zf, u2_n (by omega), e1]
  · rw [zf, u2_n (by omega), ek 2 (by decide) (by decide), mkC_e]; rfl
theorem n112 (d : Nat) {s : List (Nat × Nat)} {c : Nat → Nat → Int} {o : Nat} (h0 : 0 < o) (h : s[o]? = some (10, 8)) (hl : s.length = o + 1) (z6 : c o 6 = 0) (z7 : c o 7 = 0) : ∃ c', Cd (d + 2) 112 [vA (o : Int)] (s, c) = some ([], (s ++ stShp.tail, c')) ∧ (∀ i k, i < o → c' i k = c i k) ∧ StF c' o := by
  obtain ⟨cf, r0, fr, hP⟩ := n112a d h0 h hl z6 z7
  have x0 := hP.1.1
  have x1 := hP.1.2.1
  have l6 : (s ++ [(103, 4)] ++ [(104, 8)] ++ [(9, 2)] ++ [(100, 20)] ++ [(100, 140)] ++ [(0, 3)] ++ [(3, 5)] ++ [(7, 3)] ++ [(100, 9)]).length = o + 10 := by simp only [List.length_append, List.length_cons, List.length_nil, hl]
  have H1 : ∀ (q : Nat × Nat) (j : Nat), (s ++ [(103, 4)] ++ [(104, 8)])[j]? = some q → (s ++ [(103, 4)] ++ [(104, 8)] ++ [(9, 2)] ++ [(100, 20)] ++ [(100, 140)] ++ [(0, 3)] ++ [(3, 5)] ++ [(7, 3)] ++ [(100, 9)])[j]? = some q := fun q j hj => ap (ap (ap (ap (ap (ap (ap hj))))))
  have q0 := H1 _ _ (ap (ap h))
  have q1 := H1 _ (o + 1) (ap (at_e (q := (103, 4)) hl))
  have q2 := H1 _ (o + 2) (at_e (q := (104, 8)) (by rw [List.length_append, hl]; rfl))
  obtain ⟨cg, rg, hg⟩ := n112_32 d (b := cf) h0 x0 4 0 (s ++ [(103, 4)] ++ [(104, 8)] ++ [(9, 2)] ++ [(100, 20)] ++ [(100, 140)] ++ [(0, 3)] ++ [(3, 5)] ++ [(7, 3)] ++ [(100, 9)]) cf (by omega) (by rw [l6]) q0 q1 ⟨fun _ _ _ _ => rfl, fun m' hm' => by omega⟩
  have y1 : cg o 1 = ((o + 2 : Nat) : Int) := by rw [hg.1 o 1 (by omega) (by omega)]; exact x1
  obtain ⟨ch, rh, hh⟩ := n112_48 d (b := cg) h0 y1 8 0 (s ++ [(103, 4)] ++ [(104, 8)] ++ [(9, 2)] ++ [(100, 20)] ++ [(100, 140)] ++ [(0, 3)] ++ [(3, 5)] ++ [(7, 3)] ++ [(100, 9)] ++ repB chB 4) cg (by omega) (by rw [List.length_append, l6]; show o + 10 + 20 = o + 30 + 2 * 0; omega) (ap q0) (ap q2) ⟨fun _ _ _ _ => rfl, fun m' hm' => by omega⟩
  have gG : ∀ i k, i < o + 10 → i ≠ o + 1 → i ≠ o + 2 → ch i k = cf i k := fun i k hi h1 h2 => by rw [hh.1 i k (by omega) h2, hg.1 i k hi h1]
  have sh1 : s ++ stShp.tail = s ++ [(103, 4)] ++ [(104, 8)] ++ [(9, 2)] ++ [(100, 20)] ++ [(100, 140)] ++ [(0, 3)] ++ [(3, 5)] ++ [(7, 3)] ++ [(100, 9)] ++ repB chB 4 ++ repB shB 8 := by
    simp [stShp, repB, chB, shB]
  have rg' : Rr (Cd (d + 1)) 112 32 [some (vA (o : Int)), some (vI 0)] [] (s ++ [(103, 4)] ++ [(104, 8)] ++ [(9, 2)] ++ [(100, 20)] ++ [(100, 140)] ++ [(0, 3)] ++ [(3, 5)] ++ [(7, 3)] ++ [(100, 9)], cf) = _ := rg
  have rh' : Rr (Cd (d + 1)) 112 48 [some (vA (o : Int)), some (vI 0)] [] (s ++ [(103, 4)] ++ [(104, 8)] ++ [(9, 2)] ++ [(100, 20)] ++ [(100, 140)] ++ [(0, 3)] ++ [(3, 5)] ++ [(7, 3)] ++ [(100, 9)] ++ repB chB 4, cg) = _ := rh
  obtain ⟨⟨p0, p1, p2, p3, p4, p5, p6, p7⟩, ⟨b0, b1, b2, b3⟩, ⟨e0, e1, e2, e3, e4⟩, ⟨f0, f1, f2⟩⟩ := hP
  have gO : ∀ k, ch o k = cf o k := fun k => gG _ _ (by omega) (by omega) (by omega)
  have g3 : ∀ k, ch (o + 3) k = cf (o + 3) k := fun k => gG _ _ (by omega) (by omega) (by omega)
  have g4 : ∀ k, ch (o + 4) k = cf (o + 4) k := fun k => gG _ _ (by omega) (by omega) (by omega)
  have g6 : ∀ k, ch (o + 6) k = cf (o + 6) k := fun k => gG _ _ (by omega) (by omega) (by omega)
  have g7 : ∀ k, ch (o + 7) k = cf (o + 7) k := fun k => gG _ _ (by omega) (by omega) (by omega)
  have g8 : ∀ k, ch (o + 8) k = cf (o + 8) k := fun k => gG _ _ (by omega) (by omega) (by omega)
  refine ⟨ch, by rw [r0, rg', rh', sh1], fun i k hi => by rw [gG i k (by omega) (by omega) (by omega), fr i k hi], ⟨by rw [gO]; exact p0, by rw [gO]; exact p1, by rw [gO]; exact p2, by rw [gO]; exact p3, by rw [gO]; exact p4, by rw [gO]; exact p5, by rw [gO]; exact p6, by rw [gO]; exact p7⟩, ⟨by rw [g3]; exact b0, by rw [g3]; exact b1, fun k => by rw [g4]; exact b2 k, by rw [g6]; exact b3⟩, ⟨by rw [g7]; exact e0, by rw [g7]; exact e1, by rw [g7]; exact e2, by rw [g7]; exact e3, by rw [g7]; exact e4⟩, ⟨by rw [g8]; exact f0, by rw [g8]; exact f1, by rw [g8]; exact f2⟩, fun m hm => ?_, fun k hk => hh.2 k hk⟩
  · obtain ⟨u1, u2', u3⟩ := hg.2 m hm
    exact ⟨by rw [hh.1 _ _ (by omega) (by omega)]; exact u1, fun j hj => by rw [hh.1 _ _ (by omega) (by omega)]; exact u2' j hj, by rw [hh.1 _ _ (by omega) (by omega)]; exact u3⟩
