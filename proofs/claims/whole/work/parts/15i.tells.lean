/-! tells: what is as likely -/
def cmL : List Int := [0, 1, 2, 3, 4, 5, 1, 0, 5, 4, 3, 2, 2, 4, 3, 0, 5, 1, 3, 5, 0, 2, 1, 4, 4, 2, 1, 5, 0, 3, 5, 3, 4, 1, 2, 0]
def cmS (s t : Int) : Int := cmL.getD (6 * s + t).toNat 0
theorem cmS_ok : ((List.range 6).all fun s => (List.range 6).all fun t => decide (0 ≤ cmS (s : Nat) (t : Nat)) && decide (cmS (s : Nat) (t : Nat) < 6) && (List.range 3).all fun p => swp (t : Nat) (swp (s : Nat) (p : Nat)) == swp (cmS (s : Nat) (t : Nat)) (p : Nat)) = true := by decide +kernel
theorem cmS_e {s t p : Int} (s0 : 0 ≤ s) (s1 : s < 6) (t0 : 0 ≤ t) (t1 : t < 6) (p0 : 0 ≤ p) (p1 : p < 3) : swp t (swp s p) = swp (cmS s t) p := by
  have := List.all_eq_true.mp cmS_ok s.toNat (List.mem_range.mpr (by omega))
  have := List.all_eq_true.mp this t.toNat (List.mem_range.mpr (by omega))
  simp only [Bool.and_eq_true] at this
  have := List.all_eq_true.mp this.2 p.toNat (List.mem_range.mpr (by omega))
  rw [Int.toNat_of_nonneg s0, Int.toNat_of_nonneg t0, Int.toNat_of_nonneg p0] at this
  exact beq_iff_eq.mp this
theorem reix (f : Int → Int) {w u : Int} (hw : w = 1 ∨ w = 2 ∨ w = 3 ∨ w = 6) (u0 : 0 ≤ u) (u1 : u < w) : sumU (fun v => f (cmS (drS w u) (drS w v))) w.toNat 0 = sumU (fun v => f (drS w v)) w.toNat 0 := by
  rcases hw with e | e | e | e <;> subst e
  · have : u = 0 := by omega
    subst this; rfl
  · have h : u = 0 ∨ u = 1 := by omega
    rcases h with e | e <;> subst e
    · show f 0 + (f 1 + 0) = f 0 + (f 1 + 0); omega
    · show f 1 + (f 0 + 0) = f 0 + (f 1 + 0); omega
  · have h : u = 0 ∨ u = 1 ∨ u = 2 := by omega
    rcases h with e | e | e <;> subst e
    · show f 0 + (f 2 + (f 3 + 0)) = f 0 + (f 2 + (f 3 + 0)); omega
    · show f 2 + (f 3 + (f 0 + 0)) = f 0 + (f 2 + (f 3 + 0)); omega
    · show f 3 + (f 0 + (f 2 + 0)) = f 0 + (f 2 + (f 3 + 0)); omega
  · have h : u = 0 ∨ u = 1 ∨ u = 2 ∨ u = 3 ∨ u = 4 ∨ u = 5 := by omega
    rcases h with e | e | e | e | e | e <;> subst e
    · show f 0 + (f 1 + (f 2 + (f 3 + (f 4 + (f 5 + 0))))) = f 0 + (f 1 + (f 2 + (f 3 + (f 4 + (f 5 + 0))))); omega
    · show f 1 + (f 0 + (f 5 + (f 4 + (f 3 + (f 2 + 0))))) = f 0 + (f 1 + (f 2 + (f 3 + (f 4 + (f 5 + 0))))); omega
    · show f 2 + (f 4 + (f 3 + (f 0 + (f 5 + (f 1 + 0))))) = f 0 + (f 1 + (f 2 + (f 3 + (f 4 + (f 5 + 0))))); omega
    · show f 3 + (f 5 + (f 0 + (f 2 + (f 1 + (f 4 + 0))))) = f 0 + (f 1 + (f 2 + (f 3 + (f 4 + (f 5 + 0))))); omega
    · show f 4 + (f 2 + (f 1 + (f 5 + (f 0 + (f 3 + 0))))) = f 0 + (f 1 + (f 2 + (f 3 + (f 4 + (f 5 + 0))))); omega
    · show f 5 + (f 3 + (f 4 + (f 1 + (f 2 + (f 0 + 0))))) = f 0 + (f 1 + (f 2 + (f 3 + (f 4 + (f 5 + 0))))); omega
def meet (w : Int) (E E' : Int → Int) : Prop := ∃ u u', (0 ≤ u ∧ u < w) ∧ (0 ≤ u' ∧ u' < w) ∧ E (drS w u) = E' (drS w u')
def ActG (g : Int → Int → Int) (w : Int) (E : Int → Int) : Prop := ∀ u v, 0 ≤ u → u < w → 0 ≤ v → v < w → E (cmS (drS w u) (drS w v)) = g (E (drS w u)) (drS w v)
theorem hist_of {w : Int} (hw : w = 1 ∨ w = 2 ∨ w = 3 ∨ w = 6) {E E' : Int → Int} {g : Int → Int → Int} (hE : ActG g w E) (hE' : ActG g w E') (h : meet w E E') (F : Int → Int) : sumU (fun v => F (E (drS w v))) w.toNat 0 = sumU (fun v => F (E' (drS w v))) w.toNat 0 := by
  obtain ⟨u, u', hu, hu', e⟩ := h
  rw [← reix (fun t => F (E t)) hw hu.1 hu.2, ← reix (fun t => F (E' t)) hw hu'.1 hu'.2]
  refine sumU_cg _ _ (fun v v0 v1 => ?_)
  show F (E (cmS (drS w u) (drS w v))) = F (E' (cmS (drS w u') (drS w v)))
  rw [hE u v hu.1 hu.2 v0 (by omega), hE' u' v hu'.1 hu'.2 v0 (by omega), e]
theorem sumU_pos {f : Int → Int} : ∀ (n : Nat) (j : Int), 0 < sumU f n j → ∃ i, j ≤ i ∧ i < j + n ∧ 0 < f i
  | 0, j, h => by simp only [sumU] at h; omega
  | n + 1, j, h => by
    simp only [sumU] at h
    by_cases g : 0 < f j
    · exact ⟨j, by omega, by omega, g⟩
    · obtain ⟨i, h1, h2, h3⟩ := sumU_pos (f := f) n (j + 1) (by omega)
      exact ⟨i, by omega, by omega, h3⟩
theorem b2i_p {p : Prop} {hd : Decidable p} (h : 0 < b2i (decide p)) : p := by
  by_cases g : p
  · exact g
  · rw [decide_eq_false g] at h; simp [b2i] at h
theorem sumU_h {f : Int → Int} {n : Nat} (hn : 0 < n) (h : ∀ i, 0 ≤ f i) (h0 : 1 ≤ f 0) : 0 < sumU f n 0 := by
  match n, hn with
  | n + 1, _ =>
    have := sumU_ge (f := fun _ => 0) (g := f) n (0 + 1) (fun i _ _ => h i)
    rw [sumU_0] at this
    simp only [sumU]
    omega
theorem meet_of {w : Int} (hw : w = 1 ∨ w = 2 ∨ w = 3 ∨ w = 6) {E E' : Int → Int} (h : sumU (fun v => b2i (decide (E (drS w v) = E (drS w 0)))) w.toNat 0 = sumU (fun v => b2i (decide (E' (drS w v) = E (drS w 0)))) w.toNat 0) : meet w E E' := by
  have := sumU_h (f := fun v => b2i (decide (E (drS w v) = E (drS w 0)))) (n := w.toNat) (by omega) (fun i => (b2i_b _).1) (by show 1 ≤ b2i (decide (E (drS w 0) = E (drS w 0))); rw [decide_eq_true rfl]; decide)
  rw [h] at this
  obtain ⟨i, i0, i1, hi⟩ := sumU_pos _ _ this
  exact ⟨0, i, ⟨by omega, by omega⟩, ⟨i0, by omega⟩, (b2i_p hi).symm⟩
def md (p s : Int) : Int := 9 * swO (p / 9) s + swO (p % 9) s
/-- the lowest two openings that the drawn swaps make of two -/
def lwS (w p : Int) : Nat → Int → Int → Int
  | 0, _, a => a
  | n + 1, s, a => lwS w p n (s + 1) (if bt (drw w) s then (if md p s < a then md p s else a) else a)
def lw (w p : Int) : Int := lwS w p 6 0 81
def lwOk (w : Nat) : Bool := (List.range 81).all fun p => ((List.range w).any fun u => lw w p == md p (drS w u)) && (List.range w).all fun u => lw w (md p (drS w u)) == lw w p
theorem lwOk_1 : lwOk 1 = true := by decide +kernel
theorem lwOk_2 : lwOk 2 = true := by decide +kernel
theorem lwOk_3 : lwOk 3 = true := by decide +kernel
theorem lwOk_6 : lwOk 6 = true := by decide +kernel
theorem lw_ok {w p : Int} (hw : w = 1 ∨ w = 2 ∨ w = 3 ∨ w = 6) (p0 : 0 ≤ p) (p1 : p < 81) : (∃ u, 0 ≤ u ∧ u < w ∧ lw w p = md p (drS w u)) ∧ ∀ u, 0 ≤ u → u < w → lw w (md p (drS w u)) = lw w p := by
  have h : lwOk w.toNat = true := by
    rcases hw with e | e | e | e <;> subst e
    · exact lwOk_1
    · exact lwOk_2
    · exact lwOk_3
    · exact lwOk_6
  have ew : ((w.toNat : Nat) : Int) = w := by omega
  have := List.all_eq_true.mp h p.toNat (List.mem_range.mpr (by omega))
  rw [Int.toNat_of_nonneg p0, ew] at this
  simp only [Bool.and_eq_true] at this
  obtain ⟨a, b⟩ := this
  refine ⟨?_, fun u u0 u1 => ?_⟩
  · obtain ⟨u, hu, e⟩ := List.any_eq_true.mp a
    exact ⟨u, by omega, by have := List.mem_range.mp hu; omega, beq_iff_eq.mp e⟩
  · have := List.all_eq_true.mp b u.toNat (List.mem_range.mpr (by omega))
    rw [Int.toNat_of_nonneg u0] at this
    exact beq_iff_eq.mp this
theorem lw_meet {w p p' : Int} (hw : w = 1 ∨ w = 2 ∨ w = 3 ∨ w = 6) (p0 : 0 ≤ p) (p1 : p < 81) (q0 : 0 ≤ p') (q1 : p' < 81) : lw w p = lw w p' ↔ meet w (md p) (md p') := by
  have a := lw_ok hw p0 p1
  have b := lw_ok hw q0 q1
  constructor
  · intro h
    obtain ⟨u, u0, u1, e⟩ := a.1
    obtain ⟨u', v0, v1, e'⟩ := b.1
    exact ⟨u, u', ⟨u0, u1⟩, ⟨v0, v1⟩, by rw [← e, ← e', h]⟩
  · rintro ⟨u, u', hu, hu', e⟩
    rw [← a.2 u hu.1 hu.2, ← b.2 u' hu'.1 hu'.2, e]
/-- an opening, swapped -/
def oE (P Q : Int) (v : Int) : Int := 3 * swp v P + swp v Q
def b3 (P : Int) : Prop := 0 ≤ P ∧ P < 3
theorem oE_b {P Q v : Int} (hP : b3 P) (hQ : b3 Q) (v0 : 0 ≤ v) (v1 : v < 6) : 0 ≤ oE P Q v ∧ oE P Q v < 9 := by
  have a := swp_bd v0 v1 hP.1 hP.2
  have b := swp_bd v0 v1 hQ.1 hQ.2
  unfold oE; omega
theorem oE_sw {P Q : Int} (hP : b3 P) (hQ : b3 Q) (v : Int) : swO (3 * P + Q) v = oE P Q v := by
  unfold swO oE
  obtain ⟨h1, h2⟩ := hP
  obtain ⟨h3, h4⟩ := hQ
  rw [show (3 * P + Q) / 3 = P by omega, show (3 * P + Q) % 3 = Q by omega, Int.mul_comm]
theorem oE_cm {P Q s t : Int} (hP : b3 P) (hQ : b3 Q) (s0 : 0 ≤ s) (s1 : s < 6) (t0 : 0 ≤ t) (t1 : t < 6) : oE P Q (cmS s t) = swO (oE P Q s) t := by
  have a := swp_bd s0 s1 hP.1 hP.2
  have b := swp_bd s0 s1 hQ.1 hQ.2
  show _ = swO (3 * swp s P + swp s Q) t
  rw [oE_sw a b]
  unfold oE
  rw [cmS_e s0 s1 t0 t1 hP.1 hP.2, cmS_e s0 s1 t0 t1 hQ.1 hQ.2]
theorem oE_act {P Q w : Int} (hP : b3 P) (hQ : b3 Q) (hw : w = 1 ∨ w = 2 ∨ w = 3 ∨ w = 6) : ActG swO w (oE P Q) := fun u v u0 u1 v0 v1 => by
  have a := drS_b hw u0 u1
  have b := drS_b hw v0 v1
  exact oE_cm hP hQ a.1 a.2 b.1 b.2
theorem md_e {P Q P' Q' : Int} (hP : b3 P) (hQ : b3 Q) (hP' : b3 P') (hQ' : b3 Q') (v : Int) : md (9 * (3 * P + Q) + (3 * P' + Q')) v = 9 * oE P Q v + oE P' Q' v := by
  obtain ⟨h1, h2⟩ := id hP
  obtain ⟨h3, h4⟩ := id hQ
  obtain ⟨h5, h6⟩ := id hP'
  obtain ⟨h7, h8⟩ := id hQ'
  unfold md
  rw [show (9 * (3 * P + Q) + (3 * P' + Q')) / 9 = 3 * P + Q by omega, show (9 * (3 * P + Q) + (3 * P' + Q')) % 9 = 3 * P' + Q' by omega, oE_sw hP hQ, oE_sw hP' hQ']
theorem two_act {P Q P' Q' w : Int} (hP : b3 P) (hQ : b3 Q) (hP' : b3 P') (hQ' : b3 Q') (hw : w = 1 ∨ w = 2 ∨ w = 3 ∨ w = 6) : ActG md w (fun v => 9 * oE P Q v + oE P' Q' v) := fun u v u0 u1 v0 v1 => by
  have a := drS_b hw u0 u1
  have b := drS_b hw v0 v1
  have c1 := oE_b hP hQ a.1 a.2
  have c2 := oE_b hP' hQ' a.1 a.2
  show 9 * oE P Q (cmS (drS w u) (drS w v)) + oE P' Q' (cmS (drS w u) (drS w v)) = md (9 * oE P Q (drS w u) + oE P' Q' (drS w u)) (drS w v)
  rw [oE_cm hP hQ a.1 a.2 b.1 b.2, oE_cm hP' hQ' a.1 a.2 b.1 b.2]
  unfold md
  rw [show (9 * oE P Q (drS w u) + oE P' Q' (drS w u)) / 9 = oE P Q (drS w u) by omega, show (9 * oE P Q (drS w u) + oE P' Q' (drS w u)) % 9 = oE P' Q' (drS w u) by omega]
theorem meet_cg {w : Int} {E E' F F' : Int → Int} (h : ∀ s, E s = F s) (h' : ∀ s, E' s = F' s) : meet w E E' ↔ meet w F F' := by
  have e : E = F := funext h
  have e' : E' = F' := funext h'
  rw [e, e']
/-- one asking's histograms are alike just if the lowest are -/
theorem tl_1 {P Q X Y w : Int} (hP : b3 P) (hQ : b3 Q) (hX : b3 X) (hY : b3 Y) (hw : w = 1 ∨ w = 2 ∨ w = 3 ∨ w = 6) : anyU (fun x => decide (sumU (fun v => b2i (decide (oE P Q (drS w v) = x))) w.toNat 0 ≠ sumU (fun v => b2i (decide (oE X Y (drS w v) = x))) w.toNat 0)) 81 0 = decide (lw w (9 * (3 * P + Q) + (3 * P + Q)) ≠ lw w (9 * (3 * X + Y) + (3 * X + Y))) := by
  obtain ⟨h1, h2⟩ := id hP
  obtain ⟨h3, h4⟩ := id hQ
  obtain ⟨h5, h6⟩ := id hX
  obtain ⟨h7, h8⟩ := id hY
  have hm : lw w (9 * (3 * P + Q) + (3 * P + Q)) = lw w (9 * (3 * X + Y) + (3 * X + Y)) ↔ meet w (oE P Q) (oE X Y) := by
    rw [lw_meet hw (by omega) (by omega) (by omega) (by omega)]
    rw [meet_cg (md_e hP hQ hP hQ) (md_e hX hY hX hY)]
    constructor
    · rintro ⟨u, u', hu, hu', e⟩
      have e : 9 * oE P Q (drS w u) + oE P Q (drS w u) = 9 * oE X Y (drS w u') + oE X Y (drS w u') := e
      exact ⟨u, u', hu, hu', by omega⟩
    · rintro ⟨u, u', hu, hu', e⟩
      exact ⟨u, u', hu, hu', by show 9 * oE P Q (drS w u) + oE P Q (drS w u) = 9 * oE X Y (drS w u') + oE X Y (drS w u'); omega⟩
  by_cases g : meet w (oE P Q) (oE X Y)
  · rw [decide_eq_false (show ¬ (lw w (9 * (3 * P + Q) + (3 * P + Q)) ≠ lw w (9 * (3 * X + Y) + (3 * X + Y))) from fun z => z (hm.mpr g))]
    refine Bool.eq_false_iff.mpr (fun w' => ?_)
    obtain ⟨x, -, -, hx⟩ := (anyU_t _ _).mp w'
    exact of_decide_eq_true hx (hist_of hw (oE_act hP hQ hw) (oE_act hX hY hw) g (fun y => b2i (decide (y = x))))
  · rw [decide_eq_true (show lw w (9 * (3 * P + Q) + (3 * P + Q)) ≠ lw w (9 * (3 * X + Y) + (3 * X + Y)) from fun z => g (hm.mp z))]
    have d0 := drS_b hw (show (0 : Int) ≤ 0 by decide) (by omega)
    have ob := oE_b hP hQ d0.1 d0.2
    exact (anyU_t _ _).mpr ⟨oE P Q (drS w 0), by omega, by omega, decide_eq_true (fun z => g (meet_of (E := oE P Q) (E' := oE X Y) hw z))⟩
theorem tl_2 {P Q R S X Y Z V w : Int} (hP : b3 P) (hQ : b3 Q) (hR : b3 R) (hS : b3 S) (hX : b3 X) (hY : b3 Y) (hZ : b3 Z) (hV : b3 V) (hw : w = 1 ∨ w = 2 ∨ w = 3 ∨ w = 6) : anyU (fun x => decide (sumU (fun v => b2i (decide (9 * oE P Q (drS w v) + oE R S (drS w v) = x))) w.toNat 0 ≠ sumU (fun v => b2i (decide (9 * oE X Y (drS w v) + oE Z V (drS w v) = x))) w.toNat 0)) 81 0 = decide (lw w (9 * (3 * P + Q) + (3 * R + S)) ≠ lw w (9 * (3 * X + Y) + (3 * Z + V))) := by
  have hm : lw w (9 * (3 * P + Q) + (3 * R + S)) = lw w (9 * (3 * X + Y) + (3 * Z + V)) ↔ meet w (fun v => 9 * oE P Q v + oE R S v) (fun v => 9 * oE X Y v + oE Z V v) := by
    obtain ⟨h1, h2⟩ := id hP
    obtain ⟨h3, h4⟩ := id hQ
    obtain ⟨h5, h6⟩ := id hX
    obtain ⟨h7, h8⟩ := id hY
    obtain ⟨g1, g2⟩ := id hR
    obtain ⟨g3, g4⟩ := id hS
    obtain ⟨g5, g6⟩ := id hZ
    obtain ⟨g7, g8⟩ := id hV
    rw [lw_meet hw (by omega) (by omega) (by omega) (by omega)]
    rw [meet_cg (md_e hP hQ hR hS) (md_e hX hY hZ hV)]
  by_cases g : meet w (fun v => 9 * oE P Q v + oE R S v) (fun v => 9 * oE X Y v + oE Z V v)
  · rw [decide_eq_false (show ¬ (lw w (9 * (3 * P + Q) + (3 * R + S)) ≠ lw w (9 * (3 * X + Y) + (3 * Z + V))) from fun z => z (hm.mpr g))]
    refine Bool.eq_false_iff.mpr (fun w' => ?_)
    obtain ⟨x, -, -, hx⟩ := (anyU_t _ _).mp w'
    exact of_decide_eq_true hx (hist_of hw (two_act hP hQ hR hS hw) (two_act hX hY hZ hV hw) g (fun y => b2i (decide (y = x))))
  · rw [decide_eq_true (show lw w (9 * (3 * P + Q) + (3 * R + S)) ≠ lw w (9 * (3 * X + Y) + (3 * Z + V)) from fun z => g (hm.mp z))]
    have d0 := drS_b hw (show (0 : Int) ≤ 0 by decide) (by omega)
    have ob := oE_b hP hQ d0.1 d0.2
    have oc := oE_b hR hS d0.1 d0.2
    exact (anyU_t _ _).mpr ⟨9 * oE P Q (drS w 0) + oE R S (drS w 0), by omega, by omega, decide_eq_true (fun z => g (meet_of (E := fun v => 9 * oE P Q v + oE R S v) (E' := fun v => 9 * oE X Y v + oE Z V v) hw z))⟩
theorem tl_3 {P Q R S X Y Z V w : Int} (hP : b3 P) (hQ : b3 Q) (hR : b3 R) (hS : b3 S) (hX : b3 X) (hY : b3 Y) (hZ : b3 Z) (hV : b3 V) (hw : w = 1 ∨ w = 2 ∨ w = 3 ∨ w = 6) : anyU (fun x => decide (sumU (fun v => sumU (fun v' => b2i (decide (9 * oE P Q (drS w v) + oE R S (drS w v') = x))) w.toNat 0) w.toNat 0 ≠ sumU (fun v => sumU (fun v' => b2i (decide (9 * oE X Y (drS w v) + oE Z V (drS w v') = x))) w.toNat 0) w.toNat 0)) 81 0 = (decide (lw w (9 * (3 * P + Q) + (3 * P + Q)) ≠ lw w (9 * (3 * X + Y) + (3 * X + Y))) || decide (lw w (9 * (3 * R + S) + (3 * R + S)) ≠ lw w (9 * (3 * Z + V) + (3 * Z + V)))) := by
  have hm : ∀ {P Q X Y : Int}, b3 P → b3 Q → b3 X → b3 Y → (lw w (9 * (3 * P + Q) + (3 * P + Q)) = lw w (9 * (3 * X + Y) + (3 * X + Y)) ↔ meet w (oE P Q) (oE X Y)) := fun {P Q X Y} hP hQ hX hY => by
    obtain ⟨h1, h2⟩ := id hP
    obtain ⟨h3, h4⟩ := id hQ
    obtain ⟨h5, h6⟩ := id hX
    obtain ⟨h7, h8⟩ := id hY
    rw [lw_meet hw (by omega) (by omega) (by omega) (by omega)]
    rw [meet_cg (md_e hP hQ hP hQ) (md_e hX hY hX hY)]
    constructor
    · rintro ⟨u, u', hu, hu', e⟩
      have e : 9 * oE P Q (drS w u) + oE P Q (drS w u) = 9 * oE X Y (drS w u') + oE X Y (drS w u') := e
      exact ⟨u, u', hu, hu', by omega⟩
    · rintro ⟨u, u', hu, hu', e⟩
      exact ⟨u, u', hu, hu', by show 9 * oE P Q (drS w u) + oE P Q (drS w u) = 9 * oE X Y (drS w u') + oE X Y (drS w u'); omega⟩
  by_cases g : meet w (oE P Q) (oE X Y) ∧ meet w (oE R S) (oE Z V)
  · rw [decide_eq_false (show ¬ (lw w (9 * (3 * P + Q) + (3 * P + Q)) ≠ lw w (9 * (3 * X + Y) + (3 * X + Y))) from fun z => z ((hm hP hQ hX hY).mpr g.1)), decide_eq_false (show ¬ (lw w (9 * (3 * R + S) + (3 * R + S)) ≠ lw w (9 * (3 * Z + V) + (3 * Z + V))) from fun z => z ((hm hR hS hZ hV).mpr g.2))]
    refine Bool.eq_false_iff.mpr (fun w' => ?_)
    obtain ⟨x, -, -, hx⟩ := (anyU_t _ _).mp w'
    refine of_decide_eq_true hx ?_
    rw [sumU_cg (g := fun v => sumU (fun v' => b2i (decide (9 * oE P Q (drS w v) + oE Z V (drS w v') = x))) w.toNat 0) w.toNat 0 (fun v _ _ => hist_of hw (oE_act hR hS hw) (oE_act hZ hV hw) g.2 (fun y => b2i (decide (9 * oE P Q (drS w v) + y = x))))]
    exact hist_of hw (oE_act hP hQ hw) (oE_act hX hY hw) g.1 (fun y => sumU (fun v' => b2i (decide (9 * y + oE Z V (drS w v') = x))) w.toNat 0)
  · have e : (decide (lw w (9 * (3 * P + Q) + (3 * P + Q)) ≠ lw w (9 * (3 * X + Y) + (3 * X + Y))) || decide (lw w (9 * (3 * R + S) + (3 * R + S)) ≠ lw w (9 * (3 * Z + V) + (3 * Z + V)))) = true := by
      rw [Bool.or_eq_true, decide_eq_true_eq, decide_eq_true_eq]
      by_cases q : meet w (oE P Q) (oE X Y)
      · exact Or.inr (fun z => g ⟨q, (hm hR hS hZ hV).mp z⟩)
      · exact Or.inl (fun z => q ((hm hP hQ hX hY).mp z))
    rw [e]
    have d0 := drS_b hw (show (0 : Int) ≤ 0 by decide) (by omega)
    have ob := oE_b hP hQ d0.1 d0.2
    have oc := oE_b hR hS d0.1 d0.2
    refine (anyU_t _ _).mpr ⟨9 * oE P Q (drS w 0) + oE R S (drS w 0), by omega, by omega, decide_eq_true (fun z => g ?_)⟩
    have w0 : 0 < w.toNat := by omega
    have nn : ∀ (F : Int → Int → Prop) (hd : ∀ v v', Decidable (F v v')) (i : Int), 0 ≤ sumU (fun v' => b2i (decide (F i v'))) w.toNat 0 := fun F hd i => (sumU_b (B := 1) _ _ _ (fun _ _ _ => b2i_b _)).1
    have h1 : 0 < sumU (fun v => sumU (fun v' => b2i (decide (9 * oE P Q (drS w v) + oE R S (drS w v') = 9 * oE P Q (drS w 0) + oE R S (drS w 0)))) w.toNat 0) w.toNat 0 := by
      refine sumU_h w0 (fun i => nn (fun v v' => 9 * oE P Q (drS w v) + oE R S (drS w v') = 9 * oE P Q (drS w 0) + oE R S (drS w 0)) _ i) ?_
      have := sumU_h (f := fun v' => b2i (decide (9 * oE P Q (drS w 0) + oE R S (drS w v') = 9 * oE P Q (drS w 0) + oE R S (drS w 0)))) w0 (fun i => (b2i_b _).1) (by show 1 ≤ b2i (decide (9 * oE P Q (drS w 0) + oE R S (drS w 0) = 9 * oE P Q (drS w 0) + oE R S (drS w 0))); rw [decide_eq_true rfl]; decide)
      exact this
    rw [z] at h1
    obtain ⟨i, i0, i1, hi⟩ := sumU_pos _ _ h1
    obtain ⟨j, j0, j1, hj⟩ := sumU_pos _ _ hi
    have hj := b2i_p hj
    have di := drS_b hw i0 (by omega)
    have dj := drS_b hw j0 (by omega)
    have o1 := oE_b hX hY di.1 di.2
    have o2 := oE_b hZ hV dj.1 dj.2
    exact ⟨⟨0, i, ⟨by omega, by omega⟩, ⟨i0, by omega⟩, by omega⟩, ⟨0, j, ⟨by omega, by omega⟩, ⟨j0, by omega⟩, by omega⟩⟩
