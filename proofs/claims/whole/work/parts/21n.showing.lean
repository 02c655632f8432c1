/-! showing: class and reference -/
theorem k69_0 {s : List (Nat × Nat)} {c : Nat → Nat → Int} {T : Int → Int} {n : Int} (hs : SpL s) (hx : Xt c) (hc : CS c) (hT : TpC T n c) : ∃ c2 K, Cd 998 69 [vA 122] (s, c) = Rr (Cd 997) 69 25 [some (vA 122), some (vI 0)] [] (s, c2) ∧ BC T n K c2 0 [] 0 1 0 0 ∧ ∀ o j, ¬ (o = 122 ∧ 6 ≤ j ∧ j ≤ 13) → ¬ (o = 127 ∧ j = 3) → ¬ (124 ≤ o ∧ o ≤ 126) → c2 o j = c o j := by
  have hn := hT.1
  obtain ⟨ca, hca⟩ : ∃ ca, ca = u2 (u2 (u2 (u2 (u2 (u2 (u2 c 122 6 0) 122 7 (-1)) 122 10 0) 122 11 1) 122 13 0) 122 12 0) 127 3 0 := ⟨_, rfl⟩
  have ea : ∀ o j, ¬ (o = 122 ∧ 6 ≤ j ∧ j ≤ 13) → ¬ (o = 127 ∧ j = 3) → ca o j = c o j := fun o j g1 g2 => by
    rw [hca, u2_n (by omega), u2_n (by omega), u2_n (by omega), u2_n (by omega), u2_n (by omega), u2_n (by omega), u2_n (by omega)]
  have a6 : ca 122 6 = 0 := by rw [hca]; repeat (first | rw [u2_e] | rw [u2_n (by omega)])
  have a7 : ca 122 7 = -1 := by rw [hca]; repeat (first | rw [u2_e] | rw [u2_n (by omega)])
  have a10 : ca 122 10 = 0 := by rw [hca]; repeat (first | rw [u2_e] | rw [u2_n (by omega)])
  have a11 : ca 122 11 = 1 := by rw [hca]; repeat (first | rw [u2_e] | rw [u2_n (by omega)])
  have a12 : ca 122 12 = 0 := by rw [hca]; repeat (first | rw [u2_e] | rw [u2_n (by omega)])
  have a13 : ca 122 13 = 0 := by rw [hca]; repeat (first | rw [u2_e] | rw [u2_n (by omega)])
  have a3 : ca 127 3 = 0 := by rw [hca, u2_e]
  have hTa : TpC T n ca := ⟨⟨(ea 122 0 (by omega) (by omega)).trans hn.1, (ea 122 5 (by omega) (by omega)).trans hn.2.1, hn.2.2⟩, fun i g0 g1 => by rw [ea 123 _ (by omega) (by omega)]; exact hT.2 i g0 g1⟩
  have hRa : RdC ca := ⟨(ea _ _ (by omega) (by omega)).trans (CS_122_1 hc), (ea _ _ (by omega) (by omega)).trans (CS_122_2 hc), (ea _ _ (by omega) (by omega)).trans (CS_122_3 hc), (ea _ _ (by omega) (by omega)).trans (CS_122_4 hc), (ea _ _ (by omega) (by omega)).trans (CS_127_0 hc), (ea _ _ (by omega) (by omega)).trans (CS_127_1 hc), (ea _ _ (by omega) (by omega)).trans (CS_127_2 hc)⟩
  have hxa : Xt ca := Xt_of hx (fun o j ho => ea o j (by omega) (by omega))
  obtain ⟨c2, K, r, tk, f⟩ := k82 988 hs hxa hTa hRa
  have r : Cd 997 82 [vA 122] (s, ca) = some ([], (s, c2)) := r
  have hR2 := f.rd hRa
  have hb := tk.2.2.1
  refine ⟨c2, K, ?_, ⟨EV_tok hn.2.2.2 hR2 tk, ⟨tk.2.1, ⟨Int.le_refl _, hb.1⟩, ?_, Int.le_refl _, fun j q hq => by simp at hq, ?_, ?_⟩, ?_, ?_, ?_, ?_⟩, fun o j g1 g2 g3 => ?_⟩
  · have r25 : Cd 997 25 [vA 127] (s, u2 (u2 (u2 (u2 (u2 (u2 c 122 6 0) 122 7 (-1)) 122 10 0) 122 11 1) 122 13 0) 122 12 0) = some ([], (s, ca)) := by
      rw [hca]
      show Cd (996 + 1) 25 [vA 127] _ = _
      rw [c25 (hg := gC127 hs _), pC127 hs _ _ (by decide), bnd_s]
    have h4 : u2 (u2 (u2 (u2 (u2 (u2 c 122 6 0) 122 7 (-1)) 122 10 0) 122 11 1) 122 13 0) 122 12 0 122 4 = 127 := by
      rw [u2_n (by omega), u2_n (by omega), u2_n (by omega), u2_n (by omega), u2_n (by omega), u2_n (by omega)]; exact CS_122_4 hc
    show Cd (997 + 1) 69 [vA 122] (s, c) = _
    (try rw [c69 (hg := gC122 hs c)]); (try rw [pC122 hs _ _ (by decide)]); (try rw [bnd_s]); (try rw [pC122 hs _ _ (by decide)]); (try rw [bnd_s]); (try rw [pC122 hs _ _ (by decide)]); (try rw [bnd_s]); (try rw [pC122 hs _ _ (by decide)]); (try rw [bnd_s]); (try rw [pC122 hs _ _ (by decide)]); (try rw [bnd_s]); (try rw [pC122 hs _ _ (by decide)]); (try rw [bnd_s]); (try rw [fC122 hs _ (by decide)]); (try rw [bnd_s]); (try rw [h4]); (try rw [r25]); (try rw [bnd_s]); (try rw [tV_m]); (try rw [bnd_s]); (try rw [r]); (try rw [bnd_s]); (try rw [tV_m]); (try rw [bnd_s])
  · rw [f 127 3 (by omega) (by omega) (by omega) (by omega), a3]; rfl
  · rw [f 122 6 (by omega) (by omega) (by omega) (by omega)]; exact a6
  · rw [f 122 7 (by omega) (by omega) (by omega) (by omega)]; exact a7
  · rw [f 122 10 (by omega) (by omega) (by omega) (by omega), a10]; rfl
  · rw [f 122 11 (by omega) (by omega) (by omega) (by omega)]; exact a11
  · rw [f 122 12 (by omega) (by omega) (by omega) (by omega)]; exact a12
  · rw [f 122 13 (by omega) (by omega) (by omega) (by omega)]; exact a13
  · rw [f o j (by omega) (by omega) (by omega) (by omega), ea o j g1 g2]
theorem m218_0 {s : List (Nat × Nat)} {p : Nat → Nat → Int} {T : Int → Int} {n K : Int} {k : Nat} (hs : SpL s) (hm : MS p) (hT : TpM T n p) (hk : p 143 1 = (k : Int)) (hk8 : k < 8) (hK : 0 ≤ K) : ∃ m1, Cd 998 218 [vA 142] (s, p) = Rr (Cd 997) 218 52 [some (vA 142), none] [] (s, m1) ∧ BM T n K k m1 0 [] 0 1 0 0 ∧ ∀ o j, ¬ (o = 142 ∧ 12 ≤ j ∧ j ≤ 24 ∧ j ≠ 21) → ¬ (o = 145 ∧ 800 * k ≤ j ∧ j < 800 * k + 800) → m1 o j = p o j := by
  have hn := hT.1
  obtain ⟨mb, hmb⟩ : ∃ mb, mb = u2 (u2 (u2 (u2 (u2 (u2 (u2 (u2 (u2 p 142 17 (800 * (k : Int))) 145 (800 * k) 0) 145 (800 * k + 1) 1) 145 (800 * k + 2) 0) 145 (800 * k + 3) 0) 142 19 0) 142 23 0) 142 20 0) 142 12 0 := ⟨_, rfl⟩
  have eb : ∀ o j, ¬ (o = 142 ∧ 12 ≤ j ∧ j ≤ 24 ∧ j ≠ 21) → ¬ (o = 145 ∧ 800 * k ≤ j ∧ j < 800 * k + 800) → mb o j = p o j := fun o j g1 g2 => by
    rw [hmb, u2_n (by omega), u2_n (by omega), u2_n (by omega), u2_n (by omega), u2_n (by omega), u2_n (by omega), u2_n (by omega), u2_n (by omega), u2_n (by omega)]
  have b12 : mb 142 12 = 0 := by rw [hmb, u2_e]
  have b17 : mb 142 17 = 800 * (k : Int) := by rw [hmb]; repeat (first | rw [u2_e] | rw [u2_n (by omega)])
  have b19 : mb 142 19 = 0 := by rw [hmb]; repeat (first | rw [u2_e] | rw [u2_n (by omega)])
  have b20 : mb 142 20 = 0 := by rw [hmb]; repeat (first | rw [u2_e] | rw [u2_n (by omega)])
  have b23 : mb 142 23 = 0 := by rw [hmb]; repeat (first | rw [u2_e] | rw [u2_n (by omega)])
  have z0 : mb 145 (800 * k) = 0 := by rw [hmb]; repeat (first | rw [u2_e] | rw [u2_n (by omega)])
  have z1 : mb 145 (800 * k + 1) = 1 := by rw [hmb]; repeat (first | rw [u2_e] | rw [u2_n (by omega)])
  have z2 : mb 145 (800 * k + 2) = 0 := by rw [hmb]; repeat (first | rw [u2_e] | rw [u2_n (by omega)])
  have z3 : mb 145 (800 * k + 3) = 0 := by rw [hmb]; repeat (first | rw [u2_e] | rw [u2_n (by omega)])
  have hTb : TpM T n mb := ⟨⟨(eb 142 8 (by omega) (by omega)).trans hn.1, (eb 142 9 (by omega) (by omega)).trans hn.2.1, hn.2.2⟩, fun i g0 g1 => by rw [eb 150 _ (by omega) (by omega)]; exact hT.2 i g0 g1⟩
  obtain ⟨m1, r, f, mt⟩ := m198 993 hs hTb b12 (by omega) hn.2.2.1
  have r : Cd 997 198 [vA 142] (s, mb) = some ([], (s, m1)) := r
  have mt : MT T n 0 m1 := mt
  refine ⟨m1, ?_, ⟨⟨?_, ?_, ?_, f.tp hTb⟩, ⟨mt, ⟨Int.le_refl _, hK⟩, ?_, ?_, fun j q hq => by simp at hq, Int.le_refl _⟩, ?_, ?_, ?_, ?_, ?_⟩, fun o j g1 g2 => ?_⟩
  · have p0 : ∀ (q : Nat → Nat → Int) (v : Int), pA (s, q) 0 145 (800 * (k : Int)) v = some (s, u2 q 145 (800 * k) v) := fun q v => by
      rw [qC145 hs _ _ (by omega) (by omega), show (800 * (k : Int)).toNat = 800 * k by omega]
    have p1 : ∀ (q : Nat → Nat → Int) (v : Int), pA (s, q) 0 145 (800 * (k : Int) + 1) v = some (s, u2 q 145 (800 * k + 1) v) := fun q v => by
      rw [qC145 hs _ _ (by omega) (by omega), show (800 * (k : Int) + 1).toNat = 800 * k + 1 by omega]
    have p2 : ∀ (q : Nat → Nat → Int) (v : Int), pA (s, q) 0 145 (800 * (k : Int) + 2) v = some (s, u2 q 145 (800 * k + 2) v) := fun q v => by
      rw [qC145 hs _ _ (by omega) (by omega), show (800 * (k : Int) + 2).toNat = 800 * k + 2 by omega]
    have p3 : ∀ (q : Nat → Nat → Int) (v : Int), pA (s, q) 0 145 (800 * (k : Int) + 3) v = some (s, u2 q 145 (800 * k + 3) v) := fun q v => by
      rw [qC145 hs _ _ (by omega) (by omega), show (800 * (k : Int) + 3).toNat = 800 * k + 3 by omega]
    rw [hmb] at r
    show Cd (997 + 1) 218 [vA 142] (s, p) = _
    rw [c218 (hg := gC142 hs p)]
    repeat (first | rw [bnd_s] | rw [fC142 hs _ (by decide)] | rw [pC142 hs _ _ (by decide)] | rw [u2_e] | rw [u2_n (by omega)] | rw [MS_0 hm] | rw [MS_2 hm] | rw [aC143 hs _ (show (0 : Int) ≤ 1 by decide) (by decide)] | rw [show (1 : Int).toNat = 1 from rfl] | rw [hk] | rw [w32_id (z := 800 * (k : Int)) (by omega) (by omega)] | rw [w32_id (z := 800 * (k : Int) + 1) (by omega) (by omega)] | rw [w32_id (z := 800 * (k : Int) + 2) (by omega) (by omega)] | rw [w32_id (z := 800 * (k : Int) + 3) (by omega) (by omega)] | rw [p0] | rw [p1] | rw [p2] | rw [p3] | rw [r] | rw [tV_m])
  · rw [f 142 2 (by omega), eb 142 2 (by omega) (by omega)]; exact MS_2 hm
  · rw [f 142 21 (by omega), eb 142 21 (by omega) (by omega)]; exact MS_21 hm
  · rw [f 142 17 (by omega)]; exact b17
  · rw [f 142 23 (by omega)]; exact b23
  · rw [f 142 19 (by omega), b19]; rfl
  · rw [f 142 20 (by omega)]; exact b20
  · rw [f 145 _ (by omega), z0, bt_z]; rfl
  · rw [f 145 _ (by omega)]; exact z1
  · rw [f 145 _ (by omega)]; exact z2
  · rw [f 145 _ (by omega)]; exact z3
  · rw [f o j (by omega), eb o j g1 g2]
theorem op_showing : Op 125 219 [] := by
  intro s c N hI
  have hs := hI.1.l
  have hc := hI.2.2.2.1
  have hm := hI.2.2.1
  have hx := hI.2.1
  obtain ⟨⟨t1, t2, t3⟩, t4, t5, t6⟩ := hI.2.2.2.2.2.2.2.2.2
  have hS := hI.2.2.2.2.1.2.2.2.1
  by_cases h8 : c 143 1 = 8
  · refine ⟨vI (-1), s, s, c, c, N, ?_, ?_, by omega, hI⟩
    · show Cd (998 + 1) 125 [vA 29] (s, c) = _
      (try rw [c125 (hg := gC29 hs c)]); (try rw [fC29 hs _ (by decide)]); (try rw [bnd_s]); (try rw [CS_29_0 hc]); (try rw [fC30 hs _ (by decide)]); (try rw [bnd_s]); (try rw [hS.1]); (try rw [if_neg (show ¬ c 143 1 < 8 by omega)])
    · show Cd (998 + 1) 219 [vA 142] (s, c) = _
      (try rw [c219 (hg := gC142 hs c)]); (try rw [fC142 hs _ (by decide)]); (try rw [bnd_s]); (try rw [MS_0 hm]); (try rw [aC143 hs _ (show (0 : Int) ≤ 1 by decide) (by decide)]); (try rw [bnd_s]); (try rw [show (1 : Int).toNat = 1 from rfl]); (try rw [if_pos h8])
  · obtain ⟨k, hk⟩ : ∃ k : Nat, c 143 1 = (k : Int) := ⟨(c 143 1).toNat, by omega⟩
    have hk8 : k < 8 := by omega
    have h30 : c 30 7 = (k : Int) := hS.1.trans hk
    obtain ⟨T, hTd⟩ : ∃ T : Int → Int, ∀ i, T i = c 150 i.toNat := ⟨fun i => c 150 i.toNat, fun _ => rfl⟩
    obtain ⟨n, hnd⟩ : ∃ n, c 142 9 = n := ⟨_, rfl⟩
    rw [hnd] at t1 t2 t3 t4
    have hTC : TpC T n c := ⟨⟨CS_122_0 hc, t1, t2, t3⟩, fun i g0 g1 => by rw [hTd]; exact t4 i g0 g1⟩
    have hTM : TpM T n c := ⟨⟨MS_8 hm, hnd, t2, t3⟩, fun i g0 g1 => by rw [hTd]; exact ⟨rfl, (t4 i g0 g1).2⟩⟩
    obtain ⟨c2, K, r69, hBC, e2⟩ := k69_0 hs hx hc hTC
    have hz : tkA T n K = 0 := hBC.1.2.2.2.1
    have hKb := hBC.1.2.2.1
    have hR0 : Rg 0 1 0 0 [] := ⟨by omega, Or.inl ⟨bt_z 4, rfl⟩, Or.inl rfl, Or.inl rfl, by omega⟩
    have beg : ∀ (v : Int) (c3 : Nat → Nat → Int), Rr (Cd (948 + 49)) 69 25 [some (vA 122), some (vI 0)] [] (s, c2) = some ([vI v], (s, c3)) → ∀ R, (pF (s, c3) 6 5 122 0).bind (fun h6 => if v = 0 then some ([vI (-1)], h6) else (gF h6 11 2 29).bind fun x7 => (gF h6 11 0 29).bind fun x8 => (gF h6 10 1 x8).bind fun x9 => (gF h6 11 0 29).bind fun x10 => (gF h6 10 7 x10).bind fun x11 => (gR h6 x9 x11).bind fun x12 => ((Cd 998 68 [vA x7, vA x12] h6).bind toV).bind fun q13 => (gF q13 11 0 29).bind fun x14 => (gF q13 10 7 x14).bind fun x15 => (pF q13 10 7 x14 (w32 (x15 + 1))).bind fun h16 => (gF h16 11 0 29).bind fun x17 => (gF h16 10 7 x17).bind fun x18 => some ([vI (w32 (x18 - 1))], h16)) = R → c3 29 2 = 122 → Cd 999 125 [vA 29] (s, c) = R := fun v c3 hr R hR h29 => by
      have hr : Rr (Cd 997) 69 25 [some (vA 122), some (vI 0)] [] (s, c2) = some ([vI v], (s, c3)) := hr
      show Cd (998 + 1) 125 [vA 29] (s, c) = _
      (try rw [c125 (hg := gC29 hs c)]); (try rw [fC29 hs _ (by decide)]); (try rw [bnd_s]); (try rw [CS_29_0 hc]); (try rw [fC30 hs _ (by decide)]); (try rw [bnd_s]); (try rw [h30]); (try rw [if_pos (show (k : Int) < 8 by omega)]); (try rw [fC29 hs _ (by decide)]); (try rw [bnd_s]); (try rw [CS_29_2 hc]); (try rw [r69]); (try rw [hr]); (try rw [bnd_s]); (try rw [tI_m]); (try rw [bnd_s]); (try rw [fC29 hs _ (by decide)]); (try rw [bnd_s]); (try rw [h29])
      exact hR
    have mbeg : ∀ (p : Nat → Nat → Int) (v : Int) (m2 : Nat → Nat → Int), MS p → p 143 1 = (k : Int) → Cd 998 218 [vA 142] (s, p) = some ([vI v], (s, m2)) → ∀ R, (pF (s, m2) 12 10 142 v).bind (fun h4 => (gF h4 12 10 142).bind fun x5 => if x5 = 0 then Rr (Cd 998) 219 20 [some (vA 142)] [vI (-1), vA 142] h4 else (gF h4 12 13 142).bind fun x6 => Rr (Cd 998) 219 20 [some (vA 142)] [vI x6, vA 142] h4) = R → Cd 999 219 [vA 142] (s, p) = R := fun p v m2 hmp hp hr R hR => by
      show Cd (998 + 1) 219 [vA 142] (s, p) = _
      (try rw [c219 (hg := gC142 hs p)]); (try rw [fC142 hs _ (by decide)]); (try rw [bnd_s]); (try rw [MS_0 hmp]); (try rw [aC143 hs _ (show (0 : Int) ≤ 1 by decide) (by decide)]); (try rw [bnd_s]); (try rw [show (1 : Int).toNat = 1 from rfl]); (try rw [hp]); (try rw [if_neg (show ¬ (k : Int) = 8 by omega)]); (try rw [hr]); (try rw [bnd_s]); (try rw [tI_m]); (try rw [bnd_s])
      exact hR
    rcases sim_l 948 987 hs hk8 hz 300 0 0 0 1 0 0 c2 [] (by omega) (by omega) (by omega) hBC hR0 with ⟨e, j, c3, he, r3, f3, q6, q7, hM⟩ | ⟨j, X, b, sw, on, ak, c3, r3, f3, hB3, hR3, hM⟩
    · have e3 : ∀ o i, ¬ (o = 122 ∧ 6 ≤ i ∧ i ≤ 13) → ¬ (o = 127 ∧ i = 3) → ¬ (124 ≤ o ∧ o ≤ 126) → o ≠ 128 → o ≠ 129 → c3 o i = c o i := fun o i g1 g2 g3 g4 g5 => by rw [f3 o i g1 g2 g4 g5, e2 o i g1 g2 g3]
      obtain ⟨p, hp⟩ : ∃ p, p = u2 c3 122 5 0 := ⟨_, rfl⟩
      have ep : ∀ o i, ¬ (o = 122 ∧ 5 ≤ i ∧ i ≤ 13) → ¬ (o = 127 ∧ i = 3) → ¬ (124 ≤ o ∧ o ≤ 126) → o ≠ 128 → o ≠ 129 → p o i = c o i := fun o i g1 g2 g3 g4 g5 => by rw [hp, u2_n (by omega), e3 o i (by omega) g2 g3 g4 g5]
      have hr1 : Cd 999 125 [vA 29] (s, c) = some ([vI (-1)], (s, p)) := by
        refine beg 0 c3 r3 _ ?_ ((e3 29 2 (by omega) (by omega) (by omega) (by omega) (by omega)).trans (CS_29_2 hc))
        (try rw [pC122 hs _ _ (by decide)]); (try rw [bnd_s]); (try rw [if_pos rfl]); (try rw [hp])
      have hmp : MS p := MS_of hm (fun q _ => ep _ _ (by omega) (by omega) (by omega) (by omega) (by omega)) (funext fun i => ep _ _ (by omega) (by omega) (by omega) (by omega) (by omega)) (funext fun i => ep _ _ (by omega) (by omega) (by omega) (by omega) (by omega))
      have hpk : p 143 1 = (k : Int) := (ep _ _ (by omega) (by omega) (by omega) (by omega) (by omega)).trans hk
      have hTp : TpM T n p := ⟨⟨(ep _ _ (by omega) (by omega) (by omega) (by omega) (by omega)).trans hTM.1.1, (ep _ _ (by omega) (by omega) (by omega) (by omega) (by omega)).trans hTM.1.2.1, t2, t3⟩, fun i g0 g1 => by rw [ep _ _ (by omega) (by omega) (by omega) (by omega) (by omega)]; exact hTM.2 i g0 g1⟩
      obtain ⟨m1, rm1, hB1, em1⟩ := m218_0 (K := K) hs hmp hTp hpk hk8 hKb.1
      obtain ⟨m2, rm2, fm2, mt2⟩ := hM m1 none hB1
      have rm2 : Rr (Cd 997) 218 52 [some (vA 142), none] [] (s, m1) = some ([vI e], (s, m2)) := rm2
      have em2 : ∀ o i, ¬ (o = 142 ∧ 12 ≤ i ∧ i ≤ 24 ∧ i ≠ 21) → ¬ (o = 145 ∧ 800 * k ≤ i ∧ i < 800 * k + 800) → o ≠ 151 → m2 o i = p o i := fun o i g1 g2 g3 => by rw [fm2 o i (by omega) g3 g2, em1 o i g1 g2]
      obtain ⟨m5, hm5⟩ : ∃ m5, m5 = u2 (u2 (u2 m2 142 10 e) 142 11 (sts T n j.toNat)) 142 9 0 := ⟨_, rfl⟩
      have em5 : ∀ o i, ¬ (o = 142 ∧ 9 ≤ i ∧ i ≤ 24 ∧ i ≠ 21) → ¬ (o = 145 ∧ 800 * k ≤ i ∧ i < 800 * k + 800) → o ≠ 151 → m5 o i = p o i := fun o i g1 g2 g3 => by rw [hm5, u2_n (by omega), u2_n (by omega), u2_n (by omega), em2 o i (by omega) g2 g3]
      have hr2 : Cd 999 219 [vA 142] (s, p) = some ([vI (-1)], (s, m5)) := by
        refine mbeg p e m2 hmp hpk (rm1.trans rm2) _ ?_
        have h13 : u2 m2 142 10 e 142 13 = sts T n j.toNat := by rw [u2_n (by omega)]; exact mt2.1
        have h10 : u2 (u2 (u2 m2 142 10 e) 142 11 (sts T n j.toNat)) 142 9 0 142 10 = e := by rw [u2_n (by omega), u2_n (by omega), u2_e]
        (try rw [pC142 hs _ _ (by decide)]); (try rw [bnd_s]); (try rw [fC142 hs _ (by decide)]); (try rw [bnd_s]); (try rw [u2_e]); (try rw [if_neg he]); (try rw [fC142 hs _ (by decide)]); (try rw [bnd_s]); (try rw [h13])
        show Rr (Cd 998) 219 20 [some (vA 142)] [vI (sts T n j.toNat), vA 142] (s, u2 m2 142 10 e) = _
        (try rw [c219_20]); (try rw [pC142 hs _ _ (by decide)]); (try rw [bnd_s]); (try rw [pC142 hs _ _ (by decide)]); (try rw [bnd_s]); (try rw [fC142 hs _ (by decide)]); (try rw [bnd_s]); (try rw [h10]); (try rw [if_neg he]); (try rw [hm5])
      refine ⟨vI (-1), s, s, p, m5, N, hr1, hr2, by omega, Inv_shw hI hk hk8 (fun o i g => ?_) (Or.inl ⟨?_, ?_⟩) ⟨⟨?_, ?_, ?_⟩, fun i g0 g1 => ?_, ?_, ?_⟩⟩
      · have g' : ¬ ((o = 30 ∧ i = 7) ∨ (o = 60 + 2 * k ∧ 1 ≤ i ∧ i ≤ 3) ∨ o = 61 + 2 * k ∨ (o = 122 ∧ 5 ≤ i) ∨ (124 ≤ o ∧ o ≤ 126) ∨ (o = 127 ∧ 3 ≤ i) ∨ (128 ≤ o ∧ o ≤ 130) ∨ (o = 142 ∧ 9 ≤ i ∧ i ≤ 24 ∧ i ≠ 21) ∨ (o = 143 ∧ i = 1) ∨ (o = 145 ∧ 800 * k ≤ i) ∨ o = 151) := g
        rw [em5 o i (by omega) (by omega) (by omega), ep o i (by omega) (by omega) (by omega) (by omega) (by omega)]
      · rw [em5 143 1 (by omega) (by omega) (by omega)]; exact hpk
      · rw [em5 30 7 (by omega) (by omega) (by omega), ep 30 7 (by omega) (by omega) (by omega) (by omega) (by omega)]
      · rw [em5 122 5 (by omega) (by omega) (by omega), hp, u2_e, hm5, u2_e]
      · rw [hm5, u2_e]; decide
      · rw [hm5, u2_e]; decide
      · rw [hm5, u2_e] at g1; omega
      · rw [em5 122 6 (by omega) (by omega) (by omega), hp, u2_n (by omega), q6, hm5, u2_n (by omega), u2_n (by omega), u2_e]
      · rw [em5 122 7 (by omega) (by omega) (by omega), hp, u2_n (by omega), q7, hm5, u2_n (by omega), u2_e]
    · have e3 : ∀ o i, ¬ (o = 122 ∧ 6 ≤ i ∧ i ≤ 13) → ¬ (o = 127 ∧ i = 3) → ¬ (124 ≤ o ∧ o ≤ 126) → o ≠ 128 → o ≠ 129 → c3 o i = c o i := fun o i g1 g2 g3 g4 g5 => by rw [f3 o i g1 g2 g4 g5, e2 o i g1 g2 g3]
      obtain ⟨hE3, hK3, y10, y11, y12, y13⟩ := hB3
      have hXl : X.length ≤ 300 := by have := hK3.2.2.2.1; have := hK3.2.1; omega
      obtain ⟨c4, hc4⟩ : ∃ c4, c4 = u2 c3 122 5 0 := ⟨_, rfl⟩
      have e4 : ∀ o i, ¬ (o = 122 ∧ i = 5) → c4 o i = c3 o i := fun o i g => by rw [hc4, u2_n g]
      have hJX : JX c4 X := ⟨⟨(e4 _ _ (by omega)).trans hE3.1.2.2.2.2.1, (e4 _ _ (by omega)).trans hE3.1.2.2.2.2.2.1, (e4 _ _ (by omega)).trans hE3.1.2.2.2.2.2.2⟩, (e4 _ _ (by omega)).trans hK3.2.2.1, hXl, fun i q hq => by rw [e4 _ _ (by omega), e4 _ _ (by omega)]; exact hK3.2.2.2.2.1 i q hq⟩
      obtain ⟨gg, G, hSG, hgg, hG⟩ := SG_n hR3
      have h4q : c4 (60 + 2 * k) 0 = ((61 + 2 * k : Nat) : Int) := by
        rw [e4 _ _ (by omega), e3 _ _ (by omega) (by omega) (by omega) (by omega) (by omega)]; exact CS_60 hc hk8
      obtain ⟨c5, r5, f5, h5, t5'⟩ := k68 991 hs hSG hk8 hJX ((e4 _ _ (by omega)).trans hE3.1.2.2.2.1) h4q (by rw [e4 _ _ (by omega), y13]; exact hR3.2.2.2.1)
      have r5 : Cd 998 68 [vA 122, vA ((60 + 2 * k : Nat) : Int)] (s, c4) = some ([], (s, c5)) := r5
      obtain ⟨p, hp⟩ : ∃ p, p = u2 c5 30 7 ((k : Int) + 1) := ⟨_, rfl⟩
      have ep : ∀ o i, ¬ (o = 122 ∧ 5 ≤ i ∧ i ≤ 13) → ¬ (o = 127 ∧ 3 ≤ i ∧ i ≤ 7) → ¬ (124 ≤ o ∧ o ≤ 126) → ¬ (128 ≤ o ∧ o ≤ 130) → ¬ (o = 60 + 2 * k ∧ 1 ≤ i ∧ i ≤ 3) → o ≠ 61 + 2 * k → ¬ (o = 30 ∧ i = 7) → p o i = c o i := fun o i g1 g2 g3 g4 g5 g6 g7 => by rw [hp, u2_n g7, f5 o i (by omega) (by omega) g5 g6, e4 o i (by omega), e3 o i (by omega) (by omega) g3 (by omega) (by omega)]
      have hr1 : Cd 999 125 [vA 29] (s, c) = some ([vI (k : Int)], (s, p)) := by
        have x29 : ∀ i, c4 29 i = c 29 i := fun i => by rw [e4 _ _ (by omega), e3 _ _ (by omega) (by omega) (by omega) (by omega) (by omega)]
        have x30 : ∀ i, c4 30 i = c 30 i := fun i => by rw [e4 _ _ (by omega), e3 _ _ (by omega) (by omega) (by omega) (by omega) (by omega)]
        have x32 : c4 32 k = ((60 + 2 * k : Nat) : Int) := by rw [e4 _ _ (by omega), e3 _ _ (by omega) (by omega) (by omega) (by omega) (by omega)]; exact CS_32 hc hk8
        have x5 : c5 29 0 = 30 := by rw [f5 _ _ (by omega) (by omega) (by omega) (by omega), x29]; exact CS_29_0 hc
        have x57 : c5 30 7 = (k : Int) := by rw [f5 _ _ (by omega) (by omega) (by omega) (by omega), x30]; exact h30
        have x6 : u2 c5 30 7 ((k : Int) + 1) 29 0 = 30 := by rw [u2_n (by omega)]; exact x5
        have w1 : w32 ((k : Int) + 1) = (k : Int) + 1 := w32_id (by omega) (by omega)
        have w2 : w32 ((k : Int) + 1 - 1) = (k : Int) := by rw [w32_id (by omega) (by omega)]; omega
        refine beg 1 c3 r3 _ ?_ ((e3 29 2 (by omega) (by omega) (by omega) (by omega) (by omega)).trans (CS_29_2 hc))
        (try rw [pC122 hs _ _ (by decide)]); (try rw [bnd_s]); (try rw [if_neg (by decide)]); (try rw [← hc4])
        repeat (first | rw [bnd_s] | rw [fC29 hs _ (by decide)] | rw [fC30 hs _ (by decide)] | rw [x29] | rw [CS_29_2 hc] | rw [CS_29_0 hc] | rw [x30] | rw [CS_30_1 hc] | rw [h30] | rw [rC32 hs _ (show (0 : Int) ≤ (k : Int) by omega) (by omega)] | rw [Int.toNat_natCast] | rw [x32] | rw [r5] | rw [tV_m] | rw [x5] | rw [x57] | rw [w1] | rw [pC30 hs _ _ (by decide)] | rw [x6] | rw [u2_e] | rw [w2])
        rw [hp]
      have hmp : MS p := MS_of hm (fun q _ => ep _ _ (by omega) (by omega) (by omega) (by omega) (by omega) (by omega) (by omega)) (funext fun i => ep _ _ (by omega) (by omega) (by omega) (by omega) (by omega) (by omega) (by omega)) (funext fun i => ep _ _ (by omega) (by omega) (by omega) (by omega) (by omega) (by omega) (by omega))
      have hpk : p 143 1 = (k : Int) := (ep _ _ (by omega) (by omega) (by omega) (by omega) (by omega) (by omega) (by omega)).trans hk
      have hTp : TpM T n p := ⟨⟨(ep _ _ (by omega) (by omega) (by omega) (by omega) (by omega) (by omega) (by omega)).trans hTM.1.1, (ep _ _ (by omega) (by omega) (by omega) (by omega) (by omega) (by omega) (by omega)).trans hTM.1.2.1, t2, t3⟩, fun i g0 g1 => by rw [ep _ _ (by omega) (by omega) (by omega) (by omega) (by omega) (by omega) (by omega)]; exact hTM.2 i g0 g1⟩
      obtain ⟨m1, rm1, hB1, em1⟩ := m218_0 (K := K) hs hmp hTp hpk hk8 hKb.1
      obtain ⟨m2, rm2, fm2, hB2⟩ := hM m1 none hB1
      have rm2 : Rr (Cd 997) 218 52 [some (vA 142), none] [] (s, m1) = some ([vI 0], (s, m2)) := rm2
      obtain ⟨hE2, hA2, z20, z0, z1, z2, z3⟩ := hB2
      have em2 : ∀ o i, ¬ (o = 142 ∧ 12 ≤ i ∧ i ≤ 24 ∧ i ≠ 21) → ¬ (o = 145 ∧ 800 * k ≤ i ∧ i < 800 * k + 800) → o ≠ 151 → m2 o i = p o i := fun o i g1 g2 g3 => by rw [fm2 o i (by omega) g3 g2, em1 o i g1 g2]
      obtain ⟨m5, hm5⟩ : ∃ m5, m5 = u2 (u2 (u2 (u2 (u2 m2 142 10 0) 142 11 (-1)) 142 9 0) 145 (800 * k + 4) (X.length : Int)) 143 1 ((k : Int) + 1) := ⟨_, rfl⟩
      have em5 : ∀ o i, ¬ (o = 142 ∧ 9 ≤ i ∧ i ≤ 24 ∧ i ≠ 21) → ¬ (o = 145 ∧ 800 * k ≤ i ∧ i < 800 * k + 800) → o ≠ 151 → ¬ (o = 143 ∧ i = 1) → m5 o i = p o i := fun o i g1 g2 g3 g4 => by rw [hm5, u2_n (by omega), u2_n (by omega), u2_n (by omega), u2_n (by omega), u2_n (by omega), em2 o i (by omega) g2 g3]
      have hr2 : Cd 999 219 [vA 142] (s, p) = some ([vI (k : Int)], (s, m5)) := by
        refine mbeg p 0 m2 hmp hpk (rm1.trans rm2) _ ?_
        have d0 : ∀ i, i ≠ 9 → i ≠ 10 → i ≠ 11 → u2 (u2 (u2 m2 142 10 0) 142 11 (-1)) 142 9 0 142 i = m2 142 i := fun i a1 a2 a3 => by rw [u2_n (by omega), u2_n (by omega), u2_n (by omega)]
        have d10 : u2 (u2 (u2 m2 142 10 0) 142 11 (-1)) 142 9 0 142 10 = 0 := by rw [u2_n (by omega), u2_n (by omega), u2_e]
        have d1 : m2 143 1 = (k : Int) := by rw [em2 143 1 (by omega) (by omega) (by omega)]; exact hpk
        have d2 : m2 142 0 = 143 := by rw [em2 142 0 (by omega) (by omega) (by omega)]; exact MS_0 hmp
        have pq : ∀ (q : Nat → Nat → Int) (v : Int), pA (s, q) 0 145 (800 * (k : Int) + 4) v = some (s, u2 q 145 (800 * k + 4) v) := fun q v => by
          rw [qC145 hs _ _ (by omega) (by omega), show (800 * (k : Int) + 4).toNat = 800 * k + 4 by omega]
        have w0 : w32 (800 * (k : Int) + 4) = 800 * (k : Int) + 4 := w32_id (by omega) (by omega)
        have w1 : w32 ((k : Int) + 1) = (k : Int) + 1 := w32_id (by omega) (by omega)
        have w2 : w32 ((k : Int) + 1 - 1) = (k : Int) := by rw [w32_id (by omega) (by omega)]; omega
        (try rw [pC142 hs _ _ (by decide)]); (try rw [bnd_s]); (try rw [fC142 hs _ (by decide)]); (try rw [bnd_s]); (try rw [u2_e]); (try rw [if_pos rfl])
        rw [c219_20]
        repeat (first | rw [bnd_s] | rw [fC142 hs _ (by decide)] | rw [pC142 hs _ _ (by decide)] | rw [d10] | rw [if_pos (show (0 : Int) = 0 from rfl)] | rw [d0 2 (by omega) (by omega) (by omega)] | rw [d0 17 (by omega) (by omega) (by omega)] | rw [d0 19 (by omega) (by omega) (by omega)] | rw [hE2.1] | rw [hE2.2.2.1] | rw [hA2.2.2.2.1] | rw [w0] | rw [pq] | rw [u2_e] | rw [u2_n (by omega)] | rw [d2] | rw [aC143 hs _ (show (0 : Int) ≤ 1 by decide) (by decide)] | rw [show (1 : Int).toNat = 1 from rfl] | rw [d1] | rw [w1] | rw [qC143 hs _ _ (show (0 : Int) ≤ 1 by decide) (by decide)] | rw [w2])
        rw [hm5]
      have nsh : ShRel (m5 145) m5 (60 + 2 * k) k := by
        have q145 : ∀ i, i ≠ 800 * k + 4 → m5 145 i = m2 145 i := fun i hi => by rw [hm5, u2_n (by omega), u2_n (by omega), u2_n (by omega), u2_n (by omega), u2_n (by omega)]
        have q60 : ∀ i, m5 (60 + 2 * k) i = c5 (60 + 2 * k) i := fun i => by rw [em5 _ _ (by omega) (by omega) (by omega) (by omega), hp, u2_n (by omega)]
        have q61 : ∀ i, m5 (61 + 2 * k) i = c5 (61 + 2 * k) i := fun i => by rw [em5 _ _ (by omega) (by omega) (by omega) (by omega), hp, u2_n (by omega)]
        refine ShRel_n hR3 hXl ⟨?_, ?_, ?_⟩ ⟨?_, ?_, ?_, ?_, ?_⟩ (fun i q hq => ?_) hgg hG (fun i g0 g1 => ?_)
        · rw [q60, h5.1, e4 _ _ (by omega)]; exact y11
        · rw [q60, h5.2.1, e4 _ _ (by omega)]; exact y12
        · rw [q60, h5.2.2, e4 _ _ (by omega)]; exact y13
        · rw [q145 _ (by omega)]; exact z0
        · rw [q145 _ (by omega)]; exact z1
        · rw [q145 _ (by omega)]; exact z2
        · rw [q145 _ (by omega)]; exact z3
        · rw [hm5, u2_n (by omega), u2_e]
        · rw [q145 _ (by omega), q145 _ (by omega)]; exact hA2.2.2.2.2.1 i q hq
        · rw [q61]; exact t5' i g0 g1
      refine ⟨vI (k : Int), s, s, p, m5, N, hr1, hr2, by omega, Inv_shw hI hk hk8 (fun o i g => ?_) (Or.inr ⟨?_, ?_, nsh⟩) ⟨⟨?_, ?_, ?_⟩, fun i g0 g1 => ?_, ?_, ?_⟩⟩
      · have g' : ¬ ((o = 30 ∧ i = 7) ∨ (o = 60 + 2 * k ∧ 1 ≤ i ∧ i ≤ 3) ∨ o = 61 + 2 * k ∨ (o = 122 ∧ 5 ≤ i) ∨ (124 ≤ o ∧ o ≤ 126) ∨ (o = 127 ∧ 3 ≤ i) ∨ (128 ≤ o ∧ o ≤ 130) ∨ (o = 142 ∧ 9 ≤ i ∧ i ≤ 24 ∧ i ≠ 21) ∨ (o = 143 ∧ i = 1) ∨ (o = 145 ∧ 800 * k ≤ i) ∨ o = 151) := g
        rw [em5 o i (by omega) (by omega) (by omega) (by omega), ep o i (by omega) (by omega) (by omega) (by omega) (by omega) (by omega) (by omega)]
      · rw [hm5, u2_e]
      · rw [em5 30 7 (by omega) (by omega) (by omega) (by omega), hp, u2_e]
      · rw [em5 122 5 (by omega) (by omega) (by omega) (by omega), hp, u2_n (by omega), f5 _ _ (by omega) (by omega) (by omega) (by omega), hc4, u2_e, hm5, u2_n (by omega), u2_n (by omega), u2_e]
      · rw [hm5, u2_n (by omega), u2_n (by omega), u2_e]; decide
      · rw [hm5, u2_n (by omega), u2_n (by omega), u2_e]; decide
      · rw [hm5, u2_n (by omega), u2_n (by omega), u2_e] at g1; omega
      · rw [em5 122 6 (by omega) (by omega) (by omega) (by omega), hp, u2_n (by omega), f5 _ _ (by omega) (by omega) (by omega) (by omega), e4 _ _ (by omega), hK3.2.2.2.2.2.1, hm5, u2_n (by omega), u2_n (by omega), u2_n (by omega), u2_n (by omega), u2_e]
      · rw [em5 122 7 (by omega) (by omega) (by omega) (by omega), hp, u2_n (by omega), f5 _ _ (by omega) (by omega) (by omega) (by omega), e4 _ _ (by omega), hK3.2.2.2.2.2.2, hm5, u2_n (by omega), u2_n (by omega), u2_n (by omega), u2_e]
theorem law_ok : LawOK := law_of_showing op_showing
