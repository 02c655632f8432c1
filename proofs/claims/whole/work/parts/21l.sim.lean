/-! a clause: both read it alike -/
theorem BC_fp {T : Int → Int} {n K i j b sw on ak : Int} {X X' : List (Int × Int)} {c c' : Nat → Nat → Int} (f : FP c c') (h : BC T n K c i X b sw on ak) (hk : KS K c' j X') : BC T n K c' j X' b sw on ak := by
  obtain ⟨hE, _, c10, c11, c12, c13⟩ := h
  refine ⟨EV_of hE f, hk, ?_, ?_, ?_, ?_⟩
  · rw [f 122 10 (by omega) (by omega) (by omega) (by omega)]; exact c10
  · rw [f 122 11 (by omega) (by omega) (by omega) (by omega)]; exact c11
  · rw [f 122 12 (by omega) (by omega) (by omega) (by omega)]; exact c12
  · rw [f 122 13 (by omega) (by omega) (by omega) (by omega)]; exact c13
def Out (s : List (Nat × Nat)) (T : Int → Int) (n K : Int) (d d' k : Nat) (c : Nat → Nat → Int) (i : Int) (X : List (Int × Int)) (b sw on ak : Int) : Prop := (∃ e j c', e ≠ 0 ∧ Cd (d + 49) 72 [vA 122] (s, c) = some ([vI 0], (s, c')) ∧ FCl c c' ∧ c' 122 6 = e ∧ c' 122 7 = sts T n (Int.toNat j) ∧ ∀ m, BM T n K k m i X b sw on ak → ∃ m', Cd (d' + 10) 217 [vA 142] (s, m) = some ([vI e], (s, m')) ∧ FMt k m m' ∧ MT T n j m') ∨ (∃ j X' b' sw' on' ak' c', Cd (d + 49) 72 [vA 122] (s, c) = some ([vI 1], (s, c')) ∧ FCl c c' ∧ i < j ∧ BC T n K c' j X' b' sw' on' ak' ∧ Rg b' sw' on' ak' X' ∧ ∀ m, BM T n K k m i X b sw on ak → ∃ m', Cd (d' + 10) 217 [vA 142] (s, m) = some ([vI 0], (s, m')) ∧ FMt k m m' ∧ BM T n K k m' j X' b' sw' on' ak')
section
variable {s : List (Nat × Nat)} {T : Int → Int} {n K : Int} {k : Nat}
theorem fin_s (d d' : Nat) (hs : SpL s) (hz : tkA T n K = 0) {c c2 : Nat → Nat → Int} {i j b sw on ak b' sw' on' ak' : Int} {X X' : List (Int × Int)} {o1 : Option AV} (h2 : BC T n K c2 j X' b' sw' on' ak') (r : Cd (d + 49) 72 [vA 122] (s, c) = Rr (Cd (d + 48)) 72 54 [some (vA 122), o1, some (vI 1)] [] (s, c2)) (f : FCl c c2) (hij : i ≤ j) (hR : Rg b' sw' on' ak' X') (hm : ∀ m, BM T n K k m i X b sw on ak → ∃ m2 o1 o2 o3, Cd (d' + 10) 217 [vA 142] (s, m) = Rr (Cd (d' + 9)) 217 152 [some (vA 142), o1, o2, o3] [] (s, m2) ∧ FMt k m m2 ∧ BM T n K k m2 j X' b' sw' on' ak') : Out s T n K d d' k c i X b sw on ak := by
  rcases k72_e d hs hz h2 o1 with ⟨g, c3, r3, f3, h3⟩ | ⟨g, c3, r3, f3, q1, q2⟩
  · refine Or.inr ⟨j + 1, X', b', sw', on', ak', c3, r.trans r3, f.tr f3, by omega, h3, hR, fun m hM => ?_⟩
    obtain ⟨m2, p1, p2, p3, rm, fm, hm2⟩ := hm m hM
    obtain ⟨m3, rm3, fm3, hm3⟩ := (m217_e d' hs hz hm2 p1 p2 p3).1 g
    exact ⟨m3, rm.trans rm3, fm.tr fm3, hm3⟩
  · refine Or.inl ⟨1, j, c3, by decide, r.trans r3, f.tr f3.fc, q1, q2, fun m hM => ?_⟩
    obtain ⟨m2, p1, p2, p3, rm, fm, hm2⟩ := hm m hM
    exact ⟨m2, rm.trans ((m217_e d' hs hz hm2 p1 p2 p3).2 g), fm, hm2.2.1.1⟩
theorem sim_1 (d d' : Nat) (hs : SpL s) (hk8 : k < 8) (hz : tkA T n K = 0) {c : Nat → Nat → Int} {i b sw on ak : Int} {X : List (Int × Int)} (h : BC T n K c i X b sw on ak) (hR : Rg b sw on ak X) (ht : tkA T n i = 10) (hbt : bt b 1 = false) : Out s T n K d d' k c i X b sw on ak := by
  have hb := hR.1
  have bo := bit_o hb.1 hb.2 (w := 1) (by omega) (by omega)
  obtain ⟨c1, f1, h1, r1⟩ := k72_b d hs hz h hb (w := 1) (by omega) (by omega) hbt
  rw [if_pos rfl] at r1
  have h1' := h1
  obtain ⟨hE, hk, c10, c11, c12, c13⟩ := h1
  have hi := hk.2.1
  have hK := hE.2.2.1
  have htk := tkr hE hk
  have bt4 : bt (ior b (ishl 1 1)) 4 = bt b 4 := by rw [bo.2.2.2]; simp
  have mb := fun m (hM : BM T n K k m i X b sw on ak) => m217_b d' hs hz hM hb (w := 1) (by omega) (by omega) hbt
  by_cases g3 : tkA T n (i + 1) = 3
  · have hlt := tk_lt hz hi.2 (show tkA T n (i + 1) ≠ 0 by omega)
    have hnv := hE.2.2.2.2.2 (i + 1) hi.1 (by omega)
    by_cases g6 : nvA T n (i + 1) = 1 ∨ nvA T n (i + 1) = 2 ∨ nvA T n (i + 1) = 3 ∨ nvA T n (i + 1) = 6
    · have f2 : ∀ o j, ¬ (o = 122 ∧ 10 ≤ j ∧ j ≤ 13) → u2 c1 122 11 (nvA T n (i + 1)) o j = c1 o j := fun o j g => u2_n (by omega)
      obtain ⟨c3, r3, f3, s3⟩ := k71 (d + 46) hs (EV_w f2 hE) (KS_w f2 hk) (show tkA T n (i + 1) ≠ 0 by omega)
      have r33 : Rr (Cd (d + 47)) 73 33 [some (vA 122), some (vI (nvA T n (i + 1)))] [] (s, c1) = some ([vI 1], (s, c3)) := by
        (try rw [c73_33]); (try rw [pC122 hs _ _ (by decide)]); (try rw [bnd_s]); (try rw [r3]); (try rw [bnd_s]); (try rw [tV_m]); (try rw [bnd_s])
      have r73 : Cd (d + 48) 73 [vA 122] (s, c1) = some ([vI 1], (s, c3)) := by
        (try rw [c73 (hg := gC122 hs c1)]); (try rw [fC122 hs _ (by decide)]); (try rw [bnd_s]); (try rw [hE.1.1]); (try rw [fC122 hs _ (by decide)]); (try rw [bnd_s]); (try rw [hk.1]); (try rw [aC124 hs _ hi.1 (by omega)]); (try rw [bnd_s]); (try rw [htk]); (try rw [if_pos g3]); (try rw [fC122 hs _ (by decide)]); (try rw [bnd_s]); (try rw [hE.1.2.2.1]); (try rw [fC122 hs _ (by decide)]); (try rw [bnd_s]); (try rw [hk.1]); (try rw [aC126 hs _ hi.1 (by omega)]); (try rw [bnd_s]); (try rw [hnv])
        by_cases q1 : nvA T n (i + 1) = 1
        · rw [if_pos q1, r33]
        · rw [if_neg q1]
          by_cases q2 : nvA T n (i + 1) = 2
          · rw [if_pos q2, r33]
          · rw [if_neg q2]
            by_cases q3 : nvA T n (i + 1) = 3
            · rw [if_pos q3, r33]
            · rw [if_neg q3, if_pos (by omega), r33]
      rw [r73, bnd_s, tI_m, bnd_s] at r1
      have h3 : BC T n K c3 (i + 1 + 1) X (ior b (ishl 1 1)) (nvA T n (i + 1)) on ak := by
        refine ⟨EV_of (EV_w f2 hE) f3, s3, ?_, ?_, ?_, ?_⟩
        · rw [f3 122 10 (by omega) (by omega) (by omega) (by omega), u2_n (by omega)]; exact c10
        · rw [f3 122 11 (by omega) (by omega) (by omega) (by omega), u2_e]
        · rw [f3 122 12 (by omega) (by omega) (by omega) (by omega), u2_n (by omega)]; exact c12
        · rw [f3 122 13 (by omega) (by omega) (by omega) (by omega), u2_n (by omega)]; exact c13
      refine fin_s d d' hs hz h3 r1 (f1.tr (fun o j g1 g2 g3 g4 => by rw [f3 o j (by omega) g2 g3 g4, f2 o j (by omega)])) (by omega) ⟨bo.2.2.1, by rw [bt4]; exact hR.2.1, g6, hR.2.2.2.1, hR.2.2.2.2⟩ (fun m hM => ?_)
      obtain ⟨m1, fm1, E1, A1, ⟨z20, z0, z1, z2, z3⟩, rm⟩ := mb m hM
      rw [if_pos rfl] at rm
      have hr1 := MT_tr A1.1
      have t1 := (TkR_1 hr1).mpr g3
      have hu := TkR_n hr1 t1
      have eu := mn_l hu.1 (show nvA T n (i + 1) ≤ 9999 by omega)
      have tx := tx_w hs hk8 E1 (f := 1) (by decide) (nvA T n (i + 1))
      have E2 := tx.2.1.em E1
      have A2 := MA_w tx.2.2 A1
      obtain ⟨m3, rm3, fm3, A3⟩ := m198a (d' + 5) hs hz E2 A2 (show tkA T n (i + 1) ≠ 0 by omega)
      have r54 : Rr (Cd (d' + 9)) 217 54 [some (vA 142), some (vI 1), none, none] [] (s, m1) = Rr (Cd (d' + 9)) 217 152 [some (vA 142), some (vI 1), none, none] [] (s, m3) := by
        (try rw [c217_54]); (try rw [fC142 hs _ (by decide)]); (try rw [bnd_s]); (try rw [E1.1]); (try rw [fC142 hs _ (by decide)]); (try rw [bnd_s]); (try rw [E1.2.2.1]); (try rw [fC142 hs _ (by decide)]); (try rw [bnd_s]); (try rw [eu]); (try rw [w32_id (z := 800 * (k : Int) + 1) (by omega) (by omega)]); (try rw [show (800 * (k : Int) + 1) = 800 * (k : Int) + ((1 : Nat) : Int) by omega]); (try rw [tx.1]); (try rw [bnd_s]); (try rw [rm3]); (try rw [bnd_s]); (try rw [tV_m]); (try rw [bnd_s]); (try rw [m217_2 _ (by decide)]); (try rw [m217_3 _ (by decide)]); (try rw [m217_4 _ (by decide)])
      refine ⟨m3, some (vI 1), none, none, ?_, (fm1.tr tx.2.1).tr (fm3.fm k).f2, (fm3.fm k).f2.em E2, A3, ?_, ?_, ?_, ?_, ?_⟩
      · (try rw [rm]); (try rw [fC142 hs _ (by decide)]); (try rw [bnd_s]); (try rw [if_pos t1]); (try rw [fC142 hs _ (by decide)]); (try rw [bnd_s]); (try rw [eu])
        by_cases q1 : nvA T n (i + 1) = 1
        · rw [if_pos q1, r54]
        · rw [if_neg q1, bnd_s]
          by_cases q2 : nvA T n (i + 1) = 2
          · rw [if_pos q2, r54]
          · rw [if_neg q2, bnd_s]
            by_cases q3 : nvA T n (i + 1) = 3
            · rw [if_pos q3, r54]
            · (try rw [if_neg q3]); (try rw [bnd_s]); (try rw [if_pos (show nvA T n (i + 1) = 6 by omega)]); (try rw [r54])
      · rw [fm3 142 20 (by omega), u2_n (by omega)]; exact z20
      · rw [fm3 145 _ (by omega), u2_n (by omega), bt4]; exact z0
      · rw [fm3 145 _ (by omega), u2_e]
      · rw [fm3 145 _ (by omega), u2_n (by omega)]; exact z2
      · rw [fm3 145 _ (by omega), u2_n (by omega)]; exact z3
    · obtain ⟨c3, r3, f3, _, q⟩ := k70 (d + 46) hs hE hk (e := 2) (by decide)
      have q := q (by show (2 : Int) ≠ 0; decide)
      have r73 : Cd (d + 48) 73 [vA 122] (s, c1) = some ([vI 0], (s, c3)) := by
        (try rw [c73 (hg := gC122 hs c1)]); (try rw [fC122 hs _ (by decide)]); (try rw [bnd_s]); (try rw [hE.1.1]); (try rw [fC122 hs _ (by decide)]); (try rw [bnd_s]); (try rw [hk.1]); (try rw [aC124 hs _ hi.1 (by omega)]); (try rw [bnd_s]); (try rw [htk]); (try rw [if_pos g3]); (try rw [fC122 hs _ (by decide)]); (try rw [bnd_s]); (try rw [hE.1.2.2.1]); (try rw [fC122 hs _ (by decide)]); (try rw [bnd_s]); (try rw [hk.1]); (try rw [aC126 hs _ hi.1 (by omega)]); (try rw [bnd_s]); (try rw [hnv]); (try rw [if_neg (show ¬ nvA T n (i + 1) = 1 by omega)]); (try rw [if_neg (show ¬ nvA T n (i + 1) = 2 by omega)]); (try rw [if_neg (show ¬ nvA T n (i + 1) = 3 by omega)]); (try rw [if_neg (show ¬ nvA T n (i + 1) = 6 by omega)]); (try rw [r3]); (try rw [bnd_s]); (try rw [tI_m]); (try rw [bnd_s]); (try rw [if_pos (Or.inl rfl)])
      rw [r73, bnd_s, tI_m, bnd_s] at r1
      refine Or.inl ⟨2, i + 1, c3, by decide, r1.trans (k72_0 d _), f1.tr f3.fc, q.1, q.2, fun m hM => ?_⟩
      obtain ⟨m1, fm1, E1, A1, ⟨z20, z0, z1, z2, z3⟩, rm⟩ := mb m hM
      rw [if_pos rfl] at rm
      have hr1 := MT_tr A1.1
      have t1 := (TkR_1 hr1).mpr g3
      have hu := TkR_n hr1 t1
      have eu : ∀ x : Int, x ≤ 9 → nvA T n (i + 1) ≠ x → ¬ m1 142 15 = x := fun x hx w e => w (by rw [hu.1, e]; unfold mn; rw [if_neg (by omega)])
      refine ⟨m1, ?_, fm1, A1.1⟩
      (try rw [rm]); (try rw [fC142 hs _ (by decide)]); (try rw [bnd_s]); (try rw [if_pos t1]); (try rw [fC142 hs _ (by decide)]); (try rw [bnd_s]); (try rw [if_neg (eu 1 (by decide) (by omega))]); (try rw [bnd_s]); (try rw [if_neg (eu 2 (by decide) (by omega))]); (try rw [bnd_s]); (try rw [if_neg (eu 3 (by decide) (by omega))]); (try rw [bnd_s]); (try rw [if_neg (eu 6 (by decide) (by omega))])
  · obtain ⟨c3, r3, f3, _, q⟩ := k70 (d + 46) hs hE hk (e := 1) (by decide)
    have q := q (by show (1 : Int) ≠ 0; decide)
    have r73 : Cd (d + 48) 73 [vA 122] (s, c1) = some ([vI 0], (s, c3)) := by
      (try rw [c73 (hg := gC122 hs c1)]); (try rw [fC122 hs _ (by decide)]); (try rw [bnd_s]); (try rw [hE.1.1]); (try rw [fC122 hs _ (by decide)]); (try rw [bnd_s]); (try rw [hk.1]); (try rw [aC124 hs _ hi.1 (by omega)]); (try rw [bnd_s]); (try rw [htk]); (try rw [if_neg g3]); (try rw [r3]); (try rw [bnd_s]); (try rw [tI_m]); (try rw [bnd_s]); (try rw [if_pos (Or.inl rfl)])
    rw [r73, bnd_s, tI_m, bnd_s] at r1
    refine Or.inl ⟨1, i + 1, c3, by decide, r1.trans (k72_0 d _), f1.tr f3.fc, q.1, q.2, fun m hM => ?_⟩
    obtain ⟨m1, fm1, E1, A1, ⟨z20, z0, z1, z2, z3⟩, rm⟩ := mb m hM
    rw [if_pos rfl] at rm
    refine ⟨m1, ?_, fm1, A1.1⟩
    (try rw [rm]); (try rw [fC142 hs _ (by decide)]); (try rw [bnd_s]); (try rw [if_neg (fun w => g3 ((TkR_1 (MT_tr A1.1)).mp w))])
theorem sim_2 (d d' : Nat) (hs : SpL s) (hk8 : k < 8) (hz : tkA T n K = 0) {c : Nat → Nat → Int} {i b sw on ak : Int} {X : List (Int × Int)} (h : BC T n K c i X b sw on ak) (hR : Rg b sw on ak X) (ht : tkA T n i = 11) (hbt : bt b 2 = false) : Out s T n K d d' k c i X b sw on ak := by
  have hb := hR.1
  have bo := bit_o hb.1 hb.2 (w := 2) (by omega) (by omega)
  obtain ⟨c1, f1, h1, r1⟩ := k72_b d hs hz h hb (w := 2) (by omega) (by omega) hbt
  rw [if_neg (by decide), if_pos rfl, pC122 hs _ _ (by decide), bnd_s] at r1
  obtain ⟨hE, hk, c10, c11, c12, c13⟩ := h1
  have bt4 : bt (ior b (ishl 1 2)) 4 = bt b 4 := by rw [bo.2.2.2]; simp
  have f2 : ∀ o j, ¬ (o = 122 ∧ 10 ≤ j ∧ j ≤ 13) → u2 c1 122 13 1 o j = c1 o j := fun o j g => u2_n (by omega)
  have h3 : BC T n K (u2 c1 122 13 1) (i + 1) X (ior b (ishl 1 2)) sw 1 ak := ⟨EV_w f2 hE, KS_w f2 hk, by rw [u2_n (by omega)]; exact c10, by rw [u2_n (by omega)]; exact c11, by rw [u2_n (by omega)]; exact c12, u2_e _ _ _ _⟩
  refine fin_s d d' hs hz h3 r1 (f1.tr (fun o j g1 g2 g3 g4 => f2 o j (by omega))) (by omega) ⟨bo.2.2.1, by rw [bt4]; exact hR.2.1, hR.2.2.1, Or.inr rfl, hR.2.2.2.2⟩ (fun m hM => ?_)
  obtain ⟨m1, fm1, E1, A1, ⟨z20, z0, z1, z2, z3⟩, rm⟩ := m217_b d' hs hz hM hb (w := 2) (by omega) (by omega) hbt
  rw [if_neg (by decide)] at rm
  have tx := tx_w hs hk8 E1 (f := 2) (by decide) 1
  refine ⟨u2 m1 145 (800 * k + 2) 1, some (vI 2), none, none, ?_, fm1.tr tx.2.1, tx.2.1.em E1, MA_w tx.2.2 A1, ?_, ?_, ?_, ?_, ?_⟩
  · (try rw [rm]); (try rw [c217_65]); (try rw [if_pos rfl]); (try rw [fC142 hs _ (by decide)]); (try rw [bnd_s]); (try rw [E1.1]); (try rw [fC142 hs _ (by decide)]); (try rw [bnd_s]); (try rw [E1.2.2.1]); (try rw [w32_id (z := 800 * (k : Int) + 2) (by omega) (by omega)]); (try rw [show (800 * (k : Int) + 2) = 800 * (k : Int) + ((2 : Nat) : Int) by omega]); (try rw [tx.1]); (try rw [bnd_s]); (try rw [m217_3 _ (by decide)]); (try rw [m217_4 _ (by decide)])
  · rw [u2_n (by omega)]; exact z20
  · rw [u2_n (by omega), bt4]; exact z0
  · rw [u2_n (by omega)]; exact z1
  · rw [u2_e]
  · rw [u2_n (by omega)]; exact z3
theorem sim_3 (d d' : Nat) (hs : SpL s) (hk8 : k < 8) (hz : tkA T n K = 0) {c : Nat → Nat → Int} {i b sw on ak : Int} {X : List (Int × Int)} (h : BC T n K c i X b sw on ak) (hR : Rg b sw on ak X) (ht : tkA T n i = 12) (hbt : bt b 3 = false) : Out s T n K d d' k c i X b sw on ak := by
  have hb := hR.1
  have bo := bit_o hb.1 hb.2 (w := 3) (by omega) (by omega)
  obtain ⟨c1, f1, h1, r1⟩ := k72_b d hs hz h hb (w := 3) (by omega) (by omega) hbt
  rw [if_neg (by decide), if_neg (by decide), if_pos rfl] at r1
  obtain ⟨hE, hk, c10, c11, c12, c13⟩ := h1
  have hi := hk.2.1
  have hK := hE.2.2.1
  have htk := tkr hE hk
  have bt4 : bt (ior b (ishl 1 3)) 4 = bt b 4 := by rw [bo.2.2.2]; simp
  have mb := fun m (hM : BM T n K k m i X b sw on ak) => m217_b d' hs hz hM hb (w := 3) (by omega) (by omega) hbt
  by_cases g : 14 ≤ tkA T n (i + 1) ∧ tkA T n (i + 1) ≤ 16
  · have f2 : ∀ o j, ¬ (o = 122 ∧ 10 ≤ j ∧ j ≤ 13) → u2 c1 122 12 (tkA T n (i + 1) - 14) o j = c1 o j := fun o j g => u2_n (by omega)
    obtain ⟨c3, r3, f3, s3⟩ := k71 (d + 46) hs (EV_w f2 hE) (KS_w f2 hk) (show tkA T n (i + 1) ≠ 0 by omega)
    have r74 : Cd (d + 48) 74 [vA 122] (s, c1) = some ([vI 1], (s, c3)) := by
      (try rw [c74 (hg := gC122 hs c1)]); (try rw [fC122 hs _ (by decide)]); (try rw [bnd_s]); (try rw [hE.1.1]); (try rw [fC122 hs _ (by decide)]); (try rw [bnd_s]); (try rw [hk.1]); (try rw [aC124 hs _ hi.1 (by omega)]); (try rw [bnd_s]); (try rw [htk]); (try rw [if_neg (show ¬ tkA T n (i + 1) < 14 by omega)]); (try rw [if_neg (show ¬ 16 < tkA T n (i + 1) by omega)]); (try rw [w32_id (z := tkA T n (i + 1) - 14) (by omega) (by omega)]); (try rw [pC122 hs _ _ (by decide)]); (try rw [bnd_s]); (try rw [r3]); (try rw [bnd_s]); (try rw [tV_m]); (try rw [bnd_s])
    rw [r74, bnd_s, tI_m, bnd_s] at r1
    have h3 : BC T n K c3 (i + 1 + 1) X (ior b (ishl 1 3)) sw on (tkA T n (i + 1) - 14) := by
      refine ⟨EV_of (EV_w f2 hE) f3, s3, ?_, ?_, ?_, ?_⟩
      · rw [f3 122 10 (by omega) (by omega) (by omega) (by omega), u2_n (by omega)]; exact c10
      · rw [f3 122 11 (by omega) (by omega) (by omega) (by omega), u2_n (by omega)]; exact c11
      · rw [f3 122 12 (by omega) (by omega) (by omega) (by omega), u2_e]
      · rw [f3 122 13 (by omega) (by omega) (by omega) (by omega), u2_n (by omega)]; exact c13
    refine fin_s d d' hs hz h3 r1 (f1.tr (fun o j g1 g2 g3 g4 => by rw [f3 o j (by omega) g2 g3 g4, f2 o j (by omega)])) (by omega) ⟨bo.2.2.1, by rw [bt4]; exact hR.2.1, hR.2.2.1, hR.2.2.2.1, by omega⟩ (fun m hM => ?_)
    obtain ⟨m1, fm1, E1, A1, ⟨z20, z0, z1, z2, z3⟩, rm⟩ := mb m hM
    rw [if_neg (by decide), m217_2 _ (by decide)] at rm
    have q15 := m202w (d' + 8) hs A1.1 (x := 15) (y := 482670637683) (by omega) (fun w => wc_15)
    have q16 := m202w (d' + 8) hs A1.1 (x := 16) (y := 465491092595) (by omega) (fun w => wc_16)
    have q14 := m202w (d' + 8) hs A1.1 (x := 14) (y := 27707084818969203) (by omega) (fun w => wc_14)
    have tx := tx_w hs hk8 E1 (f := 3) (by decide) (tkA T n (i + 1) - 14)
    have E2 := tx.2.1.em E1
    have A2 := MA_w tx.2.2 A1
    obtain ⟨m3, rm3, fm3, A3⟩ := m198a (d' + 5) hs hz E2 A2 (show tkA T n (i + 1) ≠ 0 by omega)
    have r133 : ∀ (v : Int) (o2 o3 : Option AV), v = tkA T n (i + 1) - 14 → Rr (Cd (d' + 9)) 217 133 [some (vA 142), some (vI 3), o2, o3] [vI v, vI (800 * (k : Int) + 3), vA 145] (s, m1) = Rr (Cd (d' + 9)) 217 152 [some (vA 142), some (vI 3), o2, o3] [] (s, m3) := fun v o2 o3 hv => by
      (try rw [c217_133]); (try rw [hv]); (try rw [show (800 * (k : Int) + 3) = 800 * (k : Int) + ((3 : Nat) : Int) by omega]); (try rw [tx.1]); (try rw [bnd_s]); (try rw [rm3]); (try rw [bnd_s]); (try rw [tV_m]); (try rw [bnd_s]); (try rw [m217_4 _ (by decide)])
    have r118 : ∀ p l : Int, ((p = 0 ∧ l = 0 ∧ tkA T n (i + 1) = 14) ∨ (p = 1 ∧ tkA T n (i + 1) = 15) ∨ (p = 0 ∧ l = 1 ∧ tkA T n (i + 1) = 16)) → Rr (Cd (d' + 9)) 217 118 [some (vA 142), some (vI 3), some (vI p), some (vI l)] [] (s, m1) = Rr (Cd (d' + 9)) 217 152 [some (vA 142), some (vI 3), some (vI p), some (vI l)] [] (s, m3) := fun p l hpl => by
      (try rw [c217_118]); (try rw [fC142 hs _ (by decide)]); (try rw [bnd_s]); (try rw [E1.1]); (try rw [fC142 hs _ (by decide)]); (try rw [bnd_s]); (try rw [E1.2.2.1]); (try rw [w32_id (z := 800 * (k : Int) + 3) (by omega) (by omega)])
      rcases hpl with ⟨e1, e2, e3⟩ | ⟨e1, e3⟩ | ⟨e1, e2, e3⟩
      · rw [if_pos e1, if_pos e2, r133 0 _ _ (by omega)]
      · rw [if_neg (show ¬ p = 0 by omega), r133 1 _ _ (by omega)]
      · rw [if_pos e1, if_neg (show ¬ l = 0 by omega), r133 2 _ _ (by omega)]
    have key : ∃ p l : Int, Cd (d' + 10) 217 [vA 142] (s, m) = Rr (Cd (d' + 9)) 217 152 [some (vA 142), some (vI 3), some (vI p), some (vI l)] [] (s, m3) := by
      by_cases x15 : tkA T n (i + 1) = 15
      · rw [decide_eq_true x15] at q15
        rw [decide_eq_false (show ¬ tkA T n (i + 1) = 16 by omega)] at q16
        refine ⟨1, 0, ?_⟩
        (try rw [rm]); (try rw [c217_76]); (try rw [if_pos rfl]); (try rw [w_pairs]); (try rw [bnd_s]); (try rw [tL_m]); (try rw [bnd_s]); (try rw [q15]); (try rw [bnd_s]); (try rw [tI_m]); (try rw [bnd_s]); (try rw [w_lands]); (try rw [bnd_s]); (try rw [tL_m]); (try rw [bnd_s]); (try rw [q16]); (try rw [bnd_s]); (try rw [tI_m]); (try rw [bnd_s]); (try rw [if_neg (show ¬ b2i true = 0 by decide)])
        exact r118 1 0 (Or.inr (Or.inl ⟨rfl, x15⟩))
      · rw [decide_eq_false x15] at q15
        by_cases x16 : tkA T n (i + 1) = 16
        · rw [decide_eq_true x16] at q16
          refine ⟨0, 1, ?_⟩
          (try rw [rm]); (try rw [c217_76]); (try rw [if_pos rfl]); (try rw [w_pairs]); (try rw [bnd_s]); (try rw [tL_m]); (try rw [bnd_s]); (try rw [q15]); (try rw [bnd_s]); (try rw [tI_m]); (try rw [bnd_s]); (try rw [w_lands]); (try rw [bnd_s]); (try rw [tL_m]); (try rw [bnd_s]); (try rw [q16]); (try rw [bnd_s]); (try rw [tI_m]); (try rw [bnd_s]); (try rw [if_pos (show b2i false = 0 from rfl)]); (try rw [if_neg (show ¬ b2i true = 0 by decide)])
          exact r118 0 1 (Or.inr (Or.inr ⟨rfl, rfl, x16⟩))
        · rw [decide_eq_false x16] at q16
          rw [decide_eq_true (show tkA T n (i + 1) = 14 by omega)] at q14
          refine ⟨0, 0, ?_⟩
          (try rw [rm]); (try rw [c217_76]); (try rw [if_pos rfl]); (try rw [w_pairs]); (try rw [bnd_s]); (try rw [tL_m]); (try rw [bnd_s]); (try rw [q15]); (try rw [bnd_s]); (try rw [tI_m]); (try rw [bnd_s]); (try rw [w_lands]); (try rw [bnd_s]); (try rw [tL_m]); (try rw [bnd_s]); (try rw [q16]); (try rw [bnd_s]); (try rw [tI_m]); (try rw [bnd_s]); (try rw [if_pos (show b2i false = 0 from rfl)]); (try rw [if_pos (show b2i false = 0 from rfl)]); (try rw [w_borde]); (try rw [bnd_s]); (try rw [tL_m]); (try rw [bnd_s]); (try rw [w_bordx]); (try rw [q14]); (try rw [bnd_s]); (try rw [tI_m]); (try rw [bnd_s]); (try rw [if_neg (show ¬ b2i true = 0 by decide)])
          exact r118 0 0 (Or.inl ⟨rfl, rfl, by omega⟩)
    obtain ⟨p, l, rk⟩ := key
    refine ⟨m3, some (vI 3), some (vI p), some (vI l), rk, (fm1.tr tx.2.1).tr (fm3.fm k).f2, (fm3.fm k).f2.em E2, A3, ?_, ?_, ?_, ?_, ?_⟩
    · rw [fm3 142 20 (by omega), u2_n (by omega)]; exact z20
    · rw [fm3 145 _ (by omega), u2_n (by omega), bt4]; exact z0
    · rw [fm3 145 _ (by omega), u2_n (by omega)]; exact z1
    · rw [fm3 145 _ (by omega), u2_n (by omega)]; exact z2
    · rw [fm3 145 _ (by omega), u2_e]
  · obtain ⟨c3, r3, f3, _, q⟩ := k70 (d + 46) hs hE hk (e := 1) (by decide)
    have q := q (by show (1 : Int) ≠ 0; decide)
    have r12 : ∀ o1, Rr (Cd (d + 47)) 74 12 [some (vA 122), o1] [] (s, c1) = some ([vI 0], (s, c3)) := fun o1 => by
      (try rw [c74_12]); (try rw [r3]); (try rw [bnd_s]); (try rw [tI_m]); (try rw [bnd_s]); (try rw [if_pos (Or.inl rfl)])
    have r74 : Cd (d + 48) 74 [vA 122] (s, c1) = some ([vI 0], (s, c3)) := by
      (try rw [c74 (hg := gC122 hs c1)]); (try rw [fC122 hs _ (by decide)]); (try rw [bnd_s]); (try rw [hE.1.1]); (try rw [fC122 hs _ (by decide)]); (try rw [bnd_s]); (try rw [hk.1]); (try rw [aC124 hs _ hi.1 (by omega)]); (try rw [bnd_s]); (try rw [htk])
      by_cases g2 : tkA T n (i + 1) < 14
      · rw [if_pos g2, r12]
      · rw [if_neg g2, if_pos (by omega), r12]
    rw [r74, bnd_s, tI_m, bnd_s] at r1
    refine Or.inl ⟨1, i + 1, c3, by decide, r1.trans (k72_0 d _), f1.tr f3.fc, q.1, q.2, fun m hM => ?_⟩
    obtain ⟨m1, fm1, E1, A1, ⟨z20, z0, z1, z2, z3⟩, rm⟩ := mb m hM
    rw [if_neg (by decide), m217_2 _ (by decide)] at rm
    have q15 := m202w (d' + 8) hs A1.1 (x := 15) (y := 482670637683) (by omega) (fun w => wc_15)
    have q16 := m202w (d' + 8) hs A1.1 (x := 16) (y := 465491092595) (by omega) (fun w => wc_16)
    have q14 := m202w (d' + 8) hs A1.1 (x := 14) (y := 27707084818969203) (by omega) (fun w => wc_14)
    rw [decide_eq_false (show ¬ tkA T n (i + 1) = 15 by omega)] at q15
    rw [decide_eq_false (show ¬ tkA T n (i + 1) = 16 by omega)] at q16
    rw [decide_eq_false (show ¬ tkA T n (i + 1) = 14 by omega)] at q14
    refine ⟨m1, ?_, fm1, A1.1⟩
    (try rw [rm]); (try rw [c217_76]); (try rw [if_pos rfl]); (try rw [w_pairs]); (try rw [bnd_s]); (try rw [tL_m]); (try rw [bnd_s]); (try rw [q15]); (try rw [bnd_s]); (try rw [tI_m]); (try rw [bnd_s]); (try rw [w_lands]); (try rw [bnd_s]); (try rw [tL_m]); (try rw [bnd_s]); (try rw [q16]); (try rw [bnd_s]); (try rw [tI_m]); (try rw [bnd_s]); (try rw [if_pos (show b2i false = 0 from rfl)]); (try rw [if_pos (show b2i false = 0 from rfl)]); (try rw [w_borde]); (try rw [bnd_s]); (try rw [tL_m]); (try rw [bnd_s]); (try rw [w_bordx]); (try rw [q14]); (try rw [bnd_s]); (try rw [tI_m]); (try rw [bnd_s]); (try rw [if_pos (show b2i false = 0 from rfl)])
theorem sim_4 (d d' : Nat) (hs : SpL s) (hk8 : k < 8) (hz : tkA T n K = 0) {c : Nat → Nat → Int} {i b sw on ak : Int} {X : List (Int × Int)} (h : BC T n K c i X b sw on ak) (hR : Rg b sw on ak X) (ht : tkA T n i = 13) (hbt : bt b 4 = false) : Out s T n K d d' k c i X b sw on ak := by
  have hb := hR.1
  have bo := bit_o hb.1 hb.2 (w := 4) (by omega) (by omega)
  obtain ⟨c1, f1, h1, r1⟩ := k72_b d hs hz h hb (w := 4) (by omega) (by omega) hbt
  rw [if_neg (by decide), if_neg (by decide), if_neg (by decide)] at r1
  have h1' := h1
  obtain ⟨hE, hk, c10, c11, c12, c13⟩ := h1
  have hi := hk.2.1
  have hK := hE.2.2.1
  have hX : X = [] := by
    rcases hR.2.1 with ⟨_, e⟩ | ⟨e, _⟩
    · exact e
    · rw [hbt] at e; cases e
  have bt4 : bt (ior b (ishl 1 4)) 4 = true := by rw [bo.2.2.2]; simp
  obtain ⟨c2, r2', f2, s2, e2⟩ := k75a hs hz (nv := nvA T n) d c1 (i + 1) X hE hk
  have r75 : Cd (d + 48) 75 [vA 122] (s, c1) = some ([vI (rv (orP (tkA T n) (nvA T n) (i + 1)))], (s, c2)) := r2'
  have mb := fun m (hM : BM T n K k m i X b sw on ak) => m217_b d' hs hz hM hb (w := 4) (by omega) (by omega) hbt
  by_cases hr : (orP (tkA T n) (nvA T n) (i + 1)).1 = 0
  · rw [r75, rv_1 hr, bnd_s, tI_m, bnd_s] at r1
    have w := (orP_w hz (nv := nvA T n) (i + 1) hi.1 hi.2).1
    have h3 := BC_fp f2 h1' (s2 hr)
    refine fin_s d d' hs hz h3 r1 (f1.tr f2.fc) (by omega) ⟨bo.2.2.1, Or.inr ⟨bt4, ?_⟩, hR.2.2.1, hR.2.2.2.1, hR.2.2.2.2⟩ (fun m hM => ?_)
    · rw [hX, List.nil_append]; exact orP_g _ _ (nvA_b T n) _ hr
    · obtain ⟨m1, fm1, E1, A1, ⟨z20, z0, z1, z2, z3⟩, rm⟩ := mb m hM
      rw [if_neg (by decide), m217_2 _ (by decide), m217_3 _ (by decide)] at rm
      obtain ⟨m2, rm2, fm2, e2', A2⟩ := m215 d' hs hk8 hz hK.2 E1 A1
      have A2 := A2 hr
      have E2 := EM_of fm2 E1
      have tx := tx_w hs hk8 E2 (f := 0) (by decide) 1
      have fm2' := fm2
      refine ⟨u2 m2 145 (800 * k + 0) 1, some (vI 4), some (vI 0), none, ?_, (fm1.tr fm2.f2).tr tx.2.1, tx.2.1.em E2, MA_w tx.2.2 A2, ?_, ?_, ?_, ?_, ?_⟩
      · (try rw [rm]); (try rw [c217_136]); (try rw [if_pos rfl]); (try rw [rm2]); (try rw [bnd_s]); (try rw [tI_m]); (try rw [bnd_s]); (try rw [if_pos hr]); (try rw [fC142 hs _ (by decide)]); (try rw [bnd_s]); (try rw [E2.1]); (try rw [fC142 hs _ (by decide)]); (try rw [bnd_s]); (try rw [E2.2.2.1]); (try rw [show (800 * (k : Int)) = 800 * (k : Int) + ((0 : Nat) : Int) by omega]); (try rw [tx.1]); (try rw [bnd_s]); (try rw [hr])
      · rw [u2_n (by omega), fm2 142 20 (by omega) (by omega) (by omega)]; exact z20
      · rw [show 800 * k = 800 * k + 0 by omega, u2_e, bt4]; rfl
      · rw [u2_n (by omega), fm2 145 _ (by omega) (by omega) (by omega)]; exact z1
      · rw [u2_n (by omega), fm2 145 _ (by omega) (by omega) (by omega)]; exact z2
      · rw [u2_n (by omega), fm2 145 _ (by omega) (by omega) (by omega)]; exact z3
  · rw [r75, rv_0 hr, bnd_s, tI_m, bnd_s] at r1
    have e2 := e2 hr
    refine Or.inl ⟨(orP (tkA T n) (nvA T n) (i + 1)).1, (orP (tkA T n) (nvA T n) (i + 1)).2.1, c2, hr, r1.trans (k72_0 d _), f1.tr f2.fc, e2.1, e2.2, fun m hM => ?_⟩
    obtain ⟨m1, fm1, E1, A1, ⟨z20, z0, z1, z2, z3⟩, rm⟩ := mb m hM
    rw [if_neg (by decide), m217_2 _ (by decide), m217_3 _ (by decide)] at rm
    obtain ⟨m2, rm2, fm2, e2', A2⟩ := m215 d' hs hk8 hz hK.2 E1 A1
    refine ⟨m2, ?_, fm1.tr fm2.f2, e2' hr⟩
    (try rw [rm]); (try rw [c217_136]); (try rw [if_pos rfl]); (try rw [rm2]); (try rw [bnd_s]); (try rw [tI_m]); (try rw [bnd_s]); (try rw [if_neg hr])
theorem sim (d d' : Nat) (hs : SpL s) (hk8 : k < 8) (hz : tkA T n K = 0) {c : Nat → Nat → Int} {i b sw on ak : Int} {X : List (Int × Int)} (h : BC T n K c i X b sw on ak) (hR : Rg b sw on ak X) : Out s T n K d d' k c i X b sw on ak := by
  have err : ∀ e : Int, ((e = 1 ∧ srt (tkA T n i) = 0) ∨ (e = 4 ∧ srt (tkA T n i) ≠ 0 ∧ bt b (srt (tkA T n i)) = true)) → Out s T n K d d' k c i X b sw on ak := fun e he => by
    obtain ⟨c', r, f, q1, q2⟩ := k72_a d hs h hR.1 he
    refine Or.inl ⟨e, i, c', by omega, r, f.fc, q1, q2, fun m hM => ⟨m, m217_a d' hs hM hR.1 he, FMt.rf k m, hM.2.1.1⟩⟩
  by_cases g1 : tkA T n i = 10
  · have e : srt (tkA T n i) = 1 := by rw [g1]; rfl
    cases hb : bt b 1 with
    | true => exact err 4 (Or.inr ⟨rfl, by rw [e]; decide, by rw [e]; exact hb⟩)
    | false => exact sim_1 d d' hs hk8 hz h hR g1 hb
  · by_cases g2 : tkA T n i = 11
    · have e : srt (tkA T n i) = 2 := by rw [g2]; rfl
      cases hb : bt b 2 with
      | true => exact err 4 (Or.inr ⟨rfl, by rw [e]; decide, by rw [e]; exact hb⟩)
      | false => exact sim_2 d d' hs hk8 hz h hR g2 hb
    · by_cases g3 : tkA T n i = 12
      · have e : srt (tkA T n i) = 3 := by rw [g3]; rfl
        cases hb : bt b 3 with
        | true => exact err 4 (Or.inr ⟨rfl, by rw [e]; decide, by rw [e]; exact hb⟩)
        | false => exact sim_3 d d' hs hk8 hz h hR g3 hb
      · by_cases g4 : tkA T n i = 13
        · have e : srt (tkA T n i) = 4 := by rw [g4]; rfl
          cases hb : bt b 4 with
          | true => exact err 4 (Or.inr ⟨rfl, by rw [e]; decide, by rw [e]; exact hb⟩)
          | false => exact sim_4 d d' hs hk8 hz h hR g4 hb
        · exact err 1 (Or.inl ⟨rfl, by unfold srt; rw [if_neg g1, if_neg g2, if_neg g3, if_neg g4]⟩)
/-- all clauses -/
theorem sim_l (d d' : Nat) (hs : SpL s) (hk8 : k < 8) (hz : tkA T n K = 0) : ∀ (f : Nat) (i v b sw on ak : Int) (c : Nat → Nat → Int) (X : List (Int × Int)), K ≤ i + f → 0 ≤ v → v ≤ i → BC T n K c i X b sw on ak → Rg b sw on ak X → (∃ e j c', e ≠ 0 ∧ Rr (Cd (d + 49)) 69 25 [some (vA 122), some (vI v)] [] (s, c) = some ([vI 0], (s, c')) ∧ FCl c c' ∧ c' 122 6 = e ∧ c' 122 7 = sts T n (Int.toNat j) ∧ ∀ m (o1 : Option AV), BM T n K k m i X b sw on ak → ∃ m', Rr (Cd (d' + 10)) 218 52 [some (vA 142), o1] [] (s, m) = some ([vI e], (s, m')) ∧ FMt k m m' ∧ MT T n j m') ∨ (∃ j X' b' sw' on' ak' c', Rr (Cd (d + 49)) 69 25 [some (vA 122), some (vI v)] [] (s, c) = some ([vI 1], (s, c')) ∧ FCl c c' ∧ BC T n K c' j X' b' sw' on' ak' ∧ Rg b' sw' on' ak' X' ∧ ∀ m (o1 : Option AV), BM T n K k m i X b sw on ak → ∃ m', Rr (Cd (d' + 10)) 218 52 [some (vA 142), o1] [] (s, m) = some ([vI 0], (s, m')) ∧ FMt k m m' ∧ BM T n K k m' j X' b' sw' on' ak') := by
  intro f
  have fin : ∀ (i v b sw on ak : Int) (c : Nat → Nat → Int) (X : List (Int × Int)), BC T n K c i X b sw on ak → Rg b sw on ak X → tkA T n i = 0 → (∃ j X' b' sw' on' ak' c', Rr (Cd (d + 49)) 69 25 [some (vA 122), some (vI v)] [] (s, c) = some ([vI 1], (s, c')) ∧ FCl c c' ∧ BC T n K c' j X' b' sw' on' ak' ∧ Rg b' sw' on' ak' X' ∧ ∀ m (o1 : Option AV), BM T n K k m i X b sw on ak → ∃ m', Rr (Cd (d' + 10)) 218 52 [some (vA 142), o1] [] (s, m) = some ([vI 0], (s, m')) ∧ FMt k m m' ∧ BM T n K k m' j X' b' sw' on' ak') := by
    intro i v b sw on ak c X h hR h0
    have h' := h
    obtain ⟨hE, hk, c10, c11, c12, c13⟩ := h
    have hi := hk.2.1
    have hK := hE.2.2.1
    have htk := tkr hE hk
    refine ⟨i, X, b, sw, on, ak, c, ?_, FCl.rf c, h', hR, fun m o1 hM => ⟨m, ?_, FMt.rf k m, hM⟩⟩
    · rw [c69_25]
      by_cases g : v < 300
      · (try rw [if_pos g]); (try rw [fC122 hs _ (by decide)]); (try rw [bnd_s]); (try rw [hE.1.1]); (try rw [fC122 hs _ (by decide)]); (try rw [bnd_s]); (try rw [hk.1]); (try rw [aC124 hs _ hi.1 (by omega)]); (try rw [bnd_s]); (try rw [htk]); (try rw [if_pos h0]); (try rw [c69_41])
      · rw [if_neg g, c69_41]
    · (try rw [c218_52]); (try rw [fC142 hs _ (by decide)]); (try rw [bnd_s]); (try rw [if_pos ((TkR_0 (MT_tr hM.2.1.1)).mpr h0)])
  induction f with
  | zero =>
    intro i v b sw on ak c X hf v0 vi h hR
    have hi := h.2.1.2.1
    have e : i = K := by omega
    exact Or.inr (fin i v b sw on ak c X h hR (by rw [e]; exact hz))
  | succ f ih =>
    intro i v b sw on ak c X hf v0 vi h hR
    by_cases h0 : tkA T n i = 0
    · exact Or.inr (fin i v b sw on ak c X h hR h0)
    · have h' := h
      obtain ⟨hE, hk, c10, c11, c12, c13⟩ := h
      have hi := hk.2.1
      have hK := hE.2.2.1
      have htk := tkr hE hk
      have hlt := tk_lt hz hi.2 h0
      rcases sim d d' hs hk8 hz h' hR with ⟨e, j, c1, he, r1, f1, q1, q2, hm⟩ | ⟨j, X1, b1, sw1, on1, ak1, c1, r1, f1, hij, h1, hR1, hm⟩
      · refine Or.inl ⟨e, j, c1, he, ?_, f1, q1, q2, fun m o1 hM => ?_⟩
        · (try rw [c69_25]); (try rw [if_pos (show v < 300 by omega)]); (try rw [fC122 hs _ (by decide)]); (try rw [bnd_s]); (try rw [hE.1.1]); (try rw [fC122 hs _ (by decide)]); (try rw [bnd_s]); (try rw [hk.1]); (try rw [aC124 hs _ hi.1 (by omega)]); (try rw [bnd_s]); (try rw [htk]); (try rw [if_neg h0]); (try rw [r1]); (try rw [bnd_s]); (try rw [tI_m]); (try rw [bnd_s]); (try rw [if_pos rfl])
        · obtain ⟨m1, rm, fm, t⟩ := hm m hM
          refine ⟨m1, ?_, fm, t⟩
          (try rw [c218_52]); (try rw [fC142 hs _ (by decide)]); (try rw [bnd_s]); (try rw [if_neg (fun w => h0 ((TkR_0 (MT_tr hM.2.1.1)).mp w))]); (try rw [rm]); (try rw [bnd_s]); (try rw [tI_m]); (try rw [bnd_s]); (try rw [if_neg he])
      · have st : Rr (Cd (d + 49)) 69 25 [some (vA 122), some (vI v)] [] (s, c) = Rr (Cd (d + 49)) 69 25 [some (vA 122), some (vI (v + 1))] [] (s, c1) := by
          (try rw [c69_25]); (try rw [if_pos (show v < 300 by omega)]); (try rw [fC122 hs _ (by decide)]); (try rw [bnd_s]); (try rw [hE.1.1]); (try rw [fC122 hs _ (by decide)]); (try rw [bnd_s]); (try rw [hk.1]); (try rw [aC124 hs _ hi.1 (by omega)]); (try rw [bnd_s]); (try rw [htk]); (try rw [if_neg h0]); (try rw [r1]); (try rw [bnd_s]); (try rw [tI_m]); (try rw [bnd_s]); (try rw [if_neg (show ¬ (1 : Int) = 0 by decide)]); (try rw [w32_id (z := v + 1) (by omega) (by omega)])
        have sm : ∀ m (o1 : Option AV), BM T n K k m i X b sw on ak → ∃ m' o1', Rr (Cd (d' + 10)) 218 52 [some (vA 142), o1] [] (s, m) = Rr (Cd (d' + 10)) 218 52 [some (vA 142), o1'] [] (s, m') ∧ FMt k m m' ∧ BM T n K k m' j X1 b1 sw1 on1 ak1 := fun m o1 hM => by
          obtain ⟨m1, rm, fm, t⟩ := hm m hM
          refine ⟨m1, some (vI 0), ?_, fm, t⟩
          (try rw [c218_52]); (try rw [fC142 hs _ (by decide)]); (try rw [bnd_s]); (try rw [if_neg (fun w => h0 ((TkR_0 (MT_tr hM.2.1.1)).mp w))]); (try rw [rm]); (try rw [bnd_s]); (try rw [tI_m]); (try rw [bnd_s]); (try rw [if_pos (show (0 : Int) = 0 from rfl)])
        rcases ih j (v + 1) b1 sw1 on1 ak1 c1 X1 (by omega) (by omega) (by omega) h1 hR1 with ⟨e, j2, c2, he, r2', f2, q1, q2, hm2⟩ | ⟨j2, X2, b2, sw2, on2, ak2, c2, r2', f2, h2, hR2, hm2⟩
        · refine Or.inl ⟨e, j2, c2, he, st.trans r2', f1.tr f2, q1, q2, fun m o1 hM => ?_⟩
          obtain ⟨m1, p1, rm, fm, t⟩ := sm m o1 hM
          obtain ⟨m2, rm2, fm2, t2⟩ := hm2 m1 p1 t
          exact ⟨m2, rm.trans rm2, fm.tr fm2, t2⟩
        · refine Or.inr ⟨j2, X2, b2, sw2, on2, ak2, c2, st.trans r2', f1.tr f2, h2, hR2, fun m o1 hM => ?_⟩
          obtain ⟨m1, p1, rm, fm, t⟩ := sm m o1 hM
          obtain ⟨m2, rm2, fm2, t2⟩ := hm2 m1 p1 t
          exact ⟨m2, rm.trans rm2, fm.tr fm2, t2⟩
end
