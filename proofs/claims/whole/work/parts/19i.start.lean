/-! the start: all holds behind the two makers -/
theorem hst0 (L : Nat) (xs : Nat → Int32) (hL : L ≤ 3072) : ∃ s c, Cd 1000 302 [vA 1] (xSh L, xCt xs) = Rr (Cd 999) 302 10 [some (vA 1), some (vA 29), some (vA 142), some (vI 0)] [] (s, c) ∧ Inv s c 0 ∧ ∃ E, s = xSh L ++ E := by
  have l0 := xSh_len L
  have q0 : (xSh L ++ [(11, 7)])[29]? = some (11, 7) := at_e l0
  obtain ⟨cX, rX, fX, clX⟩ := n116 996 (c := mkC (xCt xs) 29 11) (o := 29) (by omega) q0 (by rw [List.length_append, l0]; rfl)
  obtain ⟨SX, eX⟩ : ∃ S, S = xSh L ++ [(11, 7)] ++ clB := ⟨_, rfl⟩
  rw [← eX] at rX
  have lX : SX.length = 142 := by rw [eX, List.length_append, List.length_append, l0]; rfl
  have qX : (SX ++ [(12, 44)])[142]? = some (12, 44) := at_e lX
  obtain ⟨SY, cY, rY, eY, yY⟩ := n170a 998 (s := SX ++ [(12, 44)]) (c := mkC cX 142 12) (p := 142) (by omega) qX (by rw [List.length_append, lX]; rfl)
  have hN : SpN SY 0 := by
    refine ⟨L, hL, ?_⟩
    rw [eY, eX]
    simp [tlShp, clB, mdB, rdB, stShp]
  obtain ⟨y1, y2, y3, y4⟩ := yY
  have yF : ∀ q : Nat × Int, q ∈ mdF 142 → cY 142 q.1 = q.2 := y3
  have h0 : cY 142 0 = 143 := yF (0, 143) (by decide)
  have h1 : cY 142 1 = 144 := yF (1, 144) (by decide)
  have g1 : ∀ k, k < 340 → cY 143 k = 0 := fun k hk => y4 (1, 340, dfl 100) (by unfold mdG; repeat (first | exact List.Mem.head _ | apply List.Mem.tail)) k hk
  have g4 : ∀ k, k < 18 → cY 146 k = ([0, 1, 2, 1, 0, 2, 1, 2, 0, 2, 0, 1, 0, 2, 1, 2, 1, 0] : List Int).getD k 0 := fun k hk => y4 (4, 18, fun k => ([0, 1, 2, 1, 0, 2, 1, 2, 0, 2, 0, 1, 0, 2, 1, 2, 1, 0] : List Int).getD k 0) (by unfold mdG; repeat (first | exact List.Mem.head _ | apply List.Mem.tail)) k hk
  have g5 : ∀ k, k < 8 → cY 147 k = ([1, 3, 9, 27, 81, 243, 729, 2187] : List Int).getD k 0 := fun k hk => y4 (5, 8, fun k => ([1, 3, 9, 27, 81, 243, 729, 2187] : List Int).getD k 0) (by unfold mdG; repeat (first | exact List.Mem.head _ | apply List.Mem.tail)) k hk
  obtain ⟨cZ, rZ, fZ, v1, v2⟩ := n170_e 997 hN.l cY h0 h1 g1
  have F : ∀ o k, o < 142 → cZ o k = cX o k := fun o k ho => by rw [fZ o k (by omega) (by omega), y1 o k ho, mkC_n (by omega)]
  have cl : ClF cZ 29 := ClF_of clX (fun i k h1 h2 => F i k (by omega))
  have z142 : ∀ k, cZ 142 k = cY 142 k := fun k => fZ _ _ (by decide) (by decide)
  have z9 : cZ 142 9 = 0 := by rw [z142, y2 9 (by decide), mkC_e]; rfl
  have z10 : cZ 142 10 = -1 := by rw [z142]; exact yF (10, -1) (by decide)
  have z11 : cZ 142 11 = -1 := by rw [z142]; exact yF (11, -1) (by decide)
  have w0 : cZ 143 0 = 0 := v1 0 (by decide)
  have ch : ∀ m, m < 4 → cZ (40 + 5 * m) 6 = -1 := fun m hm => by
    have := (cl.2.1.2.2.2.2.1 m hm).2.2
    rw [show 29 + 1 + 10 + 5 * m = 40 + 5 * m by omega] at this; exact this
  refine ⟨SY, cZ, ?_, ⟨hN, ⟨xs, fun i k hi => ?_⟩, ⟨fun q hq => ?_, fun k hk => ?_, fun k hk => ?_⟩, CS0 cl, StRel0 v1 cl.2.1, StRel0 v2 cl.2.2.1, ?_, ⟨fun m hm => Or.inl (ch m hm), fun m m' hm _ _ _ => ch m hm⟩, fun m _ hm => ?_, ⟨?_, fun i a b => ?_, ?_, ?_⟩⟩, ?_⟩
  · have rX' : Cd 999 116 [vA ((29 : Nat) : Int)] (xSh L ++ [(11, 7)], mkC (xCt xs) 29 11) = some ([], (SX, cX)) := rX
    have rY' : Cd 999 170 [vA ((142 : Nat) : Int)] (SX ++ [(12, 44)], mkC cX 142 12) = some ([], (SY, cZ)) := rY.trans rZ
    rw [show (1000 : Nat) = 999 + 1 from rfl, c302]
    dsimp only
    rw [mk_p, l0, rX', bnd_s, tV_m, bnd_s]
    dsimp only
    rw [mk_p, lX, rY', bnd_s, tV_m, bnd_s]
    rfl
  · rw [F i k (by omega), fX i k hi, mkC_n (by omega)]
  · rw [z142]
    exact yF q ((show ∀ q ∈ mRefs, q ∈ mdF 142 by decide) q hq)
  · rw [fZ _ _ (by decide) (by decide), g4 k hk]; rfl
  · rw [fZ _ _ (by decide) (by decide), g5 k hk]
    exact (show ∀ k, k < 8 → ([1, 3, 9, 27, 81, 243, 729, 2187] : List Int).getD k 0 = (3 : Int) ^ k by decide) k hk
  · rw [v1 1 (by decide), v2 1 (by decide)]; exact Int.le_refl _
  · rw [w0] at hm; omega
  · refine ⟨?_, by omega, by omega⟩
    rw [z9]; exact cl.2.2.2.1.2.1.1
  · omega
  · rw [z10]; exact cl.2.2.2.1.2.1.2.1
  · rw [z11]; exact cl.2.2.2.1.2.1.2.2
  · exact ⟨[(11, 7)] ++ clB ++ [(12, 44)] ++ mdB, by rw [eY, eX]; simp only [List.append_assoc]⟩
theorem law_of_showing (hsh : Op 125 219 []) : LawOK := law_of hsh hst0
