/-! the reference's pile, step by step -/
def MSt (T : Int → Int) (n K : Int) (k : Nat) (c : Nat → Nat → Int) (i o w : Int) (B : List Int) (X : List (Int × Int)) : Prop := MT T n i c ∧ (0 ≤ i ∧ i ≤ K) ∧ PX k c o B X ∧ c 142 24 = w ∧ (X.length : Int) + (B.length : Int) ≤ i ∧ (-(X.length : Int) - i ≤ o ∧ o ≤ 8)
def MA (T : Int → Int) (n K : Int) (k : Nat) (c : Nat → Nat → Int) (i o : Int) (X : List (Int × Int)) : Prop := MT T n i c ∧ (0 ≤ i ∧ i ≤ K) ∧ c 142 23 = o ∧ c 142 19 = (X.length : Int) ∧ StpM k c X ∧ (X.length : Int) ≤ i
def Gm (s : List (Nat × Nat)) (T : Int → Int) (n K : Int) (d k : Nat) (c0 : Nat → Nat → Int) (Rp : Int → (Nat → Nat → Int) → Prop) (i o w : Int) (B : List Int) (X : List (Int × Int)) : Prop := ∀ c, FM k c0 c → MSt T n K k c i o w B X → ∀ o1 : Option AV, ∃ e c', Rr (Cd (d + 6)) 212 6 [some (vA 142), o1] [] (s, c) = some ([vI e], (s, c')) ∧ FM k c0 c' ∧ Rp e c'
def Ge (T : Int → Int) (n : Int) (k : Nat) (c0 : Nat → Nat → Int) (Rp : Int → (Nat → Nat → Int) → Prop) (e i : Int) : Prop := ∀ c, FM k c0 c → MT T n i c → Rp e c
def Gf (T : Int → Int) (n K : Int) (k : Nat) (c0 : Nat → Nat → Int) (Rp : Int → (Nat → Nat → Int) → Prop) (i o : Int) (X : List (Int × Int)) : Prop := ∀ c, FM k c0 c → MA T n K k c i o X → Rp 0 c
section
variable {s : List (Nat × Nat)} {c c1 c2 : Nat → Nat → Int}
theorem g_0 (d : Nat) (hs : SpL s) (hw : c 142 24 = 0) (o1 : Option AV) (r : Cd (d + 6) 208 [vA 142] (s, c) = some ([vI 0], (s, c1))) : Rr (Cd (d + 6)) 212 6 [some (vA 142), o1] [] (s, c) = Rr (Cd (d + 6)) 212 6 [some (vA 142), some (vI 0)] [] (s, c1) := by
  (try rw [c212_6]); (try rw [fC142 hs _ (by decide)]); (try rw [bnd_s]); (try rw [hw]); (try rw [if_pos rfl]); (try rw [c212_12]); (try rw [fC142 hs _ (by decide)]); (try rw [bnd_s]); (try rw [hw]); (try rw [if_pos rfl]); (try rw [r]); (try rw [bnd_s]); (try rw [tI_m]); (try rw [bnd_s]); (try rw [c212_20]); (try rw [if_pos rfl])
theorem g_e (d : Nat) (hs : SpL s) (hw : c 142 24 = 0) (o1 : Option AV) {e : Int} (he : e ≠ 0) (r : Cd (d + 6) 208 [vA 142] (s, c) = some ([vI e], (s, c1))) : Rr (Cd (d + 6)) 212 6 [some (vA 142), o1] [] (s, c) = some ([vI e], (s, c1)) := by
  (try rw [c212_6]); (try rw [fC142 hs _ (by decide)]); (try rw [bnd_s]); (try rw [hw]); (try rw [if_pos rfl]); (try rw [c212_12]); (try rw [fC142 hs _ (by decide)]); (try rw [bnd_s]); (try rw [hw]); (try rw [if_pos rfl]); (try rw [r]); (try rw [bnd_s]); (try rw [tI_m]); (try rw [bnd_s]); (try rw [c212_20]); (try rw [if_neg he])
theorem g_1 (d : Nat) (hs : SpL s) (hw : c 142 24 = 1) (o1 : Option AV) (r0 : Cd (d + 6) 210 [vA 142] (s, c) = some ([vI 1], (s, c))) (r : Cd (d + 6) 211 [vA 142] (s, c) = some ([vI 0], (s, c1))) : Rr (Cd (d + 6)) 212 6 [some (vA 142), o1] [] (s, c) = Rr (Cd (d + 6)) 212 6 [some (vA 142), some (vI 0)] [] (s, c1) := by
  (try rw [c212_6]); (try rw [fC142 hs _ (by decide)]); (try rw [bnd_s]); (try rw [hw]); (try rw [if_neg (by decide)]); (try rw [r0]); (try rw [bnd_s]); (try rw [tI_m]); (try rw [bnd_s]); (try rw [if_neg (show ¬ (1 : Int) = 0 by decide)]); (try rw [c212_12]); (try rw [fC142 hs _ (by decide)]); (try rw [bnd_s]); (try rw [hw]); (try rw [if_neg (by decide)]); (try rw [r]); (try rw [bnd_s]); (try rw [tI_m]); (try rw [bnd_s]); (try rw [c212_20]); (try rw [if_pos rfl])
theorem g_2 (d : Nat) (hs : SpL s) (hw : c 142 24 = 1) (o1 : Option AV) (r0 : Cd (d + 6) 210 [vA 142] (s, c) = some ([vI 0], (s, c))) (r : Cd (d + 6) 206 [vA 142, vI 3] (s, c) = some ([], (s, c1))) {l : Nat} (hl : c1 142 22 = (l : Int)) : Rr (Cd (d + 6)) 212 6 [some (vA 142), o1] [] (s, c) = some ([vI (if 0 < l then 1 else 0)], (s, c1)) := by
  (try rw [c212_6]); (try rw [fC142 hs _ (by decide)]); (try rw [bnd_s]); (try rw [hw]); (try rw [if_neg (by decide)]); (try rw [r0]); (try rw [bnd_s]); (try rw [tI_m]); (try rw [bnd_s]); (try rw [if_pos (show (0 : Int) = 0 from rfl)]); (try rw [r]); (try rw [bnd_s]); (try rw [tV_m]); (try rw [bnd_s]); (try rw [fC142 hs _ (by decide)]); (try rw [bnd_s]); (try rw [hl])
  by_cases g : 0 < l
  · rw [if_pos (show (0 : Int) < (l : Int) by omega), c212_35, if_pos g]
  · rw [if_neg (show ¬ (0 : Int) < (l : Int) by omega), c212_35, if_neg g]
end
theorem m_em (d : Nat) {s : List (Nat × Nat)} {T : Int → Int} {n K : Int} {k : Nat} (hs : SpL s) (hk : k < 8) (hz : tkA T n K = 0) (hK : K ≤ 300) {c : Nat → Nat → Int} {i o w : Int} {m : Nat} {B : List Int} {X : List (Int × Int)} (hE : EM T n k c) (h : MSt T n K k c i o w (r2 m ++ B) X) (ht : tkA T n i ≠ 0) (hB : Hd (· ≠ 2) B) (hm : m ≤ 60) (hBl : B.length ≤ 60) (q : Int × Int) : ∃ c1 c2 c3, Cd (d + 5) 203 [vA 142, vI q.1, vI q.2] (s, c) = some ([], (s, c1)) ∧ Cd (d + 5) 198 [vA 142] (s, c1) = some ([], (s, c2)) ∧ Cd (d + 5) 205 [vA 142] (s, c2) = some ([], (s, c3)) ∧ FM k c c3 ∧ MSt T n K k c3 (i + 1) (o - (m : Int)) 1 B (X ++ [q] ++ rp m) := by
  obtain ⟨h1, h2, h3, h4, h5, h6⟩ := h
  have hlt := tk_lt hz h2.2 ht
  rw [List.length_append, r2_l] at h5
  obtain ⟨c1, r1, f1, p1, w1⟩ := m203 (d + 4) hs hk hE h3 (by omega) q
  have E1 := EM_of f1.fm hE
  obtain ⟨c2, r2', f2, p2⟩ := m198n (d + 1) hs E1.2.2.2 h2.1 (MT_fq f1 h1) ht
  have E2 := EM_of (f2.fm k) E1
  have hl1 : (X ++ [q]).length = X.length + 1 := by rw [List.length_append]; rfl
  obtain ⟨c3, r3, f3, p3, w3⟩ := m205 (d + 3) hs hk hB hBl hm (by rw [hl1]; omega) (by omega) (by omega) E2 (PX_ft f2 p1)
  refine ⟨c1, c2, c3, r1, r2', r3, (f1.fm.tr (f2.fm k)).tr f3.fm, MT_fq f3 p2, ⟨by omega, hlt⟩, p3, w3, ?_, ?_⟩
  · rw [List.length_append, hl1, show (rp m).length = m from List.length_replicate]; omega
  · rw [List.length_append, hl1, show (rp m).length = m from List.length_replicate]; omega
theorem opnd_nm {tk nv : Int → Int} {i : Int} (h : tk i = 97 ∨ tk i = 98 ∨ tk i = 120 ∨ tk i = 121) : opnd tk nv i = pOk (i + 1) [(1, nmT (tk i))] ∧ 0 ≤ nmT (tk i) := by
  unfold opnd nmT
  rcases h with h | h | h | h <;> rw [h] <;> exact ⟨rfl, by decide⟩
theorem nmT_n {x : Int} (h : ¬ (x = 97 ∨ x = 98 ∨ x = 120 ∨ x = 121)) : nmT x = -1 := by
  unfold nmT
  rw [if_neg (by omega), if_neg (by omega), if_neg (by omega), if_neg (by omega)]
theorem opnd_o {tk nv : Int → Int} {i : Int} (h3 : tk i ≠ 3) (h : ¬ (tk i = 97 ∨ tk i = 98 ∨ tk i = 120 ∨ tk i = 121)) : opnd tk nv i = pEr 1 i := by
  unfold opnd
  rw [if_neg h3, if_neg (by omega), if_neg (by omega), if_neg (by omega), if_neg (by omega)]
theorem mn_l {u v : Int} (h : v = mn u) (hv : v ≤ 9999) : u = v := by unfold mn at h; split at h <;> omega
theorem mn_g {u v : Int} (h : v = mn u) (hv : 9999 < v) : 9999 < u := by unfold mn at h; split at h <;> omega
section
variable {s : List (Nat × Nat)} {T : Int → Int} {n K : Int} {k : Nat} {c0 : Nat → Nat → Int} {Rp : Int → (Nat → Nat → Int) → Prop}
theorem Gs1 (d : Nat) (hs : SpL s) (hk : k < 8) (hz : tkA T n K = 0) (hK : K ≤ 300) (hE0 : EM T n k c0) (i o : Int) (m : Nat) (B : List Int) (X : List (Int × Int)) (n1 : tkA T n i ≠ 40) (n2 : tkA T n i ≠ 45) (hr : (opnd (tkA T n) (nvA T n) i).1 = 0) (hB : Hd (· ≠ 2) B) (hm : m ≤ 60) (hBl : B.length ≤ 60) (H : Gm s T n K d k c0 Rp (opnd (tkA T n) (nvA T n) i).2.1 (o - (m : Int)) 1 B (X ++ (opnd (tkA T n) (nvA T n) i).2.2 ++ rp m)) : Gm s T n K d k c0 Rp i o 0 (r2 m ++ B) X := by
  intro c hF hM o1
  have hE := EM_of hF hE0
  have hr1 := MT_tr hM.1
  have h24 := hM.2.2.2.1
  by_cases h3 : tkA T n i = 3
  · have t1 := (TkR_1 hr1).mpr h3
    have hu := TkR_n hr1 t1
    by_cases h9 : 9999 < nvA T n i
    · have e : opnd (tkA T n) (nvA T n) i = pEr 2 i := by unfold opnd; rw [if_pos h3, if_pos h9]
      rw [e] at hr; exact absurd hr (by show ¬ (2 : Int) = 0; decide)
    · have e : opnd (tkA T n) (nvA T n) i = pOk (i + 1) [(0, nvA T n i)] := by unfold opnd; rw [if_pos h3, if_neg h9]
      rw [e] at H
      have eu := mn_l hu.1 (by omega)
      obtain ⟨c1, c2, c3, r1, r2', r3, f3, M3⟩ := m_em d hs hk hz hK hE hM (by omega) hB hm hBl (0, nvA T n i)
      have r208 : Cd (d + 6) 208 [vA 142] (s, c) = some ([vI 0], (s, c3)) := by
        (try rw [c208 (hg := gC142 hs c)]); (try rw [fC142 hs _ (by decide)]); (try rw [bnd_s]); (try rw [if_pos t1]); (try rw [fC142 hs _ (by decide)]); (try rw [bnd_s]); (try rw [eu]); (try rw [if_neg h9]); (try rw [bnd_s]); (try rw [r1]); (try rw [bnd_s]); (try rw [tV_m]); (try rw [bnd_s]); (try rw [r2']); (try rw [bnd_s]); (try rw [tV_m]); (try rw [bnd_s]); (try rw [r3]); (try rw [bnd_s]); (try rw [tV_m]); (try rw [bnd_s])
      rw [g_0 d hs h24 o1 r208]
      exact H c3 (hF.tr f3) M3 _
  · by_cases hN : tkA T n i = 97 ∨ tkA T n i = 98 ∨ tkA T n i = 120 ∨ tkA T n i = 121
    · have e := opnd_nm (nv := nvA T n) hN
      rw [e.1] at H
      obtain ⟨c1, c2, c3, r1, r2', r3, f3, M3⟩ := m_em d hs hk hz hK hE hM (by omega) hB hm hBl (1, nmT (tkA T n i))
      have r208 : Cd (d + 6) 208 [vA 142] (s, c) = some ([vI 0], (s, c3)) := by
        have r7 := m207 (d + 4) hs hM.1
        (try rw [c208 (hg := gC142 hs c)]); (try rw [fC142 hs _ (by decide)]); (try rw [bnd_s]); (try rw [if_neg (fun w => h3 ((TkR_1 hr1).mp w))]); (try rw [r7]); (try rw [bnd_s]); (try rw [tI_m]); (try rw [bnd_s]); (try rw [if_neg (show ¬ nmT (tkA T n i) < 0 by omega)]); (try rw [r7]); (try rw [bnd_s]); (try rw [tI_m]); (try rw [bnd_s]); (try rw [r1]); (try rw [bnd_s]); (try rw [tV_m]); (try rw [bnd_s]); (try rw [r2']); (try rw [bnd_s]); (try rw [tV_m]); (try rw [bnd_s]); (try rw [r3]); (try rw [bnd_s]); (try rw [tV_m]); (try rw [bnd_s])
      rw [g_0 d hs h24 o1 r208]
      exact H c3 (hF.tr f3) M3 _
    · rw [opnd_o h3 hN] at hr; exact absurd hr (by show ¬ (1 : Int) = 0; decide)
theorem Gs2 (d : Nat) (hs : SpL s) (hE0 : EM T n k c0) (i o : Int) (B : List Int) (X : List (Int × Int)) (n1 : tkA T n i ≠ 40) (n2 : tkA T n i ≠ 45) (hr : (opnd (tkA T n) (nvA T n) i).1 ≠ 0) (H : Ge T n k c0 Rp (opnd (tkA T n) (nvA T n) i).1 (opnd (tkA T n) (nvA T n) i).2.1) : Gm s T n K d k c0 Rp i o 0 B X := by
  intro c hF hM o1
  have hE := EM_of hF hE0
  have hr1 := MT_tr hM.1
  have h24 := hM.2.2.2.1
  by_cases h3 : tkA T n i = 3
  · have t1 := (TkR_1 hr1).mpr h3
    have hu := TkR_n hr1 t1
    by_cases h9 : 9999 < nvA T n i
    · have e : opnd (tkA T n) (nvA T n) i = pEr 2 i := by unfold opnd; rw [if_pos h3, if_pos h9]
      rw [e] at H
      have r208 : Cd (d + 6) 208 [vA 142] (s, c) = some ([vI 2], (s, c)) := by
        (try rw [c208 (hg := gC142 hs c)]); (try rw [fC142 hs _ (by decide)]); (try rw [bnd_s]); (try rw [if_pos t1]); (try rw [fC142 hs _ (by decide)]); (try rw [bnd_s]); (try rw [if_pos (mn_g hu.1 h9)])
      exact ⟨2, c, g_e d hs h24 o1 (by decide) r208, hF, H c hF hM.1⟩
    · have e : opnd (tkA T n) (nvA T n) i = pOk (i + 1) [(0, nvA T n i)] := by unfold opnd; rw [if_pos h3, if_neg h9]
      rw [e] at hr; exact absurd rfl hr
  · by_cases hN : tkA T n i = 97 ∨ tkA T n i = 98 ∨ tkA T n i = 120 ∨ tkA T n i = 121
    · rw [(opnd_nm (nv := nvA T n) hN).1] at hr; exact absurd rfl hr
    · rw [opnd_o h3 hN] at H
      have r208 : Cd (d + 6) 208 [vA 142] (s, c) = some ([vI 1], (s, c)) := by
        have r7 := m207 (d + 4) hs hM.1
        rw [nmT_n hN] at r7
        (try rw [c208 (hg := gC142 hs c)]); (try rw [fC142 hs _ (by decide)]); (try rw [bnd_s]); (try rw [if_neg (fun w => h3 ((TkR_1 hr1).mp w))]); (try rw [r7]); (try rw [bnd_s]); (try rw [tI_m]); (try rw [bnd_s]); (try rw [if_pos (show (-1 : Int) < 0 by decide)]); (try rw [fC142 hs _ (by decide)]); (try rw [bnd_s]); (try rw [if_neg (fun w => n1 ((TkR_g hr1 40 (by omega)).mp w))]); (try rw [fC142 hs _ (by decide)]); (try rw [bnd_s]); (try rw [if_neg (fun w => n2 ((TkR_g hr1 45 (by omega)).mp w))]); (try rw [c208_48]); (try rw [if_pos rfl])
      exact ⟨1, c, g_e d hs h24 o1 (by decide) r208, hF, H c hF hM.1⟩
/-- at a paren or a minus -/
theorem m208_48 (d : Nat) (hs : SpL s) {c : Nat → Nat → Int} {i : Int} (hM : MT T n i c) (h : tkA T n i = 40 ∨ tkA T n i = 45) : Cd (d + 6) 208 [vA 142] (s, c) = Rr (Cd (d + 5)) 208 48 [some (vA 142), none] [vI (if tkA T n i = 40 then 40 else 2)] (s, c) := by
  have hr1 := MT_tr hM
  have r7 := m207 (d + 4) hs hM
  rw [nmT_n (by omega)] at r7
  have h3 : ¬ c 142 14 = 1 := fun w => by have := (TkR_1 hr1).mp w; omega
  have e0 := TkR_g hr1 40 (by omega)
  have e5 := TkR_g hr1 45 (by omega)
  (try rw [c208 (hg := gC142 hs c)]); (try rw [fC142 hs _ (by decide)]); (try rw [bnd_s]); (try rw [if_neg h3]); (try rw [r7]); (try rw [bnd_s]); (try rw [tI_m]); (try rw [bnd_s]); (try rw [if_pos (show (-1 : Int) < 0 by decide)]); (try rw [fC142 hs _ (by decide)]); (try rw [bnd_s])
  by_cases g : tkA T n i = 40
  · rw [if_pos (e0.mpr g), if_pos g]
  · (try rw [if_neg (fun w => g (e0.mp w))]); (try rw [bnd_s]); (try rw [if_pos (e5.mpr (by omega))]); (try rw [if_neg g])
theorem Gs3 (d : Nat) (hs : SpL s) (hE0 : EM T n k c0) (i : Int) (B : List Int) (X : List (Int × Int)) (h : tkA T n i = 40 ∨ tkA T n i = 45) (H : Ge T n k c0 Rp 3 i) : Gm s T n K d k c0 Rp i 8 0 B X := by
  intro c hF hM o1
  have r208 : Cd (d + 6) 208 [vA 142] (s, c) = some ([vI 3], (s, c)) := by
    (try rw [m208_48 d hs hM.1 h]); (try rw [c208_48]); (try rw [if_neg (by split <;> decide)]); (try rw [fC142 hs _ (by decide)]); (try rw [bnd_s]); (try rw [hM.2.2.1.1]); (try rw [if_pos rfl])
  exact ⟨3, c, g_e d hs hM.2.2.2.1 o1 (by decide) r208, hF, H c hF hM.1⟩
theorem Gs45 (d : Nat) (hs : SpL s) (hk : k < 8) (hz : tkA T n K = 0) (hK : K ≤ 300) (hE0 : EM T n k c0) (i o : Int) (B : List Int) (X : List (Int × Int)) (h : tkA T n i = 40 ∨ tkA T n i = 45) (h8 : o < 8) (hBl : B.length ≤ 60) (H : Gm s T n K d k c0 Rp (i + 1) (o + 1) 0 ((if tkA T n i = 40 then 40 else 2) :: B) X) : Gm s T n K d k c0 Rp i o 0 B X := by
  intro c hF hM o1
  have hE := EM_of hF hE0
  obtain ⟨h1, h2, h3, h4, h5, h6⟩ := hM
  have hlt := tk_lt hz h2.2 (show tkA T n i ≠ 0 by omega)
  have f1 : FQ k c (u2 c 142 23 (o + 1)) := (FQ.rf k c).u _ (by omega)
  have p1 : PX k (u2 c 142 23 (o + 1)) (o + 1) B X := ⟨u2_e _ _ _ _, by rw [u2_n (by omega)]; exact h3.2.1, Pl_of _ h3.2.2.1 (fun j _ => u2_n (by omega)), by rw [u2_n (by omega)]; exact h3.2.2.2.1, fun j q hq => by rw [u2_n (by omega), u2_n (by omega)]; exact h3.2.2.2.2 j q hq⟩
  obtain ⟨c2, r2', f2, p2, w2⟩ := m204 (d + 4) hs (EM_of f1.fm hE) p1 (by omega) (if tkA T n i = 40 then 40 else 2)
  have E2 := EM_of (f1.tr f2).fm hE
  obtain ⟨c3, r3, f3, p3⟩ := m198n (d + 1) hs E2.2.2.2 h2.1 (MT_fq (f1.tr f2) h1) (show tkA T n i ≠ 0 by omega)
  have r208 : Cd (d + 6) 208 [vA 142] (s, c) = some ([vI 0], (s, c3)) := by
    (try rw [m208_48 d hs h1 h]); (try rw [c208_48]); (try rw [if_neg (by split <;> decide)]); (try rw [fC142 hs _ (by decide)]); (try rw [bnd_s]); (try rw [h3.1]); (try rw [if_neg (show ¬ o = 8 by omega)]); (try rw [fC142 hs _ (by decide)]); (try rw [bnd_s]); (try rw [h3.1]); (try rw [pC142 hs _ _ (by decide)]); (try rw [bnd_s]); (try rw [w32_id (z := o + 1) (by omega) (by omega)]); (try rw [r2']); (try rw [bnd_s]); (try rw [tV_m]); (try rw [bnd_s]); (try rw [r3]); (try rw [bnd_s]); (try rw [tV_m]); (try rw [bnd_s])
  rw [g_0 d hs h4 o1 r208]
  refine H c3 (hF.tr (((f1.tr f2).fm).tr (f3.fm k))) ⟨p3, ⟨by omega, hlt⟩, PX_ft f3 p2, ?_, ?_, ?_⟩ _
  · rw [f3 142 24 (by omega), w2, u2_n (by omega)]; exact h4
  · simp only [List.length_cons]; omega
  · omega
/-- behind a whole one: what goes on -/
theorem m_g1 (d : Nat) (hs : SpL s) {c : Nat → Nat → Int} {i : Int} (h1 : MT T n i c) (h : tkA T n i = 43 ∨ tkA T n i = 45 ∨ tkA T n i = 42) : Cd (d + 6) 210 [vA 142] (s, c) = some ([vI 1], (s, c)) := by
  rw [m210 (d + 4) hs h1 (b := true) (fun w => by omega), if_pos (by omega)]
/-- settle, push, read on -/
theorem m_sp (d : Nat) (hs : SpL s) (hk : k < 8) (hz : tkA T n K = 0) (hK : K ≤ 300) {c : Nat → Nat → Int} {i o l v : Int} {p B : List Int} {X : List (Int × Int)} (hE : EM T n k c) (hM : MSt T n K k c i o 1 (p ++ B) X) (ht : tkA T n i ≠ 0) (hB : Hd (fun b => 40 ≤ b ∨ b < l) B) (hA : Al (fun q => l ≤ q ∧ q < 40) p) (hp : p.length ≤ 60) (hBl : B.length ≤ 60) : ∃ c1 c2 c3, Cd (d + 5) 206 [vA 142, vI l] (s, c) = some ([], (s, c1)) ∧ Cd (d + 5) 204 [vA 142, vI v] (s, c1) = some ([], (s, c2)) ∧ Cd (d + 5) 198 [vA 142] (s, u2 c2 142 24 0) = some ([], (s, c3)) ∧ FM k c c3 ∧ MSt T n K k c3 (i + 1) o 0 (v :: B) (X ++ fl p) := by
  obtain ⟨h1, h2, h3, h4, h5, h6⟩ := hM
  have hlt := tk_lt hz h2.2 ht
  rw [List.length_append] at h5
  obtain ⟨c1, r1, f1, p1, w1⟩ := m206 (d + 3) hs hk hB (by omega) hp (by omega) hA hE h3
  have E1 := EM_of f1.fm hE
  obtain ⟨c2, r2', f2, p2, w2⟩ := m204 (d + 4) hs E1 p1 (by omega) v
  have f3 : FQ k c (u2 c2 142 24 0) := (f1.tr f2).u _ (by omega)
  have E3 := EM_of f3.fm hE
  obtain ⟨c3, r3, f4, p4⟩ := m198n (d + 1) hs E3.2.2.2 h2.1 (MT_fq f3 h1) ht
  have p3 : PX k (u2 c2 142 24 0) o (v :: B) (X ++ fl p) := ⟨by rw [u2_n (by omega)]; exact p2.1, by rw [u2_n (by omega)]; exact p2.2.1, Pl_of _ p2.2.2.1 (fun j _ => u2_n (by omega)), by rw [u2_n (by omega)]; exact p2.2.2.2.1, fun j q hq => by rw [u2_n (by omega), u2_n (by omega)]; exact p2.2.2.2.2 j q hq⟩
  have hfl : (fl p).length = p.length := List.length_map _
  refine ⟨c1, c2, c3, r1, r2', r3, f3.fm.tr (f4.fm k), p4, ⟨by omega, hlt⟩, PX_ft f4 p3, ?_, ?_, ?_⟩
  · rw [f4 142 24 (by omega), u2_e]
  · rw [List.length_append, hfl, List.length_cons]; omega
  · rw [List.length_append, hfl]; omega
theorem Gs6 (d : Nat) (hs : SpL s) (hk : k < 8) (hz : tkA T n K = 0) (hK : K ≤ 300) (hE0 : EM T n k c0) (i o : Int) (p B : List Int) (X : List (Int × Int)) (h : tkA T n i = 43 ∨ tkA T n i = 45) (hA : Al i35 p) (hB : Hd (· = 40) B) (hp : p.length ≤ 60) (hBl : B.length ≤ 60) (H : Gm s T n K d k c0 Rp (i + 1) o 0 (addO (tkA T n i) :: B) (X ++ fl p)) : Gm s T n K d k c0 Rp i o 1 (p ++ B) X := by
  intro c hF hM o1
  have hE := EM_of hF hE0
  have hr1 := MT_tr hM.1
  have e3 := TkR_g hr1 43 (by omega)
  have e5 := TkR_g hr1 45 (by omega)
  obtain ⟨c1, c2, c3, r1, r2', r3, f3, M3⟩ := m_sp d hs hk hz hK (l := 3) (v := addO (tkA T n i)) hE hM (by omega) (Hd_i hB (fun b hb => by omega)) (Al_i hA (fun b hb => by have : 3 ≤ b ∧ b ≤ 5 := hb; omega)) hp hBl
  have r9 : Rr (Cd (d + 5)) 211 9 [some (vA 142), some (vI (c 142 14))] [] (s, c) = some ([vI 0], (s, c3)) := by
    (try rw [c211_9]); (try rw [r1]); (try rw [bnd_s]); (try rw [tV_m]); (try rw [bnd_s])
    unfold addO at r2'
    by_cases g : tkA T n i = 43
    · rw [if_pos g] at r2'
      (try rw [if_pos (e3.mpr g)]); (try rw [c211_19]); (try rw [r2']); (try rw [bnd_s]); (try rw [tV_m]); (try rw [bnd_s]); (try rw [pC142 hs _ _ (by decide)]); (try rw [bnd_s]); (try rw [c211_54]); (try rw [r3]); (try rw [bnd_s]); (try rw [tV_m]); (try rw [bnd_s])
    · rw [if_neg g] at r2'
      (try rw [if_neg (fun w => g (e3.mp w))]); (try rw [c211_19]); (try rw [r2']); (try rw [bnd_s]); (try rw [tV_m]); (try rw [bnd_s]); (try rw [pC142 hs _ _ (by decide)]); (try rw [bnd_s]); (try rw [c211_54]); (try rw [r3]); (try rw [bnd_s]); (try rw [tV_m]); (try rw [bnd_s])
  have r211 : Cd (d + 6) 211 [vA 142] (s, c) = some ([vI 0], (s, c3)) := by
    rw [c211 (hg := gC142 hs c), fC142 hs _ (by decide), bnd_s]
    by_cases g : tkA T n i = 43
    · rw [if_pos (e3.mpr g), r9]
    · rw [if_neg (fun w => g (e3.mp w)), if_pos (e5.mpr (by omega)), r9]
  rw [g_1 d hs hM.2.2.2.1 o1 (m_g1 d hs hM.1 (by omega)) r211]
  exact H c3 (hF.tr f3) M3 _
theorem Gs7 (d : Nat) (hs : SpL s) (hk : k < 8) (hz : tkA T n K = 0) (hK : K ≤ 300) (hE0 : EM T n k c0) (i o : Int) (p B : List Int) (X : List (Int × Int)) (h : tkA T n i = 42) (hA : Al (· = 5) p) (hB : Hd (fun b => b = 40 ∨ b < 5) B) (hp : p.length ≤ 60) (hBl : B.length ≤ 60) (H : Gm s T n K d k c0 Rp (i + 1) o 0 (5 :: B) (X ++ fl p)) : Gm s T n K d k c0 Rp i o 1 (p ++ B) X := by
  intro c hF hM o1
  have hE := EM_of hF hE0
  have hr1 := MT_tr hM.1
  have e3 := TkR_g hr1 43 (by omega)
  have e5 := TkR_g hr1 45 (by omega)
  have e2 := TkR_g hr1 42 (by omega)
  obtain ⟨c1, c2, c3, r1, r2', r3, f3, M3⟩ := m_sp d hs hk hz hK (l := 5) (v := 5) hE hM (by omega) (Hd_i hB (fun b hb => by omega)) (Al_i hA (fun b hb => by omega)) hp hBl
  have r211 : Cd (d + 6) 211 [vA 142] (s, c) = some ([vI 0], (s, c3)) := by
    (try rw [c211 (hg := gC142 hs c)]); (try rw [fC142 hs _ (by decide)]); (try rw [bnd_s]); (try rw [if_neg (fun w => by have := e3.mp w; omega)]); (try rw [if_neg (fun w => by have := e5.mp w; omega)]); (try rw [if_pos (e2.mpr h)]); (try rw [r1]); (try rw [bnd_s]); (try rw [tV_m]); (try rw [bnd_s]); (try rw [r2']); (try rw [bnd_s]); (try rw [tV_m]); (try rw [bnd_s]); (try rw [pC142 hs _ _ (by decide)]); (try rw [bnd_s]); (try rw [c211_54]); (try rw [r3]); (try rw [bnd_s]); (try rw [tV_m]); (try rw [bnd_s])
  rw [g_1 d hs hM.2.2.2.1 o1 (m_g1 d hs hM.1 (by omega)) r211]
  exact H c3 (hF.tr f3) M3 _
theorem Gs8 (d : Nat) (hs : SpL s) (hk : k < 8) (hz : tkA T n K = 0) (hK : K ≤ 300) (hE0 : EM T n k c0) (i o : Int) (p : List Int) (m : Nat) (B : List Int) (X : List (Int × Int)) (h : tkA T n i = 41) (hA : Al i35 p) (hB : Hd (· ≠ 2) B) (hp : p.length ≤ 20) (hm : m ≤ 20) (hBl : B.length ≤ 60) (H : Gm s T n K d k c0 Rp (i + 1) (o - 1 - (m : Int)) 1 B (X ++ fl p ++ rp m)) : Gm s T n K d k c0 Rp i o 1 (p ++ 40 :: (r2 m ++ B)) X := by
  intro c hF hM o1
  have hE := EM_of hF hE0
  obtain ⟨h1, h2, h3, h4, h5, h6⟩ := hM
  have hr1 := MT_tr h1
  have e3 := TkR_g hr1 43 (by omega)
  have e5 := TkR_g hr1 45 (by omega)
  have e2 := TkR_g hr1 42 (by omega)
  have hlt := tk_lt hz h2.2 (show tkA T n i ≠ 0 by omega)
  have hl : ((p ++ 40 :: (r2 m ++ B)).length : Int) = (p.length : Int) + (m : Int) + (B.length : Int) + 1 := by
    rw [List.length_append, List.length_cons, List.length_append, r2_l]; omega
  have hlN : (p ++ 40 :: (r2 m ++ B)).length = p.length + m + B.length + 1 := by omega
  rw [hl] at h5
  have hfl : (fl p).length = p.length := List.length_map _
  obtain ⟨c1, r1, f1, p1, w1⟩ := m206 (d + 3) (l := 3) hs hk (B := 40 :: (r2 m ++ B)) (p := p) (Hd_c (by omega)) (by rw [List.length_cons, List.length_append, r2_l]; omega) (by omega) (by omega) (Al_i hA (fun b hb => by have : 3 ≤ b ∧ b ≤ 5 := hb; omega)) hE h3
  obtain ⟨a1, a2, a3, a4, a5⟩ := p1
  have hl2 : ((40 :: (r2 m ++ B) : List Int).length : Int) = (m : Int) + (B.length : Int) + 1 := by rw [List.length_cons, List.length_append, r2_l]; omega
  rw [hl2] at a2
  have f2 : FQ k c (u2 (u2 c1 142 22 ((m : Int) + (B.length : Int))) 142 23 (o - 1)) := (f1.u _ (by omega)).u _ (by omega)
  have p2 : PX k (u2 (u2 c1 142 22 ((m : Int) + (B.length : Int))) 142 23 (o - 1)) (o - 1) (r2 m ++ B) (X ++ fl p) := ⟨u2_e _ _ _ _, by rw [u2_n (by omega), u2_e, List.length_append, r2_l]; omega, Pl_of _ a3.2 (fun j _ => by rw [u2_n (by omega), u2_n (by omega)]), by rw [u2_n (by omega), u2_n (by omega)]; exact a4, fun j q hq => by rw [u2_n (by omega), u2_n (by omega), u2_n (by omega), u2_n (by omega)]; exact a5 j q hq⟩
  obtain ⟨c3, r3, f3, p3, w3⟩ := m205 (d + 3) hs hk hB hBl (by omega) (by rw [List.length_append, hfl]; omega) (by omega) (by omega) (EM_of f2.fm hE) p2
  obtain ⟨c4, r4, f4, p4⟩ := m198n (d + 1) hs (EM_of (f2.tr f3).fm hE).2.2.2 h2.1 (MT_fq (f2.tr f3) h1) (show tkA T n i ≠ 0 by omega)
  have r9 : Cd (d + 5) 209 [vA 142] (s, c) = some ([vI (b2i true)], (s, c)) := by
    have hPl := h3.2.2.1
    have h40 := (Pl_t p hPl).1
    rw [List.length_append, r2_l] at h40
    rw [c209 (hg := gC142 hs c)]
    exact m209_1 (d + 4) hs hE.2.1 h3.2.1 (by omega) (j := m + B.length) (by omega) h40 (m + B.length) 0 (by omega)
  have r10 : Cd (d + 6) 210 [vA 142] (s, c) = some ([vI 1], (s, c)) := by
    rw [m210 (d + 4) hs h1 (b := true) (fun _ => r9), if_pos (Or.inr (Or.inr (Or.inr ⟨h, rfl⟩)))]
  have r211 : Cd (d + 6) 211 [vA 142] (s, c) = some ([vI 0], (s, c4)) := by
    (try rw [c211 (hg := gC142 hs c)]); (try rw [fC142 hs _ (by decide)]); (try rw [bnd_s]); (try rw [if_neg (fun w => by have := e3.mp w; omega)]); (try rw [if_neg (fun w => by have := e5.mp w; omega)]); (try rw [if_neg (fun w => by have := e2.mp w; omega)]); (try rw [r1]); (try rw [bnd_s]); (try rw [tV_m]); (try rw [bnd_s]); (try rw [fC142 hs _ (by decide)]); (try rw [bnd_s]); (try rw [a2]); (try rw [w32_id (z := (m : Int) + (B.length : Int) + 1 - 1) (by omega) (by omega)]); (try rw [show (m : Int) + (B.length : Int) + 1 - 1 = (m : Int) + (B.length : Int) by omega]); (try rw [pC142 hs _ _ (by decide)]); (try rw [bnd_s]); (try rw [fC142 hs _ (by decide)]); (try rw [bnd_s]); (try rw [u2_n (by omega)]); (try rw [a1]); (try rw [w32_id (z := o - 1) (by omega) (by omega)]); (try rw [pC142 hs _ _ (by decide)]); (try rw [bnd_s]); (try rw [r3]); (try rw [bnd_s]); (try rw [tV_m]); (try rw [bnd_s]); (try rw [c211_54]); (try rw [r4]); (try rw [bnd_s]); (try rw [tV_m]); (try rw [bnd_s])
  rw [g_1 d hs h4 o1 r10 r211]
  refine H c4 (hF.tr ((f2.tr f3).fm.tr (f4.fm k))) ⟨p4, ⟨by omega, hlt⟩, PX_ft f4 p3, ?_, ?_, ?_⟩ _
  · rw [f4 142 24 (by omega)]; exact w3
  · rw [List.length_append, List.length_append, hfl, show (rp m).length = m from List.length_replicate]; omega
  · rw [List.length_append, List.length_append, hfl, show (rp m).length = m from List.length_replicate]; omega
theorem Gs9 (d : Nat) (hs : SpL s) (hk : k < 8) (hK : K ≤ 300) (hE0 : EM T n k c0) (i o : Int) (p B : List Int) (X : List (Int × Int)) (n3 : tkA T n i ≠ 43) (n5 : tkA T n i ≠ 45) (n2 : tkA T n i ≠ 42) (n1 : tkA T n i ≠ 41) (hA : Al i35 p) (hp : p.length ≤ 60) (hBl : B.length ≤ 60) (H : Ge T n k c0 Rp 1 i) : Gm s T n K d k c0 Rp i o 1 (p ++ 40 :: B) X := by
  intro c hF hM o1
  have hE := EM_of hF hE0
  obtain ⟨h1, h2, h3, h4, h5, h6⟩ := hM
  rw [List.length_append, List.length_cons] at h5
  obtain ⟨c1, r1, f1, p1, w1⟩ := m206 (d + 4) (l := 3) hs hk (B := 40 :: B) (p := p) (Hd_c (by omega)) (by rw [List.length_cons]; omega) (by omega) (by omega) (Al_i hA (fun b hb => by have : 3 ≤ b ∧ b ≤ 5 := hb; omega)) hE h3
  have r10 : Cd (d + 6) 210 [vA 142] (s, c) = some ([vI 0], (s, c)) := by
    rw [m210 (d + 4) hs h1 (b := true) (fun w => absurd w n1), if_neg (by omega)]
  refine ⟨1, c1, ?_, hF.tr f1.fm, H c1 (hF.tr f1.fm) (MT_fq f1 h1)⟩
  rw [g_2 d hs h4 o1 r10 r1 (l := B.length + 1) (by rw [p1.2.1, List.length_cons]), if_pos (by omega)]
theorem Gs10 (d : Nat) (hs : SpL s) (hk : k < 8) (hK : K ≤ 300) (hE0 : EM T n k c0) (i o : Int) (p : List Int) (X : List (Int × Int)) (n3 : tkA T n i ≠ 43) (n5 : tkA T n i ≠ 45) (n2 : tkA T n i ≠ 42) (hA : Al i35 p) (hp : p.length ≤ 60) (H : Gf T n K k c0 Rp i o (X ++ fl p)) : Gm s T n K d k c0 Rp i o 1 p X := by
  intro c hF hM o1
  have hE := EM_of hF hE0
  obtain ⟨h1, h2, h3, h4, h5, h6⟩ := hM
  have hfl : (fl p).length = p.length := List.length_map _
  have h3' : PX k c o (p ++ []) X := by rw [List.append_nil]; exact h3
  obtain ⟨c1, r1, f1, p1, w1⟩ := m206 (d + 4) (l := 3) hs hk (B := []) (p := p) Hd_n (by simp) (by omega) (by omega) (Al_i hA (fun b hb => by have : 3 ≤ b ∧ b ≤ 5 := hb; omega)) hE h3'
  have r9 : Cd (d + 5) 209 [vA 142] (s, c) = some ([vI (b2i false)], (s, c)) := by
    rw [c209 (hg := gC142 hs c)]
    exact m209_0 (d + 4) hs hE.2.1 h3.2.1 (by omega) (fun j hj => by
      have : 3 ≤ c 151 j ∧ c 151 j ≤ 5 := Pl_all (S := i35) p h3.2.2.1 hA j hj
      omega) p.length 0 (by omega)
  have r10 : Cd (d + 6) 210 [vA 142] (s, c) = some ([vI 0], (s, c)) := by
    rw [m210 (d + 4) hs h1 (b := false) (fun _ => r9), if_neg (fun w => by rcases w with w | w | w | w; exact n3 w; exact n5 w; exact n2 w; exact absurd w.2 (by decide))]
  refine ⟨0, c1, ?_, hF.tr f1.fm, H c1 (hF.tr f1.fm) ⟨MT_fq f1 h1, h2, p1.1, p1.2.2.2.1, p1.2.2.2.2, ?_⟩⟩
  · rw [g_2 d hs h4 o1 r10 r1 (l := 0) p1.2.1, if_neg (by omega)]
  · rw [List.length_append, hfl]; omega
theorem Gm_cl (d : Nat) (hs : SpL s) (hk : k < 8) (hz : tkA T n K = 0) (hK : K ≤ 300) (hE0 : EM T n k c0) : Cl (tkA T n) (nvA T n) (Ge T n k c0 Rp) (Gf T n K k c0 Rp) (Gm s T n K d k c0 Rp) := by
  refine ⟨Gs1 d hs hk hz hK hE0, Gs2 d hs hE0, Gs3 d hs hE0, fun i o B X h h8 hl H => Gs45 d hs hk hz hK hE0 i o B X (Or.inl h) h8 hl ?_, fun i o B X h h8 hl H => Gs45 d hs hk hz hK hE0 i o B X (Or.inr h) h8 hl ?_, Gs6 d hs hk hz hK hE0, Gs7 d hs hk hz hK hE0, Gs8 d hs hk hz hK hE0, Gs9 d hs hk hK hE0, Gs10 d hs hk hK hE0⟩
  · rw [if_pos h]; exact H
  · rw [if_neg (by omega)]; exact H
/-- a sum, as the reference reads it -/
theorem m212 (d : Nat) (hs : SpL s) (hk : k < 8) (hz : tkA T n K = 0) (hK : K ≤ 300) {c : Nat → Nat → Int} (hE : EM T n k c) {i o : Int} {X : List (Int × Int)} {m : Nat} (hm : m ≤ 8) (ho : o + (m : Int) = 8) (h : MA T n K k c i o X) : ∃ c', Cd (d + 7) 212 [vA 142] (s, c) = some ([vI (expr (tkA T n) (fac (tkA T n) (nvA T n) m) i).1], (s, c')) ∧ FM k c c' ∧ ((expr (tkA T n) (fac (tkA T n) (nvA T n) m) i).1 ≠ 0 → MT T n (expr (tkA T n) (fac (tkA T n) (nvA T n) m) i).2.1 c') ∧ ((expr (tkA T n) (fac (tkA T n) (nvA T n) m) i).1 = 0 → MA T n K k c' (expr (tkA T n) (fac (tkA T n) (nvA T n) m) i).2.1 o (X ++ (expr (tkA T n) (fac (tkA T n) (nvA T n) m) i).2.2)) := by
  obtain ⟨h1, h2, h3, h4, h5, h6⟩ := h
  have f1 : FQ k c (u2 (u2 c 142 22 0) 142 24 0) := ((FQ.rf k c).u _ (by omega)).u _ (by omega)
  have M1 : MSt T n K k (u2 (u2 c 142 22 0) 142 24 0) i o 0 [] X := ⟨MT_fq f1 h1, h2, ⟨by rw [u2_n (by omega), u2_n (by omega)]; exact h3, by rw [u2_n (by omega), u2_e]; rfl, trivial, by rw [u2_n (by omega), u2_n (by omega)]; exact h4, fun j q hq => by rw [u2_n (by omega), u2_n (by omega), u2_n (by omega), u2_n (by omega)]; exact h5 j q hq⟩, u2_e _ _ _ _, by simp only [List.length_nil]; omega, by omega⟩
  have hC := Gm_cl (Rp := fun e c' => e = (expr (tkA T n) (fac (tkA T n) (nvA T n) m) i).1 ∧ ((expr (tkA T n) (fac (tkA T n) (nvA T n) m) i).1 ≠ 0 → MT T n (expr (tkA T n) (fac (tkA T n) (nvA T n) m) i).2.1 c') ∧ ((expr (tkA T n) (fac (tkA T n) (nvA T n) m) i).1 = 0 → MA T n K k c' (expr (tkA T n) (fac (tkA T n) (nvA T n) m) i).2.1 o (X ++ (expr (tkA T n) (fac (tkA T n) (nvA T n) m) i).2.2))) d hs hk hz hK (EM_of f1.fm hE)
  have G0 := sum_c hz hK hC hm ho i X h2.1 h2.2 (fun g c' _ hMT => ⟨rfl, fun _ => hMT, fun w => absurd w g⟩) (fun g c' _ hMA => ⟨g.symm, fun w => absurd g w, fun _ => hMA⟩)
  obtain ⟨e, c', r, f, q1, q2, q3⟩ := G0 (u2 (u2 c 142 22 0) 142 24 0) (FM.rf k _) M1 none
  refine ⟨c', ?_, f1.fm.tr f, q2, q3⟩
  (try rw [c212 (hg := gC142 hs c)]); (try rw [pC142 hs _ _ (by decide)]); (try rw [bnd_s]); (try rw [pC142 hs _ _ (by decide)]); (try rw [bnd_s]); (try rw [r]); (try rw [q1])
end
