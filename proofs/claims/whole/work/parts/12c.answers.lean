/-! the reference: what is changed and what isn't; answers, swapped rows, new maps and borders -/
theorem cond_t {α : Type} (x y : α) : (bif true then x else y) = x := rfl
theorem cond_f {α : Type} (x y : α) : (bif false then x else y) = y := rfl
/-- nothing has changed but the cells L and, of the reference itself, the fields F -/
def Fm (L F : List Nat) (c c' : Nat → Nat → Int) : Prop := (∀ o, o ∉ L → o ≠ 142 → c' o = c o) ∧ ∀ k, k ∉ F → c' 142 k = c 142 k
theorem Fm.rf (L F : List Nat) (c : Nat → Nat → Int) : Fm L F c c := ⟨fun _ _ _ => rfl, fun _ _ => rfl⟩
theorem Fm.tr {L F : List Nat} {a b c : Nat → Nat → Int} (h1 : Fm L F a b) (h2 : Fm L F b c) : Fm L F a c := ⟨fun o h g => (h2.1 o h g).trans (h1.1 o h g), fun k h => (h2.2 k h).trans (h1.2 k h)⟩
theorem Fm.mono {L F L' F' : List Nat} {a b : Nat → Nat → Int} (h : Fm L F a b) (h1 : (L.all fun o => L'.contains o) = true) (h2 : (F.all fun o => F'.contains o) = true) : Fm L' F' a b := by
  refine ⟨fun o ho g => h.1 o (fun hm => ho ?_) g, fun k hk => h.2 k (fun hm => hk ?_)⟩
  · have := List.all_eq_true.mp h1 o hm; simpa using this
  · have := List.all_eq_true.mp h2 k hm; simpa using this
theorem Fm.a {L F : List Nat} {a b : Nat → Nat → Int} (h : Fm L F a b) {o k : Nat} (v : Int) (ho : L.contains o = true) (h2 : o ≠ 142) : Fm L F a (u2 b o k v) := by
  refine h.tr ⟨fun o' g g2 => funext fun k' => u2_n (fun q => g ?_), fun k' g => u2_n (fun q => h2 q.1.symm)⟩
  rw [q.1]; simpa using ho
theorem Fm.f {L F : List Nat} {a b : Nat → Nat → Int} (h : Fm L F a b) {k : Nat} (v : Int) (hk : F.contains k = true) : Fm L F a (u2 b 142 k v) := by
  refine h.tr ⟨fun o' g g2 => funext fun k' => u2_n (fun q => g2 q.1), fun k' g => u2_n (fun q => g ?_)⟩
  rw [q.2]; simpa using hk
theorem Fm.ms {L F : List Nat} {a b : Nat → Nat → Int} (h : Fm L F a b) (hm : MS a) (h1 : (L.contains 146 || L.contains 147 || mRefs.any fun q => F.contains q.1) = false) : MS b := by
  simp only [Bool.or_eq_false_iff] at h1
  obtain ⟨⟨h1, h2⟩, h3⟩ := h1
  refine MS_of hm (fun q hq => h.2 _ (fun g => ?_)) (h.1 146 (by simpa using h1) (by decide)) (h.1 147 (by simpa using h2) (by decide))
  have := List.any_eq_false.mp h3 q hq
  simp at this
  exact this g
/-- the list of the answers, and that it lies where the reference has it -/
def ansL (c : Nat → Nat → Int) (m : Int) : List Int := filU (isA c m) (r3 (c 143 (20 + m).toNat)).toNat 0
def AnsAt (c : Nat → Nat → Int) (l : List Int) : Prop := c 142 6 = (l.length : Int) ∧ ∀ i : Nat, i < l.length → c 148 i = l.getD i 0
theorem isA_of {c c' : Nat → Nat → Int} (e : c' 143 = c 143) (m : Int) : isA c' m = isA c m := by funext r; unfold isA; rw [e]
theorem ansL_of {c c' : Nat → Nat → Int} (e : c' 143 = c 143) (m : Int) : ansL c' m = ansL c m := by unfold ansL; rw [e, isA_of e]
theorem isB_of {c c' : Nat → Nat → Int} (e : c' 143 = c 143) (m x y : Int) : isB c' m x y = isB c m x y := by
  have h : edg c' m x y = edg c m x y := by funext b; unfold edg; rw [e]
  unfold isB; rw [e, h]
theorem ansL_mem {c : Nat → Nat → Int} {m i : Int} (hk : MapOK c m) (h : i ∈ ansL c m) : 0 ≤ i ∧ i < r3 (c 143 (20 + m).toNat) ∧ i < 2187 ∧ isA c m i = true := by
  have h1 := filU_mem _ _ _ _ h
  have h2 := r3_b (n := c 143 (20 + m).toNat) hk.2.1.2
  exact ⟨by omega, by omega, by omega, h1.2.2⟩
theorem ansL_len {c : Nat → Nat → Int} {m : Int} (hk : MapOK c m) : ((ansL c m).length : Int) ≤ 2187 := by
  have h1 := filU_len (isA c m) (r3 (c 143 (20 + m).toNat)).toNat 0
  have h2 := r3_b (n := c 143 (20 + m).toNat) hk.2.1.2
  unfold ansL; omega
theorem ansL_at {c : Nat → Nat → Int} {m : Int} (hk : MapOK c m) {i : Nat} (h : i < (ansL c m).length) : 0 ≤ (ansL c m).getD i 0 ∧ (ansL c m).getD i 0 < r3 (c 143 (20 + m).toNat) ∧ (ansL c m).getD i 0 < 2187 ∧ isA c m ((ansL c m).getD i 0) = true := by
  refine ansL_mem hk ?_
  rw [List.getD_eq_getElem?_getD, List.getElem?_eq_getElem h]
  exact List.getElem_mem h
theorem getD_app (l : List Int) (x : Int) (i : Nat) : (l ++ [x]).getD i 0 = if i = l.length then x else l.getD i 0 := by
  simp only [List.getD_eq_getElem?_getD]
  split
  · rename_i h; subst h; simp
  · by_cases h : i < l.length
    · rw [List.getElem?_append_left h]
    · rw [List.getElem?_append_right (by omega), List.getElem?_eq_none (by simp; omega), List.getElem?_eq_none (by omega)]
theorem m183_5 (d : Nat) {s : List (Nat × Nat)} {c0 : Nat → Nat → Int} (hs : SpL s) (hm : MS c0) {m : Int} (hk : MapOK c0 m) : ∀ (n : Nat) (j : Int) (L : List Int) (c : Nat → Nat → Int), 0 ≤ j → j + n = r3 (c0 143 (20 + m).toNat) → Fm [148] [6] c0 c → AnsAt c L → (L.length : Int) ≤ j → ∃ c', Rr (Cd (d + 2)) 183 5 [some (vA 142), some (vI m), some (vI j)] [] (s, c) = some ([], (s, c')) ∧ Fm [148] [6] c0 c' ∧ AnsAt c' (L ++ filU (isA c0 m) n j)
  | 0, j, L, c, hj, h, hf, ha, hl => by
    have e3 := hf.1 143 (by decide) (by decide)
    have hm' := hf.ms hm (by decide)
    have hk' := MapOK_of hk e3
    refine ⟨c, ?_, hf, by simpa [filU] using ha⟩
    rw [c183_5, m180 _ hs hm' hk', bnd_s, tI_m, bnd_s, e3]
    rw [if_neg (by show ¬ j < r3 (c0 143 (20 + m).toNat); omega)]
  | n + 1, j, L, c, hj, h, hf, ha, hl => by
    have hb := r3_b (n := c0 143 (20 + m).toNat) hk.2.1.2
    have e3 := hf.1 143 (by decide) (by decide)
    have hm' := hf.ms hm (by decide)
    have hk' := MapOK_of hk e3
    rw [c183_5, m180 _ hs hm' hk', bnd_s, tI_m, bnd_s, e3]
    rw [if_pos (by show j < r3 (c0 143 (20 + m).toNat); omega)]
    rw [m182 _ hs hm' hk' hj (by omega), bnd_s, tI_m, bnd_s, if_b0, isA_of e3]
    cases hA : isA c0 m j with
    | false =>
      rw [cond_f, c183_28, w32_id (by omega) (by omega)]
      obtain ⟨c', g1, g2, g3⟩ := m183_5 d hs hm hk n (j + 1) L c (by omega) (by omega) hf ha (by omega)
      exact ⟨c', g1, g2, by simpa [filU, hA] using g3⟩
    | true =>
      rw [cond_t]
      repeat (first | rw [bnd_s] | rw [tI_m] | rw [tL_m] | rw [tA_m] | rw [tV_m] | rw [fC142 hs _ (by decide)] | rw [pC142 hs _ _ (by decide)] | rw [MS_5 hm'] | rw [ha.1] | rw [qC148 hs _ _ (by omega) (by omega)] | rw [u2_e] | rw [u2_n (by omega)] | rw [w32_id (by omega) (by omega)] | rw [c183_28])
      obtain ⟨c', g1, g2, g3⟩ := m183_5 d hs hm hk n (j + 1) (L ++ [j]) (u2 (u2 c 148 (L.length : Int).toNat j) 142 6 (L.length + 1)) (by omega) (by omega) ((hf.a _ (by decide) (by decide)).f _ (by decide)) ⟨by rw [u2_e]; simp, fun i hi => by
        rw [u2_n (by omega), getD_app]
        simp at hi
        by_cases g : i = L.length
        · subst g; rw [if_pos rfl, Int.toNat_natCast, u2_e]
        · rw [if_neg g, u2_n (by omega)]; exact ha.2 i (by omega)⟩ (by simp; omega)
      exact ⟨c', g1, g2, by simpa [filU, hA] using g3⟩
theorem m183 (d : Nat) {s : List (Nat × Nat)} {c : Nat → Nat → Int} (hs : SpL s) (hm : MS c) {m : Int} (hk : MapOK c m) : ∃ c', Cd (d + 3) 183 [vA 142, vI m] (s, c) = some ([], (s, c')) ∧ Fm [148] [6] c c' ∧ AnsAt c' (ansL c m) := by
  have hb := r3_b (n := c 143 (20 + m).toNat) hk.2.1.2
  rw [c183 (hg := gC142 hs c), pC142 hs _ _ (by decide), bnd_s]
  exact m183_5 d hs hm hk _ 0 [] (u2 c 142 6 0) (by omega) (by omega) ((Fm.rf _ _ _).f _ (by decide)) ⟨by rw [u2_e]; rfl, fun i hi => by simp at hi⟩ (by simp)
/-- what answer answers -/
def ansR (l : List Int) (i : Int) : Int := if i = -1 then (l.length : Int) else if 0 ≤ i ∧ i < (l.length : Int) then l.getD i.toNat 0 else -1
theorem m184 (d : Nat) {s : List (Nat × Nat)} {c : Nat → Nat → Int} (hs : SpL s) (hm : MS c) (hn : nM c) (hk : ∀ m, 0 ≤ m → m < c 143 0 → MapOK c m) (m i : Int) : ∃ c', Cd (d + 4) 184 [vA 142, vI m, vI i] (s, c) = some ([vI (if 0 ≤ m ∧ m < c 143 0 then ansR (ansL c m) i else -1)], (s, c')) ∧ Fm [148] [6] c c' := by
  rw [c184 (hg := gC142 hs c), m173 _ hs hm hn, bnd_s, tI_m, bnd_s, if_b0]
  by_cases h : 0 ≤ m ∧ m < c 143 0
  · rw [show inR m 0 (c 143 0 - 1) = true from decide_eq_true (by omega), cond_t, if_pos h]
    have hk := hk m h.1 h.2
    have hl := ansL_len hk
    by_cases h1 : i < -1
    · refine ⟨c, ?_, Fm.rf _ _ _⟩
      rw [if_pos h1, c184_7, ansR, if_neg (by omega), if_neg (by omega)]
    · rw [if_neg h1]
      obtain ⟨c', g1, g2, g3⟩ := m183 (d + 0) hs hm hk
      refine ⟨c', ?_, g2⟩
      have hm' := g2.ms hm (by decide)
      rw [g1, bnd_s, tV_m, bnd_s]
      by_cases h2 : i = -1
      · rw [if_pos h2, fC142 hs _ (by decide), bnd_s, c184_28, ansR, if_pos h2, g3.1]
      · rw [if_neg h2, fC142 hs _ (by decide), bnd_s, g3.1]
        by_cases h3 : i < ((ansL c m).length : Int)
        · rw [if_pos h3, fC142 hs _ (by decide), bnd_s, MS_5 hm', aC148 hs _ (by omega) (by omega), bnd_s, c184_28, g3.2 _ (by omega), ansR, if_neg h2, if_pos (by omega)]
        · rw [if_neg h3, c184_28, ansR, if_neg h2, if_neg (by omega)]
  · rw [show inR m 0 (c 143 0 - 1) = false from decide_eq_false (by omega), cond_f, if_neg h]
    exact ⟨c, by rw [c184_7], Fm.rf _ _ _⟩
/-- a row swapped, from its highest place -/
def swH (n r w : Int) : Nat → Int → Int → Int
  | 0, _, v => v
  | k + 1, l, v => swH n r w k (l + 1) (3 * v + swp w (pnt n r l))
theorem m185_4 (d : Nat) {s : List (Nat × Nat)} {c : Nat → Nat → Int} (hs : SpL s) (hm : MS c) {m : Int} (hk : MapOK c m) {r w : Int} (h0 : 0 ≤ r) (h1 : r < 2187) (h2 : 0 ≤ w) (h3 : w < 6) : ∀ (n : Nat) (j v : Int), 0 ≤ j → j + n = c 143 (20 + m).toNat → 0 ≤ v → v < r3 j → Rr (Cd (d + 1)) 185 4 [some (vA 142), some (vI m), some (vI r), some (vI w), some (vI v), some (vI j)] [] (s, c) = some ([vI (swH (c 143 (20 + m).toNat) r w n j v)], (s, c))
  | 0, j, v, hj, h, hv, hv2 => by
    have hk' := hk
    obtain ⟨⟨k0, k1⟩, ⟨k2, k3⟩, ⟨k4, k5⟩, k6⟩ := hk
    rw [c185_4]
    repeat (first | rw [bnd_s] | rw [tI_m] | rw [tL_m] | rw [tA_m] | rw [tV_m] | rw [fC142 hs _ (by decide)] | rw [pC142 hs _ _ (by decide)] | rw [MS_0 hm] | rw [MS_1 hm] | rw [MS_2 hm] | rw [MS_3 hm] | rw [MS_4 hm] | rw [MS_5 hm] | rw [MS_7 hm] | rw [MS_8 hm] | rw [MS_21 hm] | rw [MS_29 hm] | rw [MS_30 hm] | rw [MS_31 hm] | rw [MS_37 hm] | rw [MS_38 hm] | rw [MS_39 hm] | rw [MS_40 hm] | rw [w32_m (by omega) (by omega)] | rw [w32_al] | rw [w32_ar] | rw [w32_sl] | rw [w32_sr] | rw [w32_ml] | rw [w32_mr] | rw [w32_a3] | rw [w32_b3] | rw [w32_c3] | rw [w32_d3] | rw [w32_id (by omega) (by omega)] | rw [aC143 hs _ (by omega) (by omega)] | rw [qC143 hs _ _ (by omega) (by omega)] | rw [if_pos (by omega)] | rw [if_neg (by omega)])
    all_goals rfl
  | n + 1, j, v, hj, h, hv, hv2 => by
    have hk' := hk
    obtain ⟨⟨k0, k1⟩, ⟨k2, k3⟩, ⟨k4, k5⟩, k6⟩ := hk
    have hb := r3_b (n := j) (by omega)
    have hb1 := r3_s hj
    have pb := pnt_b (c 143 (20 + m).toNat) r j
    have sb := swp_bd h2 h3 pb.1 pb.2
    have ih := m185_4 d hs hm hk' h0 h1 h2 h3 n (j + 1) (3 * v + swp w (pnt (c 143 (20 + m).toNat) r j)) (by omega) (by omega) (by omega) (by omega)
    rw [c185_4]
    repeat (first | rw [bnd_s] | rw [tI_m] | rw [tL_m] | rw [tA_m] | rw [tV_m] | rw [fC142 hs _ (by decide)] | rw [pC142 hs _ _ (by decide)] | rw [MS_0 hm] | rw [MS_1 hm] | rw [MS_2 hm] | rw [MS_3 hm] | rw [MS_4 hm] | rw [MS_5 hm] | rw [MS_7 hm] | rw [MS_8 hm] | rw [MS_21 hm] | rw [MS_29 hm] | rw [MS_30 hm] | rw [MS_31 hm] | rw [MS_37 hm] | rw [MS_38 hm] | rw [MS_39 hm] | rw [MS_40 hm] | rw [aC143 hs _ (by omega) (by omega)] | rw [qC143 hs _ _ (by omega) (by omega)] | rw [w32_m (by omega) (by omega)] | rw [w32_al] | rw [w32_ar] | rw [w32_sl] | rw [w32_sr] | rw [w32_ml] | rw [w32_mr] | rw [w32_a3] | rw [w32_b3] | rw [w32_c3] | rw [w32_d3] | rw [w32_id (by omega) (by omega)] | rw [if_pos (show j < c 143 (20 + m).toNat by omega)] | rw [m181 _ hs hm hk' h0 h1 (by omega) (by omega)] | rw [m174 _ hs hm h2 h3 pb.1 pb.2])
    exact ih
theorem m185 (d : Nat) {s : List (Nat × Nat)} {c : Nat → Nat → Int} (hs : SpL s) (hm : MS c) {m : Int} (hk : MapOK c m) {r w : Int} (h0 : 0 ≤ r) (h1 : r < 2187) (h2 : 0 ≤ w) (h3 : w < 6) : Cd (d + 2) 185 [vA 142, vI m, vI r, vI w] (s, c) = some ([vI (swH (c 143 (20 + m).toNat) r w (c 143 (20 + m).toNat).toNat 0 0)], (s, c)) := by
  have k2 := hk.2.1
  rw [c185 (hg := gC142 hs c)]
  exact m185_4 d hs hm hk h0 h1 h2 h3 _ 0 0 (by omega) (by omega) (by omega) (by decide)
theorem m186 (d : Nat) {s : List (Nat × Nat)} {c : Nat → Nat → Int} (hs : SpL s) (hm : MS c) (hn : nM c) (hk : ∀ m, 0 ≤ m → m < c 143 0 → MapOK c m) (m r w : Int) : Cd (d + 3) 186 [vA 142, vI m, vI r, vI w] (s, c) = some ([vI (if (0 ≤ m ∧ m < c 143 0) ∧ (0 ≤ r ∧ r < r3 (c 143 (20 + m).toNat)) ∧ 0 ≤ w ∧ w < 6 then swH (c 143 (20 + m).toNat) r w (c 143 (20 + m).toNat).toNat 0 0 else -1)], (s, c)) := by
  rw [c186 (hg := gC142 hs c), m173 _ hs hm hn, bnd_s, tI_m, bnd_s, if_b0]
  by_cases h : 0 ≤ m ∧ m < c 143 0
  · have hk := hk m h.1 h.2
    have hb := r3_b (n := c 143 (20 + m).toNat) hk.2.1.2
    rw [show inR m 0 (c 143 0 - 1) = true from decide_eq_true (by omega), cond_t, m180 _ hs hm hk, bnd_s, tI_m, bnd_s, w32_id (by omega) (by omega), m172, bnd_s, tI_m, bnd_s, if_b0]
    by_cases h1 : 0 ≤ r ∧ r < r3 (c 143 (20 + m).toNat)
    · rw [show inR r 0 (r3 (c 143 (20 + m).toNat) - 1) = true from decide_eq_true (by omega), cond_t, m172, bnd_s, tI_m, bnd_s, if_b0]
      by_cases h2 : 0 ≤ w ∧ w < 6
      · rw [show inR w 0 5 = true from decide_eq_true (by omega), cond_t, m185 _ hs hm hk h1.1 (by omega) h2.1 h2.2, bnd_s, tI_m, bnd_s, if_pos ⟨h, h1, h2⟩]
      · rw [show inR w 0 5 = false from decide_eq_false (by omega), cond_f, c186_18, if_neg (fun g => h2 g.2.2)]
    · rw [show inR r 0 (r3 (c 143 (20 + m).toNat) - 1) = false from decide_eq_false (by omega), cond_f, c186_18, if_neg (fun g => h1 g.2.1)]
  · rw [show inR m 0 (c 143 0 - 1) = false from decide_eq_false (by omega), cond_f, c186_18, if_neg (fun g => h g.1)]
theorem m175 (d : Nat) {s : List (Nat × Nat)} {c : Nat → Nat → Int} (hs : SpL s) (hm : MS c) (hn : nM c) (l : Int) : Cd (d + 2) 175 [vA 142, vI l] (s, c) = if (2 ≤ l ∧ l ≤ 7) ∧ c 143 0 ≠ 4 then some ([vI (c 143 0)], (s, u2 (u2 c 143 (20 + c 143 0).toNat l) 143 0 (c 143 0 + 1))) else some ([vI (-1)], (s, c)) := by
  have n1 := hn.1; have n2 := hn.2
  rw [c175 (hg := gC142 hs c), m172, bnd_s, tI_m, bnd_s, if_b0]
  by_cases h : 2 ≤ l ∧ l ≤ 7
  · rw [show inR l 2 7 = true from decide_eq_true h, cond_t]
    by_cases h4 : c 143 0 = 4
    · rw [if_neg (fun g => g.2 h4)]
      repeat (first | rw [bnd_s] | rw [tI_m] | rw [tL_m] | rw [tA_m] | rw [tV_m] | rw [fC142 hs _ (by decide)] | rw [pC142 hs _ _ (by decide)] | rw [MS_0 hm] | rw [MS_1 hm] | rw [MS_2 hm] | rw [MS_3 hm] | rw [MS_4 hm] | rw [MS_5 hm] | rw [MS_7 hm] | rw [MS_8 hm] | rw [MS_21 hm] | rw [MS_29 hm] | rw [MS_30 hm] | rw [MS_31 hm] | rw [MS_37 hm] | rw [MS_38 hm] | rw [MS_39 hm] | rw [MS_40 hm] | rw [aC143 hs _ (by omega) (by omega)] | rw [qC143 hs _ _ (by omega) (by omega)] | rw [show (0 : Int).toNat = 0 from rfl] | rw [if_pos h4] | rw [c175_11])
    · rw [if_pos ⟨h, h4⟩]
      repeat (first | rw [bnd_s] | rw [tI_m] | rw [tL_m] | rw [tA_m] | rw [tV_m] | rw [fC142 hs _ (by decide)] | rw [pC142 hs _ _ (by decide)] | rw [MS_0 hm] | rw [MS_1 hm] | rw [MS_2 hm] | rw [MS_3 hm] | rw [MS_4 hm] | rw [MS_5 hm] | rw [MS_7 hm] | rw [MS_8 hm] | rw [MS_21 hm] | rw [MS_29 hm] | rw [MS_30 hm] | rw [MS_31 hm] | rw [MS_37 hm] | rw [MS_38 hm] | rw [MS_39 hm] | rw [MS_40 hm] | rw [u2_e] | rw [u2_n (by omega)] | rw [aC143 hs _ (by omega) (by omega)] | rw [qC143 hs _ _ (by omega) (by omega)] | rw [show (0 : Int).toNat = 0 from rfl] | rw [w32_m (by omega) (by omega)] | rw [w32_al] | rw [w32_ar] | rw [w32_sl] | rw [w32_sr] | rw [w32_ml] | rw [w32_mr] | rw [w32_a3] | rw [w32_b3] | rw [w32_c3] | rw [w32_d3] | rw [w32_id (by omega) (by omega)] | rw [if_neg h4])
      rw [show c 143 0 + 1 - 1 = c 143 0 by omega]
  · rw [show inR l 2 7 = false from decide_eq_false h, cond_f, c175_11, if_neg (fun g => h g.1)]
theorem m179 (d : Nat) {s : List (Nat × Nat)} {c : Nat → Nat → Int} (hs : SpL s) (hm : MS c) (hn : nM c) (hk : ∀ m, 0 ≤ m → m < c 143 0 → MapOK c m) (m x y : Int) : Cd (d + 3) 179 [vA 142, vI m, vI x, vI y] (s, c) = if (0 ≤ m ∧ m < c 143 0) ∧ (0 ≤ x ∧ x < c 143 (20 + m).toNat) ∧ (0 ≤ y ∧ y < c 143 (20 + m).toNat) ∧ x ≠ y ∧ isB c m x y = false ∧ c 143 (24 + m).toNat ≠ 15 then some ([vI (c 143 (24 + m).toNat)], (s, u2 (u2 (u2 c 143 (30 + 30 * m + 2 * c 143 (24 + m).toNat).toNat x) 143 (30 + 30 * m + 2 * c 143 (24 + m).toNat + 1).toNat y) 143 (24 + m).toNat (c 143 (24 + m).toNat + 1))) else some ([vI (-1)], (s, c)) := by
  rw [c179 (hg := gC142 hs c), m173 _ hs hm hn, bnd_s, tI_m, bnd_s, if_b0]
  have n2 := hn.2
  by_cases h : 0 ≤ m ∧ m < c 143 0
  · have hk := hk m h.1 h.2
    have hk' := hk
    obtain ⟨⟨k0, k1⟩, ⟨k2, k3⟩, ⟨k4, k5⟩, k6⟩ := hk
    rw [show inR m 0 (c 143 0 - 1) = true from decide_eq_true (by omega), cond_t]
    repeat (first | rw [bnd_s] | rw [tI_m] | rw [tL_m] | rw [tA_m] | rw [tV_m] | rw [fC142 hs _ (by decide)] | rw [pC142 hs _ _ (by decide)] | rw [MS_0 hm] | rw [MS_1 hm] | rw [MS_2 hm] | rw [MS_3 hm] | rw [MS_4 hm] | rw [MS_5 hm] | rw [MS_7 hm] | rw [MS_8 hm] | rw [MS_21 hm] | rw [MS_29 hm] | rw [MS_30 hm] | rw [MS_31 hm] | rw [MS_37 hm] | rw [MS_38 hm] | rw [MS_39 hm] | rw [MS_40 hm] | rw [aC143 hs _ (by omega) (by omega)] | rw [qC143 hs _ _ (by omega) (by omega)] | rw [w32_m (by omega) (by omega)] | rw [w32_al] | rw [w32_ar] | rw [w32_sl] | rw [w32_sr] | rw [w32_ml] | rw [w32_mr] | rw [w32_a3] | rw [w32_b3] | rw [w32_c3] | rw [w32_d3] | rw [w32_id (by omega) (by omega)] | rw [m172] | rw [if_b0])
    by_cases h1 : 0 ≤ x ∧ x < c 143 (20 + m).toNat
    · rw [show inR x 0 (c 143 (20 + m).toNat - 1) = true from decide_eq_true (by omega), cond_t]
      repeat (first | rw [bnd_s] | rw [tI_m] | rw [tL_m] | rw [tA_m] | rw [tV_m] | rw [fC142 hs _ (by decide)] | rw [pC142 hs _ _ (by decide)] | rw [MS_0 hm] | rw [MS_1 hm] | rw [MS_2 hm] | rw [MS_3 hm] | rw [MS_4 hm] | rw [MS_5 hm] | rw [MS_7 hm] | rw [MS_8 hm] | rw [MS_21 hm] | rw [MS_29 hm] | rw [MS_30 hm] | rw [MS_31 hm] | rw [MS_37 hm] | rw [MS_38 hm] | rw [MS_39 hm] | rw [MS_40 hm] | rw [aC143 hs _ (by omega) (by omega)] | rw [qC143 hs _ _ (by omega) (by omega)] | rw [w32_m (by omega) (by omega)] | rw [w32_al] | rw [w32_ar] | rw [w32_sl] | rw [w32_sr] | rw [w32_ml] | rw [w32_mr] | rw [w32_a3] | rw [w32_b3] | rw [w32_c3] | rw [w32_d3] | rw [w32_id (by omega) (by omega)] | rw [m172] | rw [if_b0])
      by_cases h2 : 0 ≤ y ∧ y < c 143 (20 + m).toNat
      · rw [show inR y 0 (c 143 (20 + m).toNat - 1) = true from decide_eq_true (by omega), cond_t]
        by_cases h3 : x = y
        · rw [if_pos h3, c179_45, if_neg (fun g => g.2.2.2.1 h3)]
        · rw [if_neg h3, m178 _ hs hm hk', bnd_s, tI_m, bnd_s, if_b0]
          cases h4 : isB c m x y with
          | true => rw [cond_t, c179_45, if_neg (fun g => by have := g.2.2.2.2.1; simp at this)]
          | false =>
            rw [cond_f]
            by_cases h5 : c 143 (24 + m).toNat = 15
            · rw [if_neg (fun g => g.2.2.2.2.2 h5)]
              repeat (first | rw [bnd_s] | rw [tI_m] | rw [tL_m] | rw [tA_m] | rw [tV_m] | rw [fC142 hs _ (by decide)] | rw [pC142 hs _ _ (by decide)] | rw [MS_0 hm] | rw [MS_1 hm] | rw [MS_2 hm] | rw [MS_3 hm] | rw [MS_4 hm] | rw [MS_5 hm] | rw [MS_7 hm] | rw [MS_8 hm] | rw [MS_21 hm] | rw [MS_29 hm] | rw [MS_30 hm] | rw [MS_31 hm] | rw [MS_37 hm] | rw [MS_38 hm] | rw [MS_39 hm] | rw [MS_40 hm] | rw [aC143 hs _ (by omega) (by omega)] | rw [qC143 hs _ _ (by omega) (by omega)] | rw [w32_m (by omega) (by omega)] | rw [w32_al] | rw [w32_ar] | rw [w32_sl] | rw [w32_sr] | rw [w32_ml] | rw [w32_mr] | rw [w32_a3] | rw [w32_b3] | rw [w32_c3] | rw [w32_d3] | rw [w32_id (by omega) (by omega)] | rw [if_pos h5] | rw [c179_45])
            · rw [if_pos ⟨h, h1, h2, h3, rfl, h5⟩]
              repeat (first | rw [bnd_s] | rw [tI_m] | rw [tL_m] | rw [tA_m] | rw [tV_m] | rw [fC142 hs _ (by decide)] | rw [pC142 hs _ _ (by decide)] | rw [MS_0 hm] | rw [MS_1 hm] | rw [MS_2 hm] | rw [MS_3 hm] | rw [MS_4 hm] | rw [MS_5 hm] | rw [MS_7 hm] | rw [MS_8 hm] | rw [MS_21 hm] | rw [MS_29 hm] | rw [MS_30 hm] | rw [MS_31 hm] | rw [MS_37 hm] | rw [MS_38 hm] | rw [MS_39 hm] | rw [MS_40 hm] | rw [u2_e] | rw [u2_n (by omega)] | rw [aC143 hs _ (by omega) (by omega)] | rw [qC143 hs _ _ (by omega) (by omega)] | rw [w32_m (by omega) (by omega)] | rw [w32_al] | rw [w32_ar] | rw [w32_sl] | rw [w32_sr] | rw [w32_ml] | rw [w32_mr] | rw [w32_a3] | rw [w32_b3] | rw [w32_c3] | rw [w32_d3] | rw [w32_id (by omega) (by omega)] | rw [if_neg h5])
              rw [show c 143 (24 + m).toNat + 1 - 1 = c 143 (24 + m).toNat by omega]
      · rw [show inR y 0 (c 143 (20 + m).toNat - 1) = false from decide_eq_false (by omega), cond_f, c179_45, if_neg (fun g => h2 g.2.2.1)]
    · rw [show inR x 0 (c 143 (20 + m).toNat - 1) = false from decide_eq_false (by omega), cond_f, c179_45, if_neg (fun g => h1 g.2.1)]
  · rw [show inR m 0 (c 143 0 - 1) = false from decide_eq_false (by omega), cond_f, c179_45, if_neg (fun g => h g.1)]
