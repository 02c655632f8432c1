/-! boxes -/
theorem swF_dig {w : Int} (h0 : 0 ≤ w) (h1 : w < 6) : ∀ (j k : Nat) (r : Int), j < k → swF k w r / (3 : Int) ^ j % 3 = swp w (r / (3 : Int) ^ j % 3)
  | 0, k + 1, r, _ => by
    have b := swp_bd h0 h1 (p := r % 3) (by omega) (by omega)
    simp only [swF, Int.pow_zero, Int.ediv_one]
    omega
  | j + 1, k + 1, r, h => by
    have b := swp_bd h0 h1 (p := r % 3) (by omega) (by omega)
    have ih := swF_dig h0 h1 j k (r / 3) (by omega)
    have e : ∀ x : Int, x / (3 : Int) ^ (j + 1) = x / 3 / (3 : Int) ^ j := fun x => by
      rw [Int.ediv_ediv_of_nonneg (by decide), Int.pow_succ, Int.mul_comm]
    rw [e, e, show swF (k + 1) w r / 3 = swF k w (r / 3) by simp only [swF]; omega]
    exact ih
theorem pnt_sw {n r w l : Int} (h0 : 0 ≤ w) (h1 : w < 6) (hl : 0 ≤ l) (hl2 : l < n) : pnt n (swF n.toNat w r) l = swp w (pnt n r l) := by
  unfold pnt r3
  exact swF_dig h0 h1 _ _ r (by omega)
theorem bt_ior {x y k : Int} (hx : 0 ≤ x) (hx2 : x < 2147483648) (hy : 0 ≤ y) (hy2 : y < 2147483648) : bt (ior x y) k = (bt x k || bt y k) := by
  unfold bt
  rw [ior_n hx hx2 hy hy2, Int.toNat_natCast, Nat.testBit_or]
theorem ior_b {x y : Int} (hx : 0 ≤ x) (hx2 : x < 128) (hy : 0 ≤ y) (hy2 : y < 128) : 0 ≤ ior x y ∧ ior x y < 128 := by
  rw [ior_n hx (by omega) hy (by omega)]
  have : x.toNat ||| y.toNat < 2 ^ 7 := Nat.or_lt_two_pow (by omega) (by omega)
  omega
theorem sh1_ok : (List.range 7).all (fun y => decide (0 ≤ ishl 1 (y : Nat) ∧ ishl 1 (y : Nat) < 128) && (List.range 7).all fun o => bt (ishl 1 (y : Nat)) (o : Nat) == decide (o = y)) = true := by decide +kernel
theorem sh1 {y : Int} (h0 : 0 ≤ y) (h1 : y < 7) : (0 ≤ ishl 1 y ∧ ishl 1 y < 128) ∧ ∀ o, 0 ≤ o → o < 7 → bt (ishl 1 y) o = decide (o = y) := by
  have h := List.all_eq_true.mp sh1_ok y.toNat (List.mem_range.mpr (by omega))
  simp only [Bool.and_eq_true, decide_eq_true_eq, Int.toNat_of_nonneg h0] at h
  refine ⟨h.1, fun o ho ho2 => ?_⟩
  have g := List.all_eq_true.mp h.2 o.toNat (List.mem_range.mpr (by omega))
  simp only [beq_iff_eq, Int.toNat_of_nonneg ho] at g
  rw [g]
  exact decide_eq_decide.mpr (by constructor <;> intro q <;> omega)
theorem m254_32 (d : Nat) {s : List (Nat × Nat)} {c0 : Nat → Nat → Int} (hs : SpL s) (hm : MS c0) {m r w : Int} (hk : MapOK c0 m) (h0 : 0 ≤ r) (h1 : r < 2187) (h2 : 0 ≤ w) (h3 : w < 6) : ∀ (n : Nat) (j : Int) (c : Nat → Nat → Int), 0 ≤ j → j + n = 7 → (∀ o k, ¬ (o = 143 ∧ 300 ≤ k ∧ k < 317) → c o k = c0 o k) → (∀ i, 0 ≤ i → i < j → c 143 (300 + i).toNat = (if i < c0 143 (20 + m).toNat then swp w (pnt (c0 143 (20 + m).toNat) r i) else 0) ∧ c 143 (310 + i).toNat = 0) →
    ∃ c', Rr (Cd (d + 1)) 254 32 [some (vA 142), some (vI m), some (vI r), some (vI w), some (vI j)] [] (s, c) = some ([vI 1], (s, c')) ∧ (∀ o k, ¬ (o = 143 ∧ 300 ≤ k ∧ k < 317) → c' o k = c0 o k) ∧ ∀ i, 0 ≤ i → i < 7 → c' 143 (300 + i).toNat = (if i < c0 143 (20 + m).toNat then swp w (pnt (c0 143 (20 + m).toNat) r i) else 0) ∧ c' 143 (310 + i).toNat = 0
  | 0, j, c, hj, h, hf, hv => by
    rw [c254_32, if_neg (by omega)]
    exact ⟨c, rfl, hf, fun i a b => hv i a (by omega)⟩
  | n + 1, j, c, hj, h, hf, hv => by
    obtain ⟨⟨k0, k1⟩, ⟨k2, k3⟩, ⟨k4, k5⟩, k6⟩ := hk
    have hm' : MS c := MS_of hm (fun q _ => hf _ _ (by omega)) (funext fun k => hf _ _ (by omega)) (funext fun k => hf _ _ (by omega))
    have eL : c 143 (20 + m).toNat = c0 143 (20 + m).toNat := hf _ _ (by omega)
    have hk' : MapOK c m := ⟨⟨k0, k1⟩, by rw [eL]; exact ⟨k2, k3⟩, by rw [hf 143 (24 + m).toNat (by omega)]; exact ⟨k4, k5⟩, fun b hb hb2 => by
      rw [hf 143 (24 + m).toNat (by omega)] at hb2
      rw [eL, hf 143 (30 + 30 * m + 2 * b).toNat (by omega), hf 143 (30 + 30 * m + 2 * b + 1).toNat (by omega)]; exact k6 b hb hb2⟩
    have step : ∀ x : Int, x = (if j < c0 143 (20 + m).toNat then swp w (pnt (c0 143 (20 + m).toNat) r j) else 0) → ∃ c', Rr (Cd (d + 1)) 254 58 [some (vA 142), some (vI m), some (vI r), some (vI w), some (vI j)] [vI x, vI (w32 (300 + j)), vA 143] (s, c) = some ([vI 1], (s, c')) ∧ (∀ o k, ¬ (o = 143 ∧ 300 ≤ k ∧ k < 317) → c' o k = c0 o k) ∧ ∀ i, 0 ≤ i → i < 7 → c' 143 (300 + i).toNat = (if i < c0 143 (20 + m).toNat then swp w (pnt (c0 143 (20 + m).toNat) r i) else 0) ∧ c' 143 (310 + i).toNat = 0 := fun x hx => by
      rw [c254_58]
      repeat (first | rw [bnd_s] | rw [tI_m] | rw [tL_m] | rw [tA_m] | rw [tV_m] | rw [fC142 hs _ (by decide)] | rw [pC142 hs _ _ (by decide)] | rw [u2_e] | rw [u2_n (by omega)] | rw [MS_0 hm'] | rw [w32_m (by omega) (by omega)] | rw [w32_al] | rw [w32_ar] | rw [w32_sl] | rw [w32_sr] | rw [w32_ml] | rw [w32_mr] | rw [w32_a3] | rw [w32_b3] | rw [w32_c3] | rw [w32_d3] | rw [w32_id (by omega) (by omega)] | rw [aC143 hs _ (by omega) (by omega)] | rw [qC143 hs _ _ (by omega) (by omega)])
      obtain ⟨c', g1, g2, g3⟩ := m254_32 d hs hm ⟨⟨k0, k1⟩, ⟨k2, k3⟩, ⟨k4, k5⟩, k6⟩ h0 h1 h2 h3 n (j + 1) (u2 (u2 c 143 (300 + j).toNat x) 143 (310 + j).toNat 0) (by omega) (by omega) (fun o k ho => by rw [u2_n (by omega), u2_n (by omega)]; exact hf o k ho) (fun i a b => by
        by_cases hi : i = j
        · subst hi; rw [u2_n (by omega), u2_e, u2_e]; exact ⟨hx, rfl⟩
        · rw [u2_n (by omega), u2_n (by omega), u2_n (by omega), u2_n (by omega)]; exact hv i a (by omega))
      exact ⟨c', g1, g2, g3⟩
    rw [c254_32, if_pos (by omega)]
    by_cases hjl : j < c0 143 (20 + m).toNat
    · have pb := pnt_b (c0 143 (20 + m).toNat) r j
      rw [if_pos hjl] at step
      repeat (first | rw [bnd_s] | rw [tI_m] | rw [tL_m] | rw [tA_m] | rw [tV_m] | rw [fC142 hs _ (by decide)] | rw [pC142 hs _ _ (by decide)] | rw [MS_0 hm'] | rw [w32_id (z := 20 + m) (by omega) (by omega)] | rw [aC143 hs _ (show 0 ≤ 20 + m by omega) (by omega)] | rw [eL] | rw [if_pos hjl] | rw [m181 _ hs hm' hk' h0 h1 (by omega) (by omega)] | rw [m174 _ hs hm' h2 h3 pb.1 pb.2])
      exact step _ rfl
    · rw [if_neg hjl] at step
      repeat (first | rw [bnd_s] | rw [tI_m] | rw [tL_m] | rw [tA_m] | rw [tV_m] | rw [fC142 hs _ (by decide)] | rw [pC142 hs _ _ (by decide)] | rw [MS_0 hm'] | rw [w32_id (z := 20 + m) (by omega) (by omega)] | rw [aC143 hs _ (show 0 ≤ 20 + m by omega) (by omega)] | rw [eL] | rw [if_neg hjl])
      exact step _ rfl
theorem op_shut (m r w : Int) : Op 135 254 [vI m, vI r, vI w] := by
  intro s c n hI
  have hs := hI.1.l
  have hc := hI.2.2.2.1
  have hm := hI.2.2.1
  have n2 := hI.nM.2
  have n1 := hI.nM.1
  have hmok := hI.mok
  obtain ⟨a10, a11, a12, a13⟩ := hI.2.2.2.2.1.2.2.2.2.2
  by_cases h : 0 ≤ m ∧ m < c 143 0
  case neg =>
    have r1 : Cd 999 135 [vA 29, vI m, vI r, vI w] (s, c) = some ([vI 0], (s, c)) := by
      rw [c135 (hg := gC29 hs c), fC29 hs _ (by decide), bnd_s, CS_29_0 hc, k113 _ hs hc hI.2.2.2.2.1.1.1 hI.nM, bnd_s, tA_m, bnd_s, if_neg h, if_neg (show ¬ (-1 : Int) = 0 by decide), if_pos (show (-1 : Int) < 0 by decide), c135_14]
    have r2 : Cd 999 254 [vA 142, vI m, vI r, vI w] (s, c) = some ([vI 0], (s, c)) := by
      rw [c254 (hg := gC142 hs c), m173 _ hs hm hI.nM, bnd_s, tI_m, bnd_s, if_b0, inR_f (by omega), cond_f, c254_18]
    exact ⟨_, s, s, c, c, n, r1, r2, by omega, hI⟩
  have hr := hI.map (m := m.toNat) (by omega)
  have hch := chN hs hc (m := m.toNat) (by omega)
  rw [Int.toNat_of_nonneg h.1] at hr
  have hk := hmok m h.1 h.2
  have hb := r3_b hk.2.1.2
  by_cases h1 : 0 ≤ r ∧ r < r3 (c 143 (20 + m).toNat)
  case neg =>
    have r1 : Cd 999 135 [vA 29, vI m, vI r, vI w] (s, c) = some ([vI 0], (s, c)) := by
      rw [c135 (hg := gC29 hs c), fC29 hs _ (by decide), bnd_s, CS_29_0 hc, k113 _ hs hc hI.2.2.2.2.1.1.1 hI.nM, bnd_s, tA_m, bnd_s, if_pos h, if_neg (by omega), if_neg (by omega), k11 _ hch hr, bnd_s, tI_m, bnd_s, if_b0, decide_eq_false h1, cond_f, c135_14]
    have r2 : Cd 999 254 [vA 142, vI m, vI r, vI w] (s, c) = some ([vI 0], (s, c)) := by
      rw [c254 (hg := gC142 hs c), m173 _ hs hm hI.nM, bnd_s, tI_m, bnd_s, if_b0, inR_t (by omega), cond_t, m180 _ hs hm hk, bnd_s, tI_m, bnd_s, w32_id (by omega) (by omega), m172, bnd_s, tI_m, bnd_s, if_b0, inR_f (by omega), cond_f, c254_18]
    exact ⟨_, s, s, c, c, n, r1, r2, by omega, hI⟩
  by_cases h2 : 0 ≤ w ∧ w < 6
  case neg =>
    have r1 : Cd 999 135 [vA 29, vI m, vI r, vI w] (s, c) = some ([vI 0], (s, c)) := by
      rw [c135 (hg := gC29 hs c), fC29 hs _ (by decide), bnd_s, CS_29_0 hc, k113 _ hs hc hI.2.2.2.2.1.1.1 hI.nM, bnd_s, tA_m, bnd_s, if_pos h, if_neg (by omega), if_neg (by omega), k11 _ hch hr, bnd_s, tI_m, bnd_s, if_b0, decide_eq_true h1, cond_t, k161, bnd_s, tI_m, bnd_s, if_b0, decide_eq_false h2, cond_f, c135_14]
    have r2 : Cd 999 254 [vA 142, vI m, vI r, vI w] (s, c) = some ([vI 0], (s, c)) := by
      rw [c254 (hg := gC142 hs c), m173 _ hs hm hI.nM, bnd_s, tI_m, bnd_s, if_b0, inR_t (by omega), cond_t, m180 _ hs hm hk, bnd_s, tI_m, bnd_s, w32_id (by omega) (by omega), m172, bnd_s, tI_m, bnd_s, if_b0, inR_t (by omega), cond_t, m172, bnd_s, tI_m, bnd_s, if_b0, inR_f (by omega), cond_f, c254_18]
    exact ⟨_, s, s, c, c, n, r1, r2, by omega, hI⟩
  have eL := hr.1.1
  generalize hN : c 143 (20 + m).toNat = N at *
  have hN2 : 2 ≤ N ∧ N ≤ 7 := by have := hk.2.1; rw [hN] at this; exact this
  have sb := swF_b h2.1 h2.2 N.toNat r
  have hrow : 0 ≤ swF N.toNat w r ∧ swF N.toNat w r < r3 N := sb
  have pk := pk_ok hN2.1 hN2.2 hrow.1 hrow.2
  have r1 : Cd 999 135 [vA 29, vI m, vI r, vI w] (s, c) = some ([vI 1], (s, u2 (u2 (u2 c 36 0 m) 36 1 (pkR (swF N.toNat w r) N)) 36 2 0)) := by
    rw [c135 (hg := gC29 hs c), fC29 hs _ (by decide), bnd_s, CS_29_0 hc, k113 _ hs hc hI.2.2.2.2.1.1.1 hI.nM, bnd_s, tA_m, bnd_s, if_pos h, if_neg (by omega), if_neg (by omega), k11 _ hch hr, bnd_s, tI_m, bnd_s, if_b0, hN, decide_eq_true h1, cond_t, k161, bnd_s, tI_m, bnd_s, if_b0, decide_eq_true h2, cond_t]
    repeat (first | rw [bnd_s] | rw [tI_m] | rw [tL_m] | rw [tA_m] | rw [tV_m] | rw [fC29 hs _ (by decide)] | rw [pC29 hs _ _ (by decide)] | rw [fC30 hs _ (by decide)] | rw [pC30 hs _ _ (by decide)] | rw [fC36 hs _ (by decide)] | rw [pC36 hs _ _ (by decide)] | rw [CS_29_0 hc] | rw [CS_30_3 hc] | rw [gF_g hch.1.1 _ (by decide)] | rw [eL] | rw [k167 _ hs hI.2.1 (by omega) hN2.2 h2.1 h2.2 h1.1 (by omega)] | rw [k164 _ _ _ (by omega) (by omega)] | rw [c1 (hg := gC36 hs _)])
  have hm1 : MS (u2 (u2 (u2 c 36 0 m) 36 1 (pkR (swF N.toNat w r) N)) 36 2 0) := MS_a (MS_a (MS_a hm _ (by decide)) _ (by decide)) _ (by decide)
  have q1 : ∀ o k, o ≠ 36 → (u2 (u2 (u2 c 36 0 m) 36 1 (pkR (swF N.toNat w r) N)) 36 2 0) o k = c o k := fun o k ho => by rw [u2_n (by omega), u2_n (by omega), u2_n (by omega)]
  have q2 : (u2 (u2 (u2 c 36 0 m) 36 1 (pkR (swF N.toNat w r) N)) 36 2 0) 36 0 = m := by rw [u2_n (by omega), u2_n (by omega), u2_e]
  have q3 : (u2 (u2 (u2 c 36 0 m) 36 1 (pkR (swF N.toNat w r) N)) 36 2 0) 36 1 = pkR (swF N.toNat w r) N := by rw [u2_n (by omega), u2_e]
  have q4 : (u2 (u2 (u2 c 36 0 m) 36 1 (pkR (swF N.toNat w r) N)) 36 2 0) 36 2 = 0 := u2_e _ _ _ _
  generalize (u2 (u2 (u2 c 36 0 m) 36 1 (pkR (swF N.toNat w r) N)) 36 2 0) = c1 at *
  have e143 : c1 143 = c 143 := funext fun k => q1 _ _ (by omega)
  have hm2 : MS (u2 (u2 c1 143 4 1) 143 5 m) := MS_a (MS_a hm1 _ (by decide)) _ (by decide)
  have p1 : ∀ o k, ¬ (o = 143 ∧ (k = 4 ∨ k = 5)) → (u2 (u2 c1 143 4 1) 143 5 m) o k = c1 o k := fun o k ho => by rw [u2_n (by omega), u2_n (by omega)]
  have hk1 : MapOK c1 m := MapOK_of hk e143
  have pN : (u2 (u2 c1 143 4 1) 143 5 m) 143 (20 + m).toNat = N := by rw [p1 _ _ (by omega), e143, hN]
  have hk2 : MapOK (u2 (u2 c1 143 4 1) 143 5 m) m := by
    obtain ⟨x1, x2, x3, x4⟩ := hk1
    refine ⟨x1, by rw [p1 143 (20 + m).toNat (by omega)]; exact x2, by rw [p1 143 (24 + m).toNat (by omega)]; exact x3, fun b hb hb2 => ?_⟩
    rw [p1 143 (24 + m).toNat (by omega)] at hb2
    rw [p1 143 (20 + m).toNat (by omega), p1 143 (30 + 30 * m + 2 * b).toNat (by omega), p1 143 (30 + 30 * m + 2 * b + 1).toNat (by omega)]
    exact x4 b hb hb2
  obtain ⟨c2, g1, g2, g3⟩ := m254_32 997 hs hm2 hk2 h1.1 (by omega) h2.1 h2.2 7 0 _ (by omega) (by omega) (fun _ _ _ => rfl) (fun i a b => by omega)
  rw [pN] at g3
  have r2 : Cd 999 254 [vA 142, vI m, vI r, vI w] (s, c1) = some ([vI 1], (s, c2)) := by
    rw [c254 (hg := gC142 hs c1), m173 _ hs hm1 (show nM c1 by unfold nM; rw [e143]; exact hI.nM), bnd_s, tI_m, bnd_s, if_b0, e143, inR_t (by omega), cond_t, m180 _ hs hm1 hk1, bnd_s, tI_m, bnd_s, e143, hN, w32_id (by omega) (by omega), m172, bnd_s, tI_m, bnd_s, if_b0, inR_t (by omega), cond_t, m172, bnd_s, tI_m, bnd_s, if_b0, inR_t (by omega), cond_t]
    repeat (first | rw [bnd_s] | rw [tI_m] | rw [tL_m] | rw [tA_m] | rw [tV_m] | rw [fC142 hs _ (by decide)] | rw [pC142 hs _ _ (by decide)] | rw [u2_e] | rw [u2_n (by omega)] | rw [MS_0 hm1] | rw [aC143 hs _ (by decide) (by decide)] | rw [qC143 hs _ _ (by decide) (by decide)] | rw [show (0 : Int).toNat = 0 from rfl] | rw [show (1 : Int).toNat = 1 from rfl] | rw [show (2 : Int).toNat = 2 from rfl] | rw [show (3 : Int).toNat = 3 from rfl] | rw [show (4 : Int).toNat = 4 from rfl] | rw [show (5 : Int).toNat = 5 from rfl])
    exact g1
  refine ⟨_, s, s, c1, c2, n, r1, r2, by omega, ?_⟩
  have f4 : c2 143 4 = 1 := by rw [g2 _ _ (by omega), u2_n (by omega), u2_e]
  have f5 : c2 143 5 = m := by rw [g2 _ _ (by omega), u2_e]
  have fo : ∀ k, k ≠ 4 → k ≠ 5 → ¬ (300 ≤ k ∧ k < 317) → c2 143 k = c 143 k := fun k x1 x2 x3 => by rw [g2 _ _ (by omega), p1 _ _ (by omega), e143]
  have fc : ∀ o k, o ≠ 143 → o ≠ 36 → c2 o k = c o k := fun o k x1 x2 => by rw [g2 _ _ (by omega), p1 _ _ (by omega), q1 _ _ x2]
  have fb : ∀ k, c2 36 k = c1 36 k := fun k => by rw [g2 _ _ (by omega), p1 _ _ (by omega)]
  refine Inv_set hI (fun o k x1 x2 => fc o k x2 (by omega)) (fc 38 0 (by omega) (by omega)) (fun k hk => fo k (by omega) (by omega) (by omega)) (SeeRel_of a10 (fun k x1 x2 => fo k (by omega) (by omega) (by omega)) (funext fun k => fc _ _ (by omega) (by omega)) (funext fun k => fc _ _ (by omega) (by omega))) (Or.inr ⟨f4, ?_, ?_, ?_, ?_, fun l hl hl2 => ?_⟩) (LockRel_of a12 (fun k x1 x2 => fo k (by omega) (by omega) (by omega)) (funext fun k => fc _ _ (by omega) (by omega))) (RidRel_of a13 (fo 2 (by omega) (by omega) (by omega)) (fo 3 (by omega) (by omega) (by omega)) (fun k x1 x2 => fo k (by omega) (by omega) (by omega)) (funext fun k => fc _ _ (by omega) (by omega)) (funext fun k => fc _ _ (by omega) (by omega)))
  · rw [f5, fo 0 (by omega) (by omega) (by omega)]; exact h
  · show c2 36 0 = _; rw [fb, q2, f5]
  · show 0 ≤ c2 36 1 ∧ c2 36 1 < 16384; rw [fb, q3]; exact pk.1
  · show 0 ≤ c2 36 2 ∧ c2 36 2 < 128; rw [fb, q4]; omega
  · have gl := g3 l hl hl2
    show _ = b2i (bt (c2 36 2) l) ∧ (_ → _ ∧ pin (c2 36 1) l = _) ∧ (_ → bt (c2 36 2) l = false)
    rw [fb, fb, q3, q4, bt_0, f5, fo (20 + m).toNat (by omega) (by omega) (by omega), hN, gl.2, gl.1]
    refine ⟨rfl, fun x => ?_, fun _ => rfl⟩
    have pb := pnt_b N r l
    have sb := swp_bd h2.1 h2.2 pb.1 pb.2
    rw [if_pos x, pk.2 l hl x, pnt_sw h2.1 h2.2 hl x]
    exact ⟨by omega, rfl⟩
