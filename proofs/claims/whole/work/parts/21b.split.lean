/-! the class splits its tape -/
theorem st_0 : byts (stS 0) = [97, 98, 120, 121] := by decide +kernel
theorem st_1 : byts (stS 1) = [111, 114] := by decide +kernel
theorem st_2 : byts (stS 2) = [97, 110, 100] := by decide +kernel
theorem st_3 : byts (stS 3) = [110, 111, 116] := by decide +kernel
theorem st_4 : byts (stS 4) = [115, 119, 97, 112] := by decide +kernel
theorem st_5 : byts (stS 5) = [111, 110, 99, 101] := by decide +kernel
theorem st_6 : byts (stS 6) = [97, 115, 107] := by decide +kernel
theorem st_7 : byts (stS 7) = [106, 117, 100, 103, 101] := by decide +kernel
theorem st_8 : byts (stS 8) = [98, 111, 114, 100, 101, 114, 115] := by decide +kernel
theorem st_9 : byts (stS 9) = [112, 97, 105, 114, 115] := by decide +kernel
theorem st_10 : byts (stS 10) = [108, 97, 110, 100, 115] := by decide +kernel
theorem st_11 : byts (stS 11) = [60, 62, 61, 35, 43, 45, 42, 40, 41, 59] := by decide +kernel
theorem wd_1 {T : Int → Int} {n p : Int} (h : fe isLt T n p - p = 1) : wd T n p = T p := by
  unfold wd
  rw [h, if_neg (by decide)]; exact pk_1 T p
theorem Lt_fe {T : Int → Int} {n p : Int} : Lt T p (fe isLt T n p) := fun q h1 h2 => by
  have := isLt_t.mp (fe_a (n - p).toNat p q (by omega) h1 h2)
  omega
theorem wc_o {w : Int} (n97 : w ≠ 97) (n98 : w ≠ 98) (n120 : w ≠ 120) (n121 : w ≠ 121) (n9 : w ≠ 28530) (n8 : w ≠ 6385252) (n7 : w ≠ 7237492) (n10 : w ≠ 1937203568) (n11 : w ≠ 1869505381) (n12 : w ≠ 6386539) (n13 : w ≠ 457236047717) (n14 : w ≠ 27707084818969203) (n15 : w ≠ 482670637683) (n16 : w ≠ 465491092595) : wc w = 1 := by
  unfold wc
  rw [if_neg n97, if_neg n98, if_neg n120, if_neg n121, if_neg n9, if_neg n8, if_neg n7, if_neg n10, if_neg n11, if_neg n12, if_neg n13, if_neg n14, if_neg n15, if_neg n16]
theorem k86 (d : Nat) {s : List (Nat × Nat)} {c : Nat → Nat → Int} {T : Int → Int} {n p : Int} (hs : SpL s) (hx : Xt c) (hT : TpC T n c) (h0 : 0 ≤ p) (h1 : p < n) (h2 : isLt (T p) = true) : Cd (d + 6) 86 [vA 122, vI p, vI (fe isLt T n p)] (s, c) = some ([vI (wc (wd T n p))], (s, c)) := by
  have hn := hT.1
  have hp1 : p + 1 ≤ fe isLt T n p := by rw [fe_s h1 h2]; exact (fe_b (by omega)).1
  have hpn : fe isLt T n p ≤ n := (fe_b (by omega)).2
  have hl : Lt T p (fe isLt T n p) := Lt_fe
  have hb := hl p (by omega) (by omega)
  by_cases g : fe isLt T n p - p = 1
  · have ht := (hT.2 p h0 h1).1
    obtain ⟨v, e1, e2⟩ := j292 (d + 1) (str_a hs hx (a := 0) (by decide)) (x := T p) (by omega) (by omega)
    rw [st_0] at e2
    have e1' : Cd (d + 5) 292 [vA 5, vI (T p)] (s, c) = some ([vI v], (s, c)) := e1
    rw [wd_1 g, c86 (hg := gC122 hs c), w32_id (by omega) (by omega), if_pos g, fC122 hs _ (by decide), bnd_s, hn.1, aC123 hs _ (by omega) (by omega), bnd_s, ht, i2c_i (by omega) (by omega), e1', bnd_s, tI_m, bnd_s]
    by_cases hv : v < 0
    · have m := e2.mp hv
      rw [if_pos hv, c86_19]
      simp only [List.mem_cons, List.not_mem_nil, or_false, not_or] at m
      rw [wc_o (by omega) (by omega) (by omega) (by omega) (by omega) (by omega) (by omega) (by omega) (by omega) (by omega) (by omega) (by omega) (by omega) (by omega)]
    · have m : T p ∈ [(97 : Int), 98, 120, 121] := Classical.byContradiction fun w => hv (e2.mpr w)
      rw [if_neg hv, fC122 hs _ (by decide), bnd_s, hn.1, aC123 hs _ (by omega) (by omega), bnd_s, ht, c86_19]
      simp only [List.mem_cons, List.not_mem_nil, or_false] at m
      rcases m with m | m | m | m <;> rw [m] <;> rfl
  · have r9 : Cd (d + 5) 87 [vA 122, vI p, vI (fe isLt T n p), vA 7] (s, c) = some ([vI (b2i (decide (wd T n p = 28530)))], (s, c)) := by
      have q := k87 d hs (str_a hs hx (a := 1) (by decide)) hT h0 (by omega) hpn
      rw [st_1] at q
      have z : (decide (fe isLt T n p - p = 2) && eqB T [111, 114] p) = decide (wd T n p = 28530) := by
        rw [Bool.eq_iff_iff, sp_9 hp1 hl, decide_eq_true_iff]
      rw [← z]; exact q
    have r8 : Cd (d + 5) 87 [vA 122, vI p, vI (fe isLt T n p), vA 9] (s, c) = some ([vI (b2i (decide (wd T n p = 6385252)))], (s, c)) := by
      have q := k87 d hs (str_a hs hx (a := 2) (by decide)) hT h0 (by omega) hpn
      rw [st_2] at q
      have z : (decide (fe isLt T n p - p = 3) && eqB T [97, 110, 100] p) = decide (wd T n p = 6385252) := by
        rw [Bool.eq_iff_iff, sp_8 hp1 hl, decide_eq_true_iff]
      rw [← z]; exact q
    have r7 : Cd (d + 5) 87 [vA 122, vI p, vI (fe isLt T n p), vA 11] (s, c) = some ([vI (b2i (decide (wd T n p = 7237492)))], (s, c)) := by
      have q := k87 d hs (str_a hs hx (a := 3) (by decide)) hT h0 (by omega) hpn
      rw [st_3] at q
      have z : (decide (fe isLt T n p - p = 3) && eqB T [110, 111, 116] p) = decide (wd T n p = 7237492) := by
        rw [Bool.eq_iff_iff, sp_7 hp1 hl, decide_eq_true_iff]
      rw [← z]; exact q
    have r10 : Cd (d + 5) 87 [vA 122, vI p, vI (fe isLt T n p), vA 13] (s, c) = some ([vI (b2i (decide (wd T n p = 1937203568)))], (s, c)) := by
      have q := k87 d hs (str_a hs hx (a := 4) (by decide)) hT h0 (by omega) hpn
      rw [st_4] at q
      have z : (decide (fe isLt T n p - p = 4) && eqB T [115, 119, 97, 112] p) = decide (wd T n p = 1937203568) := by
        rw [Bool.eq_iff_iff, sp_10 hp1 hl, decide_eq_true_iff]
      rw [← z]; exact q
    have r11 : Cd (d + 5) 87 [vA 122, vI p, vI (fe isLt T n p), vA 15] (s, c) = some ([vI (b2i (decide (wd T n p = 1869505381)))], (s, c)) := by
      have q := k87 d hs (str_a hs hx (a := 5) (by decide)) hT h0 (by omega) hpn
      rw [st_5] at q
      have z : (decide (fe isLt T n p - p = 4) && eqB T [111, 110, 99, 101] p) = decide (wd T n p = 1869505381) := by
        rw [Bool.eq_iff_iff, sp_11 hp1 hl, decide_eq_true_iff]
      rw [← z]; exact q
    have r12 : Cd (d + 5) 87 [vA 122, vI p, vI (fe isLt T n p), vA 17] (s, c) = some ([vI (b2i (decide (wd T n p = 6386539)))], (s, c)) := by
      have q := k87 d hs (str_a hs hx (a := 6) (by decide)) hT h0 (by omega) hpn
      rw [st_6] at q
      have z : (decide (fe isLt T n p - p = 3) && eqB T [97, 115, 107] p) = decide (wd T n p = 6386539) := by
        rw [Bool.eq_iff_iff, sp_12 hp1 hl, decide_eq_true_iff]
      rw [← z]; exact q
    have r13 : Cd (d + 5) 87 [vA 122, vI p, vI (fe isLt T n p), vA 19] (s, c) = some ([vI (b2i (decide (wd T n p = 457236047717)))], (s, c)) := by
      have q := k87 d hs (str_a hs hx (a := 7) (by decide)) hT h0 (by omega) hpn
      rw [st_7] at q
      have z : (decide (fe isLt T n p - p = 5) && eqB T [106, 117, 100, 103, 101] p) = decide (wd T n p = 457236047717) := by
        rw [Bool.eq_iff_iff, sp_13 hp1 hl, decide_eq_true_iff]
      rw [← z]; exact q
    have r14 : Cd (d + 5) 87 [vA 122, vI p, vI (fe isLt T n p), vA 21] (s, c) = some ([vI (b2i (decide (wd T n p = 27707084818969203)))], (s, c)) := by
      have q := k87 d hs (str_a hs hx (a := 8) (by decide)) hT h0 (by omega) hpn
      rw [st_8] at q
      have z : (decide (fe isLt T n p - p = 7) && eqB T [98, 111, 114, 100, 101, 114, 115] p) = decide (wd T n p = 27707084818969203) := by
        rw [Bool.eq_iff_iff, sp_14 hp1 hl, decide_eq_true_iff]
      rw [← z]; exact q
    have r15 : Cd (d + 5) 87 [vA 122, vI p, vI (fe isLt T n p), vA 23] (s, c) = some ([vI (b2i (decide (wd T n p = 482670637683)))], (s, c)) := by
      have q := k87 d hs (str_a hs hx (a := 9) (by decide)) hT h0 (by omega) hpn
      rw [st_9] at q
      have z : (decide (fe isLt T n p - p = 5) && eqB T [112, 97, 105, 114, 115] p) = decide (wd T n p = 482670637683) := by
        rw [Bool.eq_iff_iff, sp_15 hp1 hl, decide_eq_true_iff]
      rw [← z]; exact q
    have r16 : Cd (d + 5) 87 [vA 122, vI p, vI (fe isLt T n p), vA 25] (s, c) = some ([vI (b2i (decide (wd T n p = 465491092595)))], (s, c)) := by
      have q := k87 d hs (str_a hs hx (a := 10) (by decide)) hT h0 (by omega) hpn
      rw [st_10] at q
      have z : (decide (fe isLt T n p - p = 5) && eqB T [108, 97, 110, 100, 115] p) = decide (wd T n p = 465491092595) := by
        rw [Bool.eq_iff_iff, sp_16 hp1 hl, decide_eq_true_iff]
      rw [← z]; exact q
    have n97 : wd T n p ≠ 97 ∧ wd T n p ≠ 98 ∧ wd T n p ≠ 120 ∧ wd T n p ≠ 121 := by
      obtain ⟨b0, b1, b2, b3, b4, b5, b6, ⟨a0, a1, a2, a3, a4, a5, a6⟩, q1, q2, q3, q4, q5, q6, q7⟩ := pk_e T p
      have m1 := hl (p + 1) (by omega) (by omega)
      rw [a1] at m1
      rw [a0] at hb
      unfold wd
      generalize hL : fe isLt T n p - p = L
      by_cases h8 : 7 < L
      · rw [if_pos h8]; decide
      · rw [if_neg h8]
        have pz : ∀ l : Nat, 2 ≤ l → (l : Int) ≤ fe isLt T n p - p → 256 ≤ pk T p l := by
          intro l
          induction l with
          | zero => intro w; omega
          | succ l ih =>
            intro w1 w2
            have hq := hl (p + (l : Int)) (by omega) (by omega)
            rw [pk_n]
            by_cases e : l = 1
            · subst e; rw [q1]; omega
            · have := ih (by omega) (by omega); omega
        have := pz L.toNat (by omega) (by omega)
        omega
    rw [c86 (hg := gC122 hs c), w32_id (by omega) (by omega), if_neg g]
    by_cases g9 : wd T n p = 28530
    · rw [wc_9.mpr g9, r9, decide_eq_true g9, bnd_s, tI_m, bnd_s, if_neg (show ¬ b2i true = 0 by decide)]
    · rw [r9, decide_eq_false g9, bnd_s, tI_m, bnd_s, if_pos (show b2i false = 0 from rfl)]
      by_cases g8 : wd T n p = 6385252
      · rw [wc_8.mpr g8, r8, decide_eq_true g8, bnd_s, tI_m, bnd_s, if_neg (show ¬ b2i true = 0 by decide)]
      · rw [r8, decide_eq_false g8, bnd_s, tI_m, bnd_s, if_pos (show b2i false = 0 from rfl)]
        by_cases g7 : wd T n p = 7237492
        · rw [wc_7.mpr g7, r7, decide_eq_true g7, bnd_s, tI_m, bnd_s, if_neg (show ¬ b2i true = 0 by decide)]
        · rw [r7, decide_eq_false g7, bnd_s, tI_m, bnd_s, if_pos (show b2i false = 0 from rfl)]
          by_cases g10 : wd T n p = 1937203568
          · rw [wc_10.mpr g10, r10, decide_eq_true g10, bnd_s, tI_m, bnd_s, if_neg (show ¬ b2i true = 0 by decide)]
          · rw [r10, decide_eq_false g10, bnd_s, tI_m, bnd_s, if_pos (show b2i false = 0 from rfl)]
            by_cases g11 : wd T n p = 1869505381
            · rw [wc_11.mpr g11, r11, decide_eq_true g11, bnd_s, tI_m, bnd_s, if_neg (show ¬ b2i true = 0 by decide)]
            · rw [r11, decide_eq_false g11, bnd_s, tI_m, bnd_s, if_pos (show b2i false = 0 from rfl)]
              by_cases g12 : wd T n p = 6386539
              · rw [wc_12.mpr g12, r12, decide_eq_true g12, bnd_s, tI_m, bnd_s, if_neg (show ¬ b2i true = 0 by decide)]
              · rw [r12, decide_eq_false g12, bnd_s, tI_m, bnd_s, if_pos (show b2i false = 0 from rfl)]
                by_cases g13 : wd T n p = 457236047717
                · rw [wc_13.mpr g13, r13, decide_eq_true g13, bnd_s, tI_m, bnd_s, if_neg (show ¬ b2i true = 0 by decide)]
                · rw [r13, decide_eq_false g13, bnd_s, tI_m, bnd_s, if_pos (show b2i false = 0 from rfl)]
                  by_cases g14 : wd T n p = 27707084818969203
                  · rw [wc_14.mpr g14, r14, decide_eq_true g14, bnd_s, tI_m, bnd_s, if_neg (show ¬ b2i true = 0 by decide)]
                  · rw [r14, decide_eq_false g14, bnd_s, tI_m, bnd_s, if_pos (show b2i false = 0 from rfl)]
                    by_cases g15 : wd T n p = 482670637683
                    · rw [wc_15.mpr g15, r15, decide_eq_true g15, bnd_s, tI_m, bnd_s, if_neg (show ¬ b2i true = 0 by decide)]
                    · rw [r15, decide_eq_false g15, bnd_s, tI_m, bnd_s, if_pos (show b2i false = 0 from rfl)]
                      by_cases g16 : wd T n p = 465491092595
                      · rw [wc_16.mpr g16, r16, decide_eq_true g16, bnd_s, tI_m, bnd_s, if_neg (show ¬ b2i true = 0 by decide), c86_101]
                      · rw [r16, decide_eq_false g16, bnd_s, tI_m, bnd_s, if_pos (show b2i false = 0 from rfl), c86_101, wc_o n97.1 n97.2.1 n97.2.2.1 n97.2.2.2 g9 g8 g7 g10 g11 g12 g13 g14 g15 g16]
/-- what is fixed in the class's reader -/
def RdC (c : Nat → Nat → Int) : Prop := c 122 1 = 124 ∧ c 122 2 = 125 ∧ c 122 3 = 126 ∧ c 122 4 = 127 ∧ c 127 0 = 128 ∧ c 127 1 = 129 ∧ c 127 2 = 130
theorem k84 (d : Nat) {s : List (Nat × Nat)} {c : Nat → Nat → Int} {T : Int → Int} {n p j : Int} (hs : SpL s) (hx : Xt c) (hT : TpC T n c) (hR : RdC c) (hj : c 122 8 = j) (j0 : 0 ≤ j) (j1 : j ≤ 300) (h0 : 0 ≤ p) (h1 : p < n) (h2 : isLt (T p) = true) : Cd (d + 7) 84 [vA 122, vI p] (s, c) = some ([vI (fe isLt T n p)], (s, u2 c 124 j.toNat (wc (wd T n p)))) := by
  have hn := hT.1
  have lp : ∀ (k : Nat) (v : Int), n ≤ v + k → 0 ≤ v → v ≤ n → Rr (Cd (d + 6)) 84 2 [some (vA 122), some (vI p), some (vI v)] [] (s, c) = Rr (Cd (d + 6)) 84 14 [some (vA 122), some (vI p), some (vI (fe isLt T n v))] [] (s, c) := by
    intro k
    induction k with
    | zero =>
      intro v a1 a2 a3
      rw [c84_2, fC122 hs _ (by decide), bnd_s, hn.2.1, if_neg (by omega), fe_z (by omega)]
    | succ k ih =>
      intro v a1 a2 a3
      by_cases g : v < n
      · rw [c84_2, fC122 hs _ (by decide), bnd_s, hn.2.1, if_pos g, fC122 hs _ (by decide), bnd_s, hn.1, aC123 hs _ (by omega) (by omega), bnd_s, (hT.2 v a2 g).1, cl88, bnd_s, tI_m, bnd_s]
        cases e : isLt (T v) with
        | true => rw [if_neg (show ¬ b2i true = 0 by decide), w32_id (by omega) (by omega), ih (v + 1) (by omega) (by omega) (by omega), fe_s g e]
        | false => rw [if_pos (show b2i false = 0 from rfl), fe_z (by rw [e]; simp)]
      · rw [c84_2, fC122 hs _ (by decide), bnd_s, hn.2.1, if_neg g, fe_z (by omega)]
  rw [c84 (hg := gC122 hs c), lp (n - p).toNat p (by omega) h0 (by omega), c84_14, fC122 hs _ (by decide), bnd_s, hR.1, fC122 hs _ (by decide), bnd_s, hj, k86 d hs hx hT h0 h1 h2, bnd_s, tI_m, bnd_s, qC124 hs _ _ j0 (by omega), bnd_s]
theorem mn_s {x y : Int} (h0 : 0 ≤ x) (h1 : x ≤ 999999) (hy : 48 ≤ y ∧ y ≤ 57) : (if 10000 < mn x * 10 + y - 48 then 10000 else mn x * 10 + y - 48) = mn (if x < 100000 then 10 * x + y - 48 else x) := by
  unfold mn
  by_cases a : 10000 < x
  · rw [if_pos a, if_pos (by omega)]
    by_cases b : x < 100000
    · rw [if_pos b, if_pos (by omega)]
    · rw [if_neg b, if_pos (by omega)]
  · rw [if_neg a, if_pos (show x < 100000 by omega)]
    by_cases b : 10000 < x * 10 + y - 48
    · rw [if_pos b, if_pos (by omega)]
    · rw [if_neg b, if_neg (by omega)]; omega
theorem k85 (d : Nat) {s : List (Nat × Nat)} {c : Nat → Nat → Int} {T : Int → Int} {n p j : Int} (hs : SpL s) (hT : TpC T n c) (hR : RdC c) (hj : c 122 8 = j) (j0 : 0 ≤ j) (j1 : j ≤ 300) (h0 : 0 ≤ p) (h1 : p < n) : Cd (d + 2) 85 [vA 122, vI p] (s, c) = some ([vI (fe isD T n p)], (s, u2 (u2 c 124 j.toNat 3) 126 j.toNat (mn (ne T n p 0)))) := by
  have hn := hT.1
  have lp : ∀ (k : Nat) (v x : Int), n ≤ v + k → 0 ≤ v → v ≤ n → 0 ≤ x → x ≤ 999999 → Rr (Cd (d + 1)) 85 4 [some (vA 122), some (vI p), some (vI v), some (vI (mn x))] [] (s, c) = Rr (Cd (d + 1)) 85 29 [some (vA 122), some (vI p), some (vI (fe isD T n v)), some (vI (mn (ne T n v x)))] [] (s, c) := by
    intro k
    induction k with
    | zero =>
      intro v x a1 a2 a3 x0 x1
      rw [c85_4, fC122 hs _ (by decide), bnd_s, hn.2.1, if_neg (by omega), fe_z (by omega), ne_z (by omega)]
    | succ k ih =>
      intro v x a1 a2 a3 x0 x1
      by_cases g : v < n
      · rw [c85_4, fC122 hs _ (by decide), bnd_s, hn.2.1, if_pos g, fC122 hs _ (by decide), bnd_s, hn.1, aC123 hs _ (by omega) (by omega), bnd_s, (hT.2 v a2 g).1, cl89, bnd_s, tI_m, bnd_s]
        cases e : isD (T v) with
        | true =>
          have hd := isD_t.mp e
          have hm := mn_b x0
          rw [if_neg (show ¬ b2i true = 0 by decide), fC122 hs _ (by decide), bnd_s, hn.1, aC123 hs _ (by omega) (by omega), bnd_s, (hT.2 v a2 g).1, w32_id (z := mn x * 10) (by omega) (by omega), w32_id (z := mn x * 10 + T v) (by omega) (by omega), w32_id (z := mn x * 10 + T v - 48) (by omega) (by omega), j288, bnd_s, tI_m, bnd_s, mn_s x0 x1 hd, w32_id (by omega) (by omega), ih (v + 1) _ (by omega) (by omega) (by omega) (by split <;> omega) (by split <;> omega), fe_s g e, ne_s g e]
        | false => rw [if_pos (show b2i false = 0 from rfl), fe_z (by rw [e]; simp), ne_z (by rw [e]; simp)]
      · rw [c85_4, fC122 hs _ (by decide), bnd_s, hn.2.1, if_neg g, fe_z (by omega), ne_z (by omega)]
  have l0 := lp (n - p).toNat p 0 (by omega) h0 (by omega) (by omega) (by omega)
  rw [show mn 0 = 0 from rfl] at l0
  rw [c85 (hg := gC122 hs c), l0, c85_29]
  repeat (first | rw [bnd_s] | rw [fC122 hs _ (by decide)] | rw [hR.1] | rw [hj] | rw [qC124 hs _ _ j0 (by omega)] | rw [u2_n (by omega)] | rw [hR.2.2.1] | rw [qC126 hs _ _ j0 (by omega)])
theorem k83 (d : Nat) {s : List (Nat × Nat)} {c : Nat → Nat → Int} {T : Int → Int} {n p j : Int} (hs : SpL s) (hx : Xt c) (hT : TpC T n c) (hR : RdC c) (hj : c 122 8 = j) (j0 : 0 ≤ j) (j1 : j ≤ 300) (h0 : 0 ≤ p) (h1 : p < n) : ∃ c', Cd (d + 8) 83 [vA 122, vI p] (s, c) = some ([vI (tke T n p)], (s, c')) ∧ c' 124 j.toNat = tkc T n p ∧ (c 126 j.toNat = 0 → c' 126 j.toNat = tkv T n p) ∧ ∀ o k, ¬ (o = 124 ∧ k = j.toNat) → ¬ (o = 126 ∧ k = j.toNat) → c' o k = c o k := by
  have hn := hT.1
  have ht := (hT.2 p h0 h1).1
  have hb := (hT.2 p h0 h1).2
  cases eL : isLt (T p) with
  | true =>
    refine ⟨u2 c 124 j.toNat (wc (wd T n p)), ?_, ?_, fun z => ?_, fun o k g1 g2 => u2_n g1⟩
    · rw [c83 (hg := gC122 hs c), fC122 hs _ (by decide), bnd_s, hn.1, aC123 hs _ (by omega) (by omega), bnd_s, ht, cl88, bnd_s, tI_m, bnd_s, eL, if_neg (show ¬ b2i true = 0 by decide), k84 d hs hx hT hR hj j0 j1 h0 h1 eL, bnd_s, tI_m, bnd_s]
      unfold tke; rw [if_pos eL]
    · rw [u2_e]; unfold tkc; rw [if_pos eL]
    · rw [u2_n (by omega), z]; unfold tkv; rw [if_pos eL]
  | false =>
    have nL : ¬ isLt (T p) = true := by rw [eL]; decide
    cases eD : isD (T p) with
    | true =>
      refine ⟨u2 (u2 c 124 j.toNat 3) 126 j.toNat (mn (ne T n p 0)), ?_, ?_, fun z => ?_, fun o k g1 g2 => by rw [u2_n g2, u2_n g1]⟩
      · rw [c83 (hg := gC122 hs c), fC122 hs _ (by decide), bnd_s, hn.1, aC123 hs _ (by omega) (by omega), bnd_s, ht, cl88, bnd_s, tI_m, bnd_s, eL, if_pos (show b2i false = 0 from rfl), fC122 hs _ (by decide), bnd_s, hn.1, aC123 hs _ (by omega) (by omega), bnd_s, ht, cl89, bnd_s, tI_m, bnd_s, eD, if_neg (show ¬ b2i true = 0 by decide), k85 (d + 5) hs hT hR hj j0 j1 h0 h1, bnd_s, tI_m, bnd_s]
        unfold tke; rw [if_neg nL, if_pos eD]
      · rw [u2_n (by omega), u2_e]; unfold tkc; rw [if_neg nL, if_pos eD]
      · rw [u2_e]; unfold tkv; rw [if_neg nL, if_pos eD]
    | false =>
      have nD : ¬ isD (T p) = true := by rw [eD]; decide
      obtain ⟨v, e1, e2⟩ := j292 (d + 3) (str_a hs hx (a := 11) (by decide)) (x := T p) hb.1 hb.2
      have e1' : Cd (d + 7) 292 [vA 27, vI (T p)] (s, c) = some ([vI v], (s, c)) := e1
      rw [st_11] at e2
      have hv : v < 0 ↔ ¬ isG (T p) = true := by
        rw [e2, isG_t]
        simp only [List.mem_cons, List.not_mem_nil, or_false]
      have r60 : Rr (Cd (d + 7)) 83 60 [some (vA 122), some (vI p), some (vI (T p))] [] (s, c) = some ([vI (p + 1)], (s, u2 c 124 j.toNat (if isG (T p) = true then T p else 1))) := by
        rw [c83_60, fC122 hs _ (by decide), bnd_s, hR.1, fC122 hs _ (by decide), bnd_s, hj, i2c_i hb.1 hb.2, e1', bnd_s, tI_m, bnd_s]
        by_cases g : v < 0
        · rw [if_pos g, if_neg (hv.mp g), c83_72, qC124 hs _ _ j0 (by omega), bnd_s, w32_id (by omega) (by omega)]
        · rw [if_neg g, if_pos (Classical.byContradiction fun w => g (hv.mpr w)), c83_72, qC124 hs _ _ j0 (by omega), bnd_s, w32_id (by omega) (by omega)]
      have r31 : (T p = 60 ∨ T p = 62) → Rr (Cd (d + 7)) 83 31 [some (vA 122), some (vI p), some (vI (T p))] [] (s, c) = some ([vI (tke T n p)], (s, u2 c 124 j.toNat (tkc T n p))) := fun h => by
        rw [c83_31, fC122 hs _ (by decide), bnd_s, hn.2.1, w32_id (by omega) (by omega)]
        unfold tke tkc
        rw [if_neg nL, if_neg nD, if_neg nL, if_neg nD]
        by_cases g1 : p + 1 < n
        · rw [if_pos g1, fC122 hs _ (by decide), bnd_s, hn.1, aC123 hs _ (by omega) (by omega), bnd_s, (hT.2 (p + 1) (by omega) g1).1]
          by_cases g2 : T (p + 1) = 61
          · rw [if_pos g2, if_pos ⟨h, g1, g2⟩, if_pos ⟨h, g1, g2⟩, fC122 hs _ (by decide), bnd_s, hR.1, fC122 hs _ (by decide), bnd_s, hj]
            by_cases g3 : T p = 60
            · rw [if_pos g3, if_pos g3, c83_55, qC124 hs _ _ j0 (by omega), bnd_s, w32_id (by omega) (by omega)]
            · rw [if_neg g3, if_neg g3, c83_55, qC124 hs _ _ j0 (by omega), bnd_s, w32_id (by omega) (by omega)]
          · have h2 : ¬ ((T p = 60 ∨ T p = 62) ∧ p + 1 < n ∧ T (p + 1) = 61) := fun w => g2 w.2.2
            rw [if_neg g2, r60, if_neg h2, if_neg h2]
        · have h2 : ¬ ((T p = 60 ∨ T p = 62) ∧ p + 1 < n ∧ T (p + 1) = 61) := fun w => g1 w.2.1
          rw [if_neg g1, r60, if_neg h2, if_neg h2]
      refine ⟨u2 c 124 j.toNat (tkc T n p), ?_, u2_e _ _ _ _, fun z => ?_, fun o k g1 g2 => u2_n g1⟩
      · rw [c83 (hg := gC122 hs c), fC122 hs _ (by decide), bnd_s, hn.1, aC123 hs _ (by omega) (by omega), bnd_s, ht, cl88, bnd_s, tI_m, bnd_s, eL, if_pos (show b2i false = 0 from rfl), fC122 hs _ (by decide), bnd_s, hn.1, aC123 hs _ (by omega) (by omega), bnd_s, ht, cl89, bnd_s, tI_m, bnd_s, eD, if_pos (show b2i false = 0 from rfl), fC122 hs _ (by decide), bnd_s, hn.1, aC123 hs _ (by omega) (by omega), bnd_s, ht]
        by_cases g : T p = 60
        · rw [if_pos g, r31 (Or.inl g)]
        · rw [if_neg g]
          by_cases g2 : T p = 62
          · rw [if_pos g2, r31 (Or.inr g2)]
          · rw [if_neg g2, r60]
            unfold tke tkc
            have h2 : ¬ ((T p = 60 ∨ T p = 62) ∧ p + 1 < n ∧ T (p + 1) = 61) := fun w => by omega
            rw [if_neg nL, if_neg nD, if_neg nL, if_neg nD, if_neg h2, if_neg h2]
      · rw [u2_n (by omega), z]; unfold tkv; rw [if_neg nL, if_neg nD]
