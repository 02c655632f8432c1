/-! the reference's tokens -/
def TpM (T : Int → Int) (n : Int) (c : Nat → Nat → Int) : Prop := (c 142 8 = 150 ∧ c 142 9 = n ∧ 0 ≤ n ∧ n ≤ 300) ∧ ∀ i, 0 ≤ i → i < n → c 150 i.toNat = T i ∧ 0 ≤ T i ∧ T i ≤ 255
def byA (T : Int → Int) (n k : Int) : Int := if k < n then T k else -1
/-- what reading a token may change -/
def FTk (c c' : Nat → Nat → Int) : Prop := ∀ o k, ¬ (o = 142 ∧ 12 ≤ k ∧ k ≤ 16) → c' o k = c o k
theorem FTk.rf (c : Nat → Nat → Int) : FTk c c := fun _ _ _ => rfl
theorem FTk.tr {a b c : Nat → Nat → Int} (h : FTk a b) (g : FTk b c) : FTk a c := fun o k h1 => (g o k h1).trans (h o k h1)
theorem FTk.u {a b : Nat → Nat → Int} (h : FTk a b) {k : Nat} (v : Int) (hk : 12 ≤ k ∧ k ≤ 16) : FTk a (u2 b 142 k v) := h.tr fun o k' g => u2_n (by omega)
theorem FTk.tp {T : Int → Int} {n : Int} {c c' : Nat → Nat → Int} (f : FTk c c') (h : TpM T n c) : TpM T n c' := by
  obtain ⟨⟨h1, h2, h3⟩, h4⟩ := h
  refine ⟨⟨?_, ?_, h3⟩, fun i g0 g1 => ?_⟩
  · rw [f 142 8 (by omega)]; exact h1
  · rw [f 142 9 (by omega)]; exact h2
  · rw [f 150 i.toNat (by omega)]; exact h4 i g0 g1
theorem m195 (d : Nat) {s : List (Nat × Nat)} {c : Nat → Nat → Int} {T : Int → Int} {n k : Int} (hs : SpL s) (hT : TpM T n c) (h0 : 0 ≤ k) : Cd (d + 1) 195 [vA 142, vI k] (s, c) = some ([vI (byA T n k)], (s, c)) := by
  have hn := hT.1
  (try rw [c195 (hg := gC142 hs c)]); (try rw [fC142 hs _ (by decide)]); (try rw [bnd_s]); (try rw [hn.2.1])
  unfold byA
  by_cases g : k < n
  · (try rw [if_pos g]); (try rw [if_pos g]); (try rw [fC142 hs _ (by decide)]); (try rw [bnd_s]); (try rw [hn.1]); (try rw [aC150 hs _ h0 (by omega)]); (try rw [bnd_s]); (try rw [(hT.2 k h0 g).1]); (try rw [c195_10])
  · rw [if_neg g, if_neg g, c195_10]
theorem m196 (d : Nat) (x : Int) (hp : HP) : Cd (d + 2) 196 [vI x] hp = some ([vI (b2i (isLt x))], hp) := by
  have a1 : ∀ o0, Rr (Cd (d + 1)) 196 10 [o0] [] hp = some ([vI 1], hp) := fun o0 => by rw [c196_10, c196_13, if_pos (by decide)]
  have a0 : ∀ o0, Rr (Cd (d + 1)) 196 13 [o0] [vI 0] hp = some ([vI 0], hp) := fun o0 => by rw [c196_13, if_pos (by decide)]
  have e : isLt x = decide ((97 ≤ x ∧ x ≤ 122) ∨ (65 ≤ x ∧ x ≤ 90)) := rfl
  (try rw [c196]); (try rw [m172]); (try rw [bnd_s]); (try rw [tI_m]); (try rw [bnd_s])
  by_cases g1 : 97 ≤ x ∧ x ≤ 122
  · rw [show inR x 97 122 = true from decide_eq_true g1, if_neg (show ¬ b2i true = 0 by decide), a1, e, decide_eq_true (Or.inl g1)]; rfl
  · (try rw [show inR x 97 122 = false from decide_eq_false g1]); (try rw [if_pos (show b2i false = 0 from rfl)]); (try rw [m172]); (try rw [bnd_s]); (try rw [tI_m]); (try rw [bnd_s])
    by_cases g2 : 65 ≤ x ∧ x ≤ 90
    · rw [show inR x 65 90 = true from decide_eq_true g2, if_neg (show ¬ b2i true = 0 by decide), a1, e, decide_eq_true (Or.inr g2)]; rfl
    · rw [show inR x 65 90 = false from decide_eq_false g2, if_pos (show b2i false = 0 from rfl), a0, e, decide_eq_false (fun w => w.elim g1 g2)]; rfl
theorem m197 (d : Nat) (x : Int) (hp : HP) : Cd (d + 2) 197 [vI x] hp = some ([vI (b2i (isD x))], hp) := by
  (try rw [c197]); (try rw [m172]); (try rw [bnd_s]); (try rw [tI_m]); (try rw [bnd_s]); (try rw [if_pos (b2i_o _)]); (try rfl)
theorem u2_i (c : Nat → Nat → Int) (o k : Nat) : u2 c o k (c o k) = c := by
  funext o' k'
  unfold u2
  split
  · rename_i h; rw [h.1, h.2]
  · rfl
theorem m198_e (d : Nat) {s : List (Nat × Nat)} {c : Nat → Nat → Int} (hs : SpL s) : Cd (d + 1) 198 [vA 142] (s, c) = Rr (Cd d) 198 0 [some (vA 142), none, none] [] (s, c) := by
  rw [c198 (hg := gC142 hs c), c198_0]
section
variable {s : List (Nat × Nat)} {T : Int → Int} {n : Int}
theorem m198_k (d : Nat) (hs : SpL s) (o1 o2 : Option AV) : ∀ (k : Nat) (q : Int) (c : Nat → Nat → Int), n ≤ q + k → TpM T n c → c 142 12 = q → 0 ≤ q → q ≤ n → ∃ c', Rr (Cd (d + 3)) 198 0 [some (vA 142), o1, o2] [] (s, c) = Rr (Cd (d + 3)) 198 0 [some (vA 142), o1, o2] [] (s, c') ∧ FTk c c' ∧ c' 142 12 = fe isK T n q := by
  intro k
  induction k with
  | zero =>
    intro q c a1 hT hq h0 h1
    exact ⟨c, rfl, FTk.rf c, by rw [fe_z (by omega)]; exact hq⟩
  | succ k ih =>
    intro q c a1 hT hq h0 h1
    by_cases g : q < n ∧ isK (T q) = true
    · have hK := isK_t.mp g.2
      have f1 : FTk c (u2 c 142 12 (q + 1)) := (FTk.rf c).u _ (by omega)
      obtain ⟨c', r, f2, p⟩ := ih (q + 1) (u2 c 142 12 (q + 1)) (by omega) (f1.tp hT) (u2_e _ _ _ _) (by omega) (by omega)
      have hn := hT.1
      have hb : byA T n q = T q := if_pos g.1
      refine ⟨c', ?_, f1.tr f2, by rw [fe_s g.1 g.2]; exact p⟩
      rw [← r]
      have e12 : Rr (Cd (d + 3)) 198 12 [some (vA 142), o1, o2] [] (s, c) = Rr (Cd (d + 3)) 198 0 [some (vA 142), o1, o2] [] (s, u2 c 142 12 (q + 1)) := by
        (try rw [c198_12]); (try rw [fC142 hs _ (by decide)]); (try rw [bnd_s]); (try rw [hq]); (try rw [pC142 hs _ _ (by decide)]); (try rw [bnd_s]); (try rw [w32_id (by omega) (by omega)])
      (try rw [c198_0]); (try rw [fC142 hs _ (by decide)]); (try rw [bnd_s]); (try rw [hq]); (try rw [m195 _ hs hT h0]); (try rw [bnd_s]); (try rw [tI_m]); (try rw [bnd_s]); (try rw [hb])
      by_cases g32 : T q = 32
      · rw [if_pos g32, e12]
      · (try rw [if_neg g32]); (try rw [fC142 hs _ (by decide)]); (try rw [bnd_s]); (try rw [hq]); (try rw [m195 _ hs hT h0]); (try rw [bnd_s]); (try rw [tI_m]); (try rw [bnd_s]); (try rw [hb]); (try rw [if_pos (show T q = 10 by omega)]); (try rw [e12])
    · exact ⟨c, rfl, FTk.rf c, by rw [fe_z g]; exact hq⟩
theorem m198_d (d : Nat) (hs : SpL s) (o1 o2 : Option AV) : ∀ (k : Nat) (q a : Int) (c : Nat → Nat → Int), n ≤ q + k → TpM T n c → c 142 12 = q → c 142 15 = a → 0 ≤ q → q ≤ n → 0 ≤ a → a ≤ 999999 → ∃ c', Rr (Cd (d + 3)) 198 43 [some (vA 142), o1, o2] [] (s, c) = some ([], (s, c')) ∧ c' 142 12 = fe isD T n q ∧ c' 142 15 = ne T n q a ∧ ∀ o k, ¬ (o = 142 ∧ (k = 12 ∨ k = 15)) → c' o k = c o k := by
  intro k
  have fin : ∀ (q a : Int) (c : Nat → Nat → Int), TpM T n c → c 142 12 = q → c 142 15 = a → 0 ≤ q → ¬ (q < n ∧ isD (T q) = true) → ∃ c', Rr (Cd (d + 3)) 198 43 [some (vA 142), o1, o2] [] (s, c) = some ([], (s, c')) ∧ c' 142 12 = fe isD T n q ∧ c' 142 15 = ne T n q a ∧ ∀ o k, ¬ (o = 142 ∧ (k = 12 ∨ k = 15)) → c' o k = c o k := by
    intro q a c hT hq ha h0 g
    refine ⟨c, ?_, by rw [fe_z g]; exact hq, by rw [ne_z g]; exact ha, fun o k _ => rfl⟩
    have hb : isD (byA T n q) = false := by
      unfold byA
      by_cases w : q < n
      · rw [if_pos w]
        cases e : isD (T q) with
        | false => rfl
        | true => exact absurd ⟨w, e⟩ g
      · rw [if_neg w]; rfl
    (try rw [c198_43]); (try rw [fC142 hs _ (by decide)]); (try rw [bnd_s]); (try rw [hq]); (try rw [m195 _ hs hT h0]); (try rw [bnd_s]); (try rw [tI_m]); (try rw [bnd_s]); (try rw [m197]); (try rw [bnd_s]); (try rw [tI_m]); (try rw [bnd_s]); (try rw [hb]); (try rw [if_pos (show b2i false = 0 from rfl)]); (try rw [c198_198])
  induction k with
  | zero =>
    intro q a c a1 hT hq ha h0 h1 x0 x1
    exact fin q a c hT hq ha h0 (by omega)
  | succ k ih =>
    intro q a c a1 hT hq ha h0 h1 x0 x1
    by_cases g : q < n ∧ isD (T q) = true
    · have hn := hT.1
      have hd := isD_t.mp g.2
      have hb : byA T n q = T q := if_pos g.1
      have f1 : FTk c (u2 (u2 c 142 15 (if a < 100000 then 10 * a + T q - 48 else a)) 142 12 (q + 1)) := ((FTk.rf c).u _ (by omega)).u _ (by omega)
      obtain ⟨c', r, p1, p2, p3⟩ := ih (q + 1) (if a < 100000 then 10 * a + T q - 48 else a) (u2 (u2 c 142 15 (if a < 100000 then 10 * a + T q - 48 else a)) 142 12 (q + 1)) (by omega) (f1.tp hT) (u2_e _ _ _ _) (by rw [u2_n (by omega), u2_e]) (by omega) (by omega) (by split <;> omega) (by split <;> omega)
      refine ⟨c', ?_, by rw [fe_s g.1 g.2]; exact p1, by rw [ne_s g.1 g.2]; exact p2, fun o k h => by rw [p3 o k h, u2_n (by omega), u2_n (by omega)]⟩
      (try rw [c198_43]); (try rw [fC142 hs _ (by decide)]); (try rw [bnd_s]); (try rw [hq]); (try rw [m195 _ hs hT h0]); (try rw [bnd_s]); (try rw [tI_m]); (try rw [bnd_s]); (try rw [m197]); (try rw [bnd_s]); (try rw [tI_m]); (try rw [bnd_s]); (try rw [hb]); (try rw [g.2]); (try rw [if_neg (show ¬ b2i true = 0 by decide)]); (try rw [fC142 hs _ (by decide)]); (try rw [bnd_s]); (try rw [ha])
      by_cases ga : a < 100000
      · rw [if_pos ga] at r
        (try rw [if_pos ga]); (try rw [fC142 hs _ (by decide)]); (try rw [bnd_s]); (try rw [ha]); (try rw [fC142 hs _ (by decide)]); (try rw [bnd_s]); (try rw [hq]); (try rw [m195 _ hs hT h0]); (try rw [bnd_s]); (try rw [tI_m]); (try rw [bnd_s]); (try rw [hb]); (try rw [w32_id (z := 10 * a) (by omega) (by omega)]); (try rw [w32_id (z := 10 * a + T q) (by omega) (by omega)]); (try rw [w32_id (z := 10 * a + T q - 48) (by omega) (by omega)]); (try rw [pC142 hs _ _ (by decide)]); (try rw [bnd_s]); (try rw [c198_66]); (try rw [fC142 hs _ (by decide)]); (try rw [bnd_s]); (try rw [u2_n (by omega)]); (try rw [hq]); (try rw [pC142 hs _ _ (by decide)]); (try rw [bnd_s]); (try rw [w32_id (by omega) (by omega)]); (try rw [r])
      · rw [if_neg ga] at r
        have ei : u2 c 142 15 a = c := by rw [← ha]; exact u2_i c 142 15
        rw [ei] at r
        (try rw [if_neg ga]); (try rw [c198_66]); (try rw [fC142 hs _ (by decide)]); (try rw [bnd_s]); (try rw [hq]); (try rw [pC142 hs _ _ (by decide)]); (try rw [bnd_s]); (try rw [w32_id (by omega) (by omega)]); (try rw [r])
    · exact fin q a c hT hq ha h0 g
theorem pk_b {p : Int} : ∀ l : Nat, (∀ j : Nat, j < l → 0 ≤ T (p + (j : Int)) ∧ T (p + (j : Int)) ≤ 255) → 0 ≤ pk T p l ∧ pk T p l < 256 ^ l
  | 0, _ => ⟨Int.le_refl _, by show (0 : Int) < 1; decide⟩
  | l + 1, h => by
    have a := pk_b l (fun j hj => h j (by omega))
    have b := h l (by omega)
    rw [pk_n, Int.pow_succ]
    generalize (256 : Int) ^ l = M at *
    omega
theorem lw8 {w b : Int} (h0 : 0 ≤ w) (h1 : w < 281474976710656) (b0 : 0 ≤ b) (b1 : b ≤ 255) : llor (llshl w 8) b = w * 256 + b := by
  have hw : w.toNat < 281474976710656 := by omega
  have hw2 : w.toNat * 2 ^ (8 : Int).toNat < 9223372036854775808 := by
    show w.toNat * 256 < 9223372036854775808
    omega
  have e : llshl w 8 = ((w.toNat * 2 ^ 8 : Nat) : Int) := llshl_n h0 (by omega) (by omega) (by omega) hw2
  rw [e, llor_n (by omega) (by omega) b0 (by omega), Int.toNat_natCast, Nat.mul_comm, ← Nat.two_pow_add_eq_or_of_lt (show b.toNat < 2 ^ 8 by omega)]
  omega
theorem pk_6 {p : Int} {l : Nat} (hl : l ≤ 6) (h : ∀ j : Nat, j < l → 0 ≤ T (p + (j : Int)) ∧ T (p + (j : Int)) ≤ 255) : 0 ≤ pk T p l ∧ pk T p l < 281474976710656 := by
  have a := pk_b l h
  have : l = 0 ∨ l = 1 ∨ l = 2 ∨ l = 3 ∨ l = 4 ∨ l = 5 ∨ l = 6 := by omega
  refine ⟨a.1, Int.lt_of_lt_of_le a.2 ?_⟩
  rcases this with e | e | e | e | e | e | e <;> subst e <;> decide
theorem m198_w (d : Nat) (hs : SpL s) (o1 o2 : Option AV) {p : Int} (hp : 0 ≤ p) : ∀ (k l : Nat) (c : Nat → Nat → Int), n ≤ p + (l : Int) + k → TpM T n c → c 142 12 = p + (l : Int) → c 142 13 = p → c 142 16 = pk T p (if l ≤ 7 then l else 7) → p + (l : Int) ≤ n → ∃ c', Rr (Cd (d + 3)) 198 82 [some (vA 142), o1, o2] [] (s, c) = some ([], (s, c')) ∧ c' 142 12 = fe isLt T n (p + (l : Int)) ∧ c' 142 16 = (if 7 < fe isLt T n (p + (l : Int)) - p then 0 else pk T p (fe isLt T n (p + (l : Int)) - p).toNat) ∧ ∀ o k, ¬ (o = 142 ∧ (k = 12 ∨ k = 16)) → c' o k = c o k := by
  intro k
  have fin : ∀ (l : Nat) (c : Nat → Nat → Int), TpM T n c → c 142 12 = p + (l : Int) → c 142 13 = p → c 142 16 = pk T p (if l ≤ 7 then l else 7) → p + (l : Int) ≤ n → ¬ (p + (l : Int) < n ∧ isLt (T (p + (l : Int))) = true) → ∃ c', Rr (Cd (d + 3)) 198 82 [some (vA 142), o1, o2] [] (s, c) = some ([], (s, c')) ∧ c' 142 12 = fe isLt T n (p + (l : Int)) ∧ c' 142 16 = (if 7 < fe isLt T n (p + (l : Int)) - p then 0 else pk T p (fe isLt T n (p + (l : Int)) - p).toNat) ∧ ∀ o k, ¬ (o = 142 ∧ (k = 12 ∨ k = 16)) → c' o k = c o k := by
    intro l c hT hq h13 h16 hle g
    have hn := hT.1
    have hb : isLt (byA T n (p + (l : Int))) = false := by
      unfold byA
      by_cases w : p + (l : Int) < n
      · rw [if_pos w]
        cases e : isLt (T (p + (l : Int))) with
        | false => rfl
        | true => exact absurd ⟨w, e⟩ g
      · rw [if_neg w]; rfl
    rw [fe_z g, show p + (l : Int) - p = (l : Int) by omega, Int.toNat_natCast]
    by_cases g7 : 7 < (l : Int)
    · refine ⟨u2 c 142 16 0, ?_, by rw [u2_n (by omega)]; exact hq, by rw [if_pos g7, u2_e], fun o k h => u2_n (by omega)⟩
      (try rw [c198_82]); (try rw [fC142 hs _ (by decide)]); (try rw [bnd_s]); (try rw [hq]); (try rw [m195 _ hs hT (by omega)]); (try rw [bnd_s]); (try rw [tI_m]); (try rw [bnd_s]); (try rw [m196]); (try rw [bnd_s]); (try rw [tI_m]); (try rw [bnd_s]); (try rw [hb]); (try rw [if_pos (show b2i false = 0 from rfl)]); (try rw [fC142 hs _ (by decide)]); (try rw [bnd_s]); (try rw [hq]); (try rw [fC142 hs _ (by decide)]); (try rw [bnd_s]); (try rw [h13]); (try rw [w32_id (by omega) (by omega)]); (try rw [if_pos (by omega)]); (try rw [pC142 hs _ _ (by decide)]); (try rw [bnd_s]); (try rw [c198_198])
    · refine ⟨c, ?_, hq, by rw [if_neg g7, h16, if_pos (by omega)], fun o k h => rfl⟩
      (try rw [c198_82]); (try rw [fC142 hs _ (by decide)]); (try rw [bnd_s]); (try rw [hq]); (try rw [m195 _ hs hT (by omega)]); (try rw [bnd_s]); (try rw [tI_m]); (try rw [bnd_s]); (try rw [m196]); (try rw [bnd_s]); (try rw [tI_m]); (try rw [bnd_s]); (try rw [hb]); (try rw [if_pos (show b2i false = 0 from rfl)]); (try rw [fC142 hs _ (by decide)]); (try rw [bnd_s]); (try rw [hq]); (try rw [fC142 hs _ (by decide)]); (try rw [bnd_s]); (try rw [h13]); (try rw [w32_id (by omega) (by omega)]); (try rw [if_neg (by omega)]); (try rw [c198_198])
  induction k with
  | zero =>
    intro l c a1 hT hq h13 h16 hle
    exact fin l c hT hq h13 h16 hle (by omega)
  | succ k ih =>
    intro l c a1 hT hq h13 h16 hle
    by_cases g : p + (l : Int) < n ∧ isLt (T (p + (l : Int))) = true
    · have hn := hT.1
      have hd := (hT.2 (p + (l : Int)) (by omega) g.1).2
      have hb : byA T n (p + (l : Int)) = T (p + (l : Int)) := if_pos g.1
      have f1 : FTk c (u2 (u2 c 142 16 (pk T p (if l + 1 ≤ 7 then l + 1 else 7))) 142 12 (p + ((l + 1 : Nat) : Int))) := ((FTk.rf c).u _ (by omega)).u _ (by omega)
      obtain ⟨c', r, p1, p2, p3⟩ := ih (l + 1) (u2 (u2 c 142 16 (pk T p (if l + 1 ≤ 7 then l + 1 else 7))) 142 12 (p + ((l + 1 : Nat) : Int))) (by omega) (f1.tp hT) (u2_e _ _ _ _) (by rw [u2_n (by omega), u2_n (by omega)]; exact h13) (by rw [u2_n (by omega), u2_e]) (by omega)
      have ef : fe isLt T n (p + (l : Int)) = fe isLt T n (p + ((l + 1 : Nat) : Int)) := by rw [fe_s g.1 g.2, show p + (l : Int) + 1 = p + ((l + 1 : Nat) : Int) by omega]
      rw [ef]
      refine ⟨c', ?_, p1, p2, fun o k h => by rw [p3 o k h, u2_n (by omega), u2_n (by omega)]⟩
      have ew : w32 (p + (l : Int) + 1) = p + ((l + 1 : Nat) : Int) := by rw [w32_id (by omega) (by omega)]; omega
      (try rw [c198_82]); (try rw [fC142 hs _ (by decide)]); (try rw [bnd_s]); (try rw [hq]); (try rw [m195 _ hs hT (by omega)]); (try rw [bnd_s]); (try rw [tI_m]); (try rw [bnd_s]); (try rw [m196]); (try rw [bnd_s]); (try rw [tI_m]); (try rw [bnd_s]); (try rw [hb]); (try rw [g.2]); (try rw [if_neg (show ¬ b2i true = 0 by decide)]); (try rw [fC142 hs _ (by decide)]); (try rw [bnd_s]); (try rw [hq]); (try rw [fC142 hs _ (by decide)]); (try rw [bnd_s]); (try rw [h13]); (try rw [w32_id (by omega) (by omega)])
      by_cases g7 : p + (l : Int) - p < 7
      · have hl6 : l ≤ 6 := by omega
        have hpk := pk_6 (T := T) (p := p) hl6 (fun j hj => (hT.2 (p + (j : Int)) (by omega) (by omega)).2)
        rw [if_pos (show l ≤ 7 by omega)] at h16
        rw [if_pos (show l + 1 ≤ 7 by omega), pk_n] at r
        (try rw [if_pos g7]); (try rw [fC142 hs _ (by decide)]); (try rw [bnd_s]); (try rw [h16]); (try rw [fC142 hs _ (by decide)]); (try rw [bnd_s]); (try rw [hq]); (try rw [m195 _ hs hT (by omega)]); (try rw [bnd_s]); (try rw [tI_m]); (try rw [bnd_s]); (try rw [hb]); (try rw [lw8 hpk.1 hpk.2 hd.1 hd.2]); (try rw [pC142 hs _ _ (by decide)]); (try rw [bnd_s]); (try rw [c198_107]); (try rw [fC142 hs _ (by decide)]); (try rw [bnd_s]); (try rw [u2_n (by omega)]); (try rw [hq]); (try rw [pC142 hs _ _ (by decide)]); (try rw [bnd_s]); (try rw [ew]); (try rw [r])
      · have e7 : (if l ≤ 7 then l else 7) = 7 := by split <;> omega
        rw [e7] at h16
        have ei : u2 c 142 16 (pk T p (if l + 1 ≤ 7 then l + 1 else 7)) = c := by
          rw [if_neg (by omega), ← h16]; exact u2_i c 142 16
        rw [ei] at r
        (try rw [if_neg g7]); (try rw [c198_107]); (try rw [fC142 hs _ (by decide)]); (try rw [bnd_s]); (try rw [hq]); (try rw [pC142 hs _ _ (by decide)]); (try rw [bnd_s]); (try rw [ew]); (try rw [r])
    · exact fin l c hT hq h13 h16 hle g
/-- the reference stands at a token that began at p -/
def MTp (T : Int → Int) (n p : Int) (c : Nat → Nat → Int) : Prop := c 142 13 = p ∧ c 142 12 = (if p < n then tke T n p else n) ∧ TkR (if p < n then tkc T n p else 0) (if p < n then tkv T n p else 0) (c 142 14) (c 142 15) (c 142 16)
theorem m198_p (d : Nat) (hs : SpL s) {c : Nat → Nat → Int} (hT : TpM T n c) {p : Int} (hq : c 142 12 = p) (h0 : 0 ≤ p) (h1 : p ≤ n) (hk : ¬ (p < n ∧ isK (T p) = true)) : ∃ c', Rr (Cd (d + 3)) 198 0 [some (vA 142), none, none] [] (s, c) = some ([], (s, c')) ∧ FTk c c' ∧ MTp T n p c' := by
  have hn := hT.1
  have f1 : FTk c (u2 c 142 13 p) := (FTk.rf c).u _ (by omega)
  have h12 : u2 c 142 13 p 142 12 = p := by rw [u2_n (by omega)]; exact hq
  by_cases g : p < n
  · have hb : byA T n p = T p := if_pos g
    have hv := (hT.2 p h0 g).2
    have nK : ¬ (T p = 32 ∨ T p = 10) := fun w => hk ⟨g, isK_t.mpr w⟩
    have start : ∀ R, (if b2i (isD (T p)) = 0 then ((Cd (d + 3) 196 [vI (T p)] (s, u2 c 142 13 p)).bind toI).bind fun q10 => (if q10.1 = 0 then (gF q10.2 12 12 142).bind fun x11 => (pF q10.2 12 12 142 (w32 (x11 + 1))).bind fun h12 => (if T p = 60 then Rr (Cd (d + 3)) 198 161 [some (vA 142), some (vI (T p)), none] [] h12 else if T p = 62 then Rr (Cd (d + 3)) 198 161 [some (vA 142), some (vI (T p)), none] [] h12 else if T p = 61 then Rr (Cd (d + 3)) 198 161 [some (vA 142), some (vI (T p)), none] [] h12 else if T p = 35 then Rr (Cd (d + 3)) 198 161 [some (vA 142), some (vI (T p)), none] [] h12 else if T p = 43 then Rr (Cd (d + 3)) 198 161 [some (vA 142), some (vI (T p)), none] [] h12 else if T p = 45 then Rr (Cd (d + 3)) 198 161 [some (vA 142), some (vI (T p)), none] [] h12 else if T p = 42 then Rr (Cd (d + 3)) 198 161 [some (vA 142), some (vI (T p)), none] [] h12 else if T p = 40 then Rr (Cd (d + 3)) 198 161 [some (vA 142), some (vI (T p)), none] [] h12 else if T p = 41 then Rr (Cd (d + 3)) 198 161 [some (vA 142), some (vI (T p)), none] [] h12 else if T p = 59 then Rr (Cd (d + 3)) 198 161 [some (vA 142), some (vI (T p)), none] [] h12 else Rr (Cd (d + 3)) 198 164 [some (vA 142), some (vI (T p)), none] [vI 0] h12) else (pF q10.2 12 14 142 2).bind fun h13 => (pF h13 12 16 142 0).bind fun h14 => Rr (Cd (d + 3)) 198 82 [some (vA 142), some (vI (T p)), none] [] h14) else (pF (s, u2 c 142 13 p) 12 14 142 1).bind fun h15 => (pF h15 12 15 142 0).bind fun h16 => Rr (Cd (d + 3)) 198 43 [some (vA 142), some (vI (T p)), none] [] h16) = R → Rr (Cd (d + 3)) 198 0 [some (vA 142), none, none] [] (s, c) = R := fun R hR => by
      (try rw [c198_0]); (try rw [fC142 hs _ (by decide)]); (try rw [bnd_s]); (try rw [hq]); (try rw [m195 _ hs hT h0]); (try rw [bnd_s]); (try rw [tI_m]); (try rw [bnd_s]); (try rw [hb]); (try rw [if_neg (show ¬ T p = 32 by omega)]); (try rw [fC142 hs _ (by decide)]); (try rw [bnd_s]); (try rw [hq]); (try rw [m195 _ hs hT h0]); (try rw [bnd_s]); (try rw [tI_m]); (try rw [bnd_s]); (try rw [hb]); (try rw [if_neg (show ¬ T p = 10 by omega)]); (try rw [fC142 hs _ (by decide)]); (try rw [bnd_s]); (try rw [hq]); (try rw [pC142 hs _ _ (by decide)]); (try rw [bnd_s]); (try rw [fC142 hs _ (by decide)]); (try rw [bnd_s]); (try rw [h12]); (try rw [m195 _ hs (f1.tp hT) h0]); (try rw [bnd_s]); (try rw [tI_m]); (try rw [bnd_s]); (try rw [hb]); (try rw [if_neg (show ¬ T p < 0 by omega)]); (try rw [m197]); (try rw [bnd_s]); (try rw [tI_m]); (try rw [bnd_s])
      exact hR
    cases eD : isD (T p) with
    | true =>
      have hd := isD_t.mp eD
      have nL : ¬ isLt (T p) = true := fun w => by have := isLt_t.mp w; omega
      have f2 : FTk c (u2 (u2 (u2 c 142 13 p) 142 14 1) 142 15 0) := ((f1).u _ (by omega)).u _ (by omega)
      obtain ⟨c', r, p1, p2, p3⟩ := m198_d d hs (some (vI (T p))) none (n - p).toNat p 0 (u2 (u2 (u2 c 142 13 p) 142 14 1) 142 15 0) (by omega) (f2.tp hT) (by rw [u2_n (by omega), u2_n (by omega)]; exact h12) (u2_e _ _ _ _) h0 h1 (by omega) (by omega)
      refine ⟨c', start _ ?_, f2.tr (fun o k h => p3 o k (by omega)), ?_, ?_, ?_⟩
      · (try rw [eD]); (try rw [if_neg (show ¬ b2i true = 0 by decide)]); (try rw [pC142 hs _ _ (by decide)]); (try rw [bnd_s]); (try rw [pC142 hs _ _ (by decide)]); (try rw [bnd_s]); (try rw [r])
      · rw [p3 142 13 (by omega), u2_n (by omega), u2_n (by omega), u2_e]
      · rw [p1, if_pos g]; unfold tke; rw [if_neg nL, if_pos eD]
      · rw [if_pos g, if_pos g, p2, p3 142 14 (by omega), u2_n (by omega), u2_e]
        have hb := ne_b T n p (a := 0) (by omega) (by omega)
        refine Or.inr (Or.inl ⟨?_, rfl, ?_, hb.1, hb.2⟩)
        · unfold tkc; rw [if_neg nL, if_pos eD]
        · unfold tkv; rw [if_neg nL, if_pos eD]
    | false =>
      have nD : ¬ isD (T p) = true := by rw [eD]; decide
      cases eL : isLt (T p) with
      | true =>
        have f2 : FTk c (u2 (u2 (u2 c 142 13 p) 142 14 2) 142 16 0) := ((f1).u _ (by omega)).u _ (by omega)
        have h12' : u2 (u2 (u2 c 142 13 p) 142 14 2) 142 16 0 142 12 = p + ((0 : Nat) : Int) := by rw [u2_n (by omega), u2_n (by omega), h12]; omega
        obtain ⟨c', r, p1, p2, p3⟩ := m198_w d hs (some (vI (T p))) none h0 (n - p).toNat 0 (u2 (u2 (u2 c 142 13 p) 142 14 2) 142 16 0) (by omega) (f2.tp hT) h12' (by rw [u2_n (by omega), u2_n (by omega), u2_e]) (by rw [u2_e]; rfl) (by omega)
        rw [show p + ((0 : Nat) : Int) = p by omega] at p1 p2
        refine ⟨c', start _ ?_, f2.tr (fun o k h => p3 o k (by omega)), ?_, ?_, ?_⟩
        · (try rw [eD]); (try rw [if_pos (show b2i false = 0 from rfl)]); (try rw [m196]); (try rw [bnd_s]); (try rw [tI_m]); (try rw [bnd_s]); (try rw [eL]); (try rw [if_neg (show ¬ b2i true = 0 by decide)]); (try rw [pC142 hs _ _ (by decide)]); (try rw [bnd_s]); (try rw [pC142 hs _ _ (by decide)]); (try rw [bnd_s]); (try rw [r])
        · rw [p3 142 13 (by omega), u2_n (by omega), u2_n (by omega), u2_e]
        · rw [p1, if_pos g]; unfold tke; rw [if_pos eL]
        · rw [if_pos g, if_pos g, p2, p3 142 14 (by omega), u2_n (by omega), u2_e]
          refine Or.inr (Or.inr (Or.inl ⟨rfl, ?_⟩))
          unfold tkc; rw [if_pos eL]; rfl
      | false =>
        have nL : ¬ isLt (T p) = true := by rw [eL]; decide
        have f2 : FTk c (u2 (u2 c 142 13 p) 142 12 (p + 1)) := f1.u _ (by omega)
        have tT := f2.tp hT
        have sg : ∀ b v : Int, (b = 0 ∧ v = 3 ∨ b = 1 ∧ v = T p) → (b = 0 → ¬ (T p = 60 ∨ T p = 62)) → ∃ c', Rr (Cd (d + 3)) 198 164 [some (vA 142), some (vI (T p)), none] [vI b] (s, u2 (u2 c 142 13 p) 142 12 (p + 1)) = some ([], (s, c')) ∧ FTk c c' ∧ c' 142 13 = p ∧ c' 142 12 = tke T n p ∧ c' 142 14 = (if (T p = 60 ∨ T p = 62) ∧ p + 1 < n ∧ T (p + 1) = 61 then (if T p = 60 then 4 else 5) else v) := by
          intro b v hbv hb6
          have e71 : Rr (Cd (d + 3)) 198 164 [some (vA 142), some (vI (T p)), none] [vI b] (s, u2 (u2 c 142 13 p) 142 12 (p + 1)) = Rr (Cd (d + 3)) 198 171 [some (vA 142), some (vI (T p)), some (vI b)] [vI v, vA 142] (s, u2 (u2 c 142 13 p) 142 12 (p + 1)) := by
            rw [c198_164]
            rcases hbv with ⟨e1, e2⟩ | ⟨e1, e2⟩
            · rw [if_pos e1, e2]
            · rw [if_neg (by omega), e2]
          have f3 : FTk c (u2 (u2 (u2 c 142 13 p) 142 12 (p + 1)) 142 14 v) := f2.u _ (by omega)
          have h13 : u2 (u2 (u2 c 142 13 p) 142 12 (p + 1)) 142 14 v 142 13 = p := by rw [u2_n (by omega), u2_n (by omega), u2_e]
          have h12 : u2 (u2 (u2 c 142 13 p) 142 12 (p + 1)) 142 14 v 142 12 = p + 1 := by rw [u2_n (by omega), u2_e]
          unfold tke
          rw [if_neg nL, if_neg nD]
          by_cases h6 : T p = 60 ∨ T p = 62
          · have e78 : Rr (Cd (d + 3)) 198 171 [some (vA 142), some (vI (T p)), some (vI b)] [vI v, vA 142] (s, u2 (u2 c 142 13 p) 142 12 (p + 1)) = Rr (Cd (d + 3)) 198 178 [some (vA 142), some (vI (T p)), some (vI b)] [] (s, u2 (u2 (u2 c 142 13 p) 142 12 (p + 1)) 142 14 v) := by
              rw [c198_171, pC142 hs _ _ (by decide), bnd_s]
              rcases h6 with h6 | h6
              · rw [if_pos h6]
              · rw [if_neg (by omega), if_pos h6]
            by_cases g1 : p + 1 < n ∧ T (p + 1) = 61
            · have hb1 : byA T n (p + 1) = 61 := by unfold byA; rw [if_pos g1.1]; exact g1.2
              rw [if_pos ⟨h6, g1⟩, if_pos ⟨h6, g1⟩]
              refine ⟨u2 (u2 (u2 (u2 (u2 c 142 13 p) 142 12 (p + 1)) 142 14 v) 142 12 (p + 2)) 142 14 (if T p = 60 then 4 else 5), ?_, (f3.u _ (by omega)).u _ (by omega), by rw [u2_n (by omega), u2_n (by omega)]; exact h13, by rw [u2_n (by omega), u2_e], u2_e _ _ _ _⟩
              (try rw [e71]); (try rw [e78]); (try rw [c198_178]); (try rw [fC142 hs _ (by decide)]); (try rw [bnd_s]); (try rw [h12]); (try rw [m195 _ hs (f3.tp hT) (by omega)]); (try rw [bnd_s]); (try rw [tI_m]); (try rw [bnd_s]); (try rw [hb1]); (try rw [if_pos (show (61 : Int) = 61 from rfl)]); (try rw [fC142 hs _ (by decide)]); (try rw [bnd_s]); (try rw [h12]); (try rw [pC142 hs _ _ (by decide)]); (try rw [bnd_s]); (try rw [show w32 (p + 1 + 1) = p + 2 by rw [w32_id (by omega) (by omega)]; omega])
              by_cases h60 : T p = 60
              · (try rw [if_pos h60]); (try rw [if_pos h60]); (try rw [c198_197]); (try rw [pC142 hs _ _ (by decide)]); (try rw [bnd_s]); (try rw [c198_198])
              · (try rw [if_neg h60]); (try rw [if_neg h60]); (try rw [c198_197]); (try rw [pC142 hs _ _ (by decide)]); (try rw [bnd_s]); (try rw [c198_198])
            · have hb1 : byA T n (p + 1) ≠ 61 := by
                unfold byA
                by_cases w : p + 1 < n
                · rw [if_pos w]; exact fun w2 => g1 ⟨w, w2⟩
                · rw [if_neg w]; decide
              rw [if_neg (fun w => g1 w.2), if_neg (fun w => g1 w.2)]
              refine ⟨_, ?_, f3, h13, h12, u2_e _ _ _ _⟩
              (try rw [e71]); (try rw [e78]); (try rw [c198_178]); (try rw [fC142 hs _ (by decide)]); (try rw [bnd_s]); (try rw [h12]); (try rw [m195 _ hs (f3.tp hT) (by omega)]); (try rw [bnd_s]); (try rw [tI_m]); (try rw [bnd_s]); (try rw [if_neg hb1]); (try rw [c198_198])
          · rw [if_neg (fun w => h6 w.1), if_neg (fun w => h6 w.1)]
            refine ⟨_, ?_, f3, h13, h12, u2_e _ _ _ _⟩
            (try rw [e71]); (try rw [c198_171]); (try rw [pC142 hs _ _ (by decide)]); (try rw [bnd_s]); (try rw [if_neg (by omega)]); (try rw [if_neg (by omega)]); (try rw [c198_198])
        have mid : ∀ b v : Int, (b = 0 ∧ v = 3 ∨ b = 1 ∧ v = T p) → (b = 1 ↔ isG (T p) = true) → (b = 0 ∨ b = 1) → ∃ c', Rr (Cd (d + 3)) 198 164 [some (vA 142), some (vI (T p)), none] [vI b] (s, u2 (u2 c 142 13 p) 142 12 (p + 1)) = some ([], (s, c')) ∧ FTk c c' ∧ MTp T n p c' := by
          intro b v hbv hG hb
          have iG := @isG_t (T p)
          obtain ⟨c', r, q1, q2, q3, q4⟩ := sg b v hbv (fun w x => by have := hG.mpr (iG.mpr (by omega)); omega)
          refine ⟨c', r, q1, q2, by rw [if_pos g]; exact q3, ?_⟩
          rw [if_pos g, if_pos g, q4]
          unfold tkc
          rw [if_neg nL, if_neg nD]
          by_cases h2 : (T p = 60 ∨ T p = 62) ∧ p + 1 < n ∧ T (p + 1) = 61
          · rw [if_pos h2, if_pos h2]
            refine Or.inr (Or.inr (Or.inr (Or.inr ⟨rfl, ?_⟩)))
            by_cases h60 : T p = 60
            · rw [if_pos h60]; omega
            · rw [if_neg h60]; omega
          · rw [if_neg h2, if_neg h2]
            by_cases hg : isG (T p) = true
            · rw [if_pos hg]
              have := iG.mp hg
              have ev : v = T p := by have := hG.mpr hg; omega
              rw [ev]
              exact Or.inr (Or.inr (Or.inr (Or.inr ⟨rfl, by omega⟩)))
            · rw [if_neg hg]
              have ev : v = 3 := by
                have : b ≠ 1 := fun w => hg (hG.mp w)
                omega
              rw [ev]
              exact Or.inr (Or.inr (Or.inr (Or.inl ⟨rfl, rfl⟩)))
        have iG := @isG_t (T p)
        by_cases hg : isG (T p) = true
        · obtain ⟨c', r, q1, q2⟩ := mid 1 (T p) (Or.inr ⟨rfl, rfl⟩) ⟨fun _ => hg, fun _ => rfl⟩ (Or.inr rfl)
          refine ⟨c', start _ ?_, q1, q2⟩
          (try rw [eD]); (try rw [if_pos (show b2i false = 0 from rfl)]); (try rw [m196]); (try rw [bnd_s]); (try rw [tI_m]); (try rw [bnd_s]); (try rw [eL]); (try rw [if_pos (show b2i false = 0 from rfl)]); (try rw [fC142 hs _ (by decide)]); (try rw [bnd_s]); (try rw [h12]); (try rw [pC142 hs _ _ (by decide)]); (try rw [bnd_s]); (try rw [w32_id (by omega) (by omega)]); (try rw [c198_161]); (try rw [r])
          have := iG.mp hg
          clear iG hg
          repeat (split; · rfl)
          exfalso; omega
        · obtain ⟨c', r, q1, q2⟩ := mid 0 3 (Or.inl ⟨rfl, rfl⟩) ⟨fun w => absurd w (by decide), fun w => absurd w hg⟩ (Or.inl rfl)
          refine ⟨c', start _ ?_, q1, q2⟩
          have ng : ¬ (T p = 60 ∨ T p = 62 ∨ T p = 61 ∨ T p = 35 ∨ T p = 43 ∨ T p = 45 ∨ T p = 42 ∨ T p = 40 ∨ T p = 41 ∨ T p = 59) := fun w => hg (iG.mpr w)
          (try rw [eD]); (try rw [if_pos (show b2i false = 0 from rfl)]); (try rw [m196]); (try rw [bnd_s]); (try rw [tI_m]); (try rw [bnd_s]); (try rw [eL]); (try rw [if_pos (show b2i false = 0 from rfl)]); (try rw [fC142 hs _ (by decide)]); (try rw [bnd_s]); (try rw [h12]); (try rw [pC142 hs _ _ (by decide)]); (try rw [bnd_s]); (try rw [w32_id (by omega) (by omega)]); (try rw [if_neg (by omega)]); (try rw [if_neg (by omega)]); (try rw [if_neg (by omega)]); (try rw [if_neg (by omega)]); (try rw [if_neg (by omega)]); (try rw [if_neg (by omega)]); (try rw [if_neg (by omega)]); (try rw [if_neg (by omega)]); (try rw [if_neg (by omega)]); (try rw [if_neg (by omega)]); (try rw [r])
  · have hb : byA T n p = -1 := if_neg g
    have e : p = n := by omega
    refine ⟨u2 (u2 c 142 13 p) 142 14 0, ?_, f1.u _ (by omega), by rw [u2_n (by omega), u2_e], by rw [u2_n (by omega), if_neg g]; omega, ?_⟩
    · (try rw [c198_0]); (try rw [fC142 hs _ (by decide)]); (try rw [bnd_s]); (try rw [hq]); (try rw [m195 _ hs hT h0]); (try rw [bnd_s]); (try rw [tI_m]); (try rw [bnd_s]); (try rw [hb]); (try rw [if_neg (show ¬ (-1 : Int) = 32 by decide)]); (try rw [fC142 hs _ (by decide)]); (try rw [bnd_s]); (try rw [hq]); (try rw [m195 _ hs hT h0]); (try rw [bnd_s]); (try rw [tI_m]); (try rw [bnd_s]); (try rw [hb]); (try rw [if_neg (show ¬ (-1 : Int) = 10 by decide)]); (try rw [fC142 hs _ (by decide)]); (try rw [bnd_s]); (try rw [hq]); (try rw [pC142 hs _ _ (by decide)]); (try rw [bnd_s]); (try rw [fC142 hs _ (by decide)]); (try rw [bnd_s]); (try rw [h12]); (try rw [m195 _ hs (f1.tp hT) h0]); (try rw [bnd_s]); (try rw [tI_m]); (try rw [bnd_s]); (try rw [hb]); (try rw [if_pos (show (-1 : Int) < 0 by decide)]); (try rw [pC142 hs _ _ (by decide)]); (try rw [bnd_s]); (try rw [c198_198])
    · rw [if_neg g, if_neg g, u2_e]
      exact Or.inl ⟨rfl, rfl⟩
theorem m198 (d : Nat) (hs : SpL s) {c : Nat → Nat → Int} (hT : TpM T n c) {q : Int} (hq : c 142 12 = q) (h0 : 0 ≤ q) (h1 : q ≤ n) : ∃ c', Cd (d + 4) 198 [vA 142] (s, c) = some ([], (s, c')) ∧ FTk c c' ∧ MTp T n (fe isK T n q) c' := by
  obtain ⟨c1, r1, f1, p1⟩ := m198_k d hs none none (n - q).toNat q c (by omega) hT hq h0 h1
  have b := fe_b (g := isK) (T := T) h1
  obtain ⟨c2, r2, f2, p2⟩ := m198_p d hs (f1.tp hT) p1 (by omega) b.2 fe_n
  exact ⟨c2, by rw [m198_e _ hs, r1, r2], f1.tr f2, p2⟩
/-- the reference stands at token i -/
def MT (T : Int → Int) (n i : Int) (c : Nat → Nat → Int) : Prop := MTp T n (sts T n i.toNat) c
theorem m198n (d : Nat) (hs : SpL s) {c : Nat → Nat → Int} (hT : TpM T n c) {i : Int} (h0 : 0 ≤ i) (h : MT T n i c) (hn : tkA T n i ≠ 0) : ∃ c', Cd (d + 4) 198 [vA 142] (s, c) = some ([], (s, c')) ∧ FTk c c' ∧ MT T n (i + 1) c' := by
  have hl := tkA_l hn
  have tb := tke_b (T := T) hl
  have sb := sts_b (T := T) hT.1.2.2.1 i.toNat
  have h2 := h.2.1
  rw [if_pos hl] at h2
  obtain ⟨c', r, f, p⟩ := m198 d hs hT h2 (by omega) tb.2
  refine ⟨c', r, f, ?_⟩
  unfold MT
  rw [show (i + 1).toNat = i.toNat + 1 by omega, sts_s hl]
  exact p
theorem MT_tr {i : Int} {c : Nat → Nat → Int} (h : MT T n i c) : TkR (tkA T n i) (nvA T n i) (c 142 14) (c 142 15) (c 142 16) := h.2.2
end
theorem w_not (d : Nat) (hp : HP) : Cd (d + 1) 199 [vI 110, vI 111, vI 116] hp = some ([vL 7237492], hp) := by
  rw [c199, show llor (llshl (llor (llshl 110 8) 111) 8) 116 = 7237492 by decide +kernel]
theorem w_and (d : Nat) (hp : HP) : Cd (d + 1) 199 [vI 97, vI 110, vI 100] hp = some ([vL 6385252], hp) := by
  rw [c199, show llor (llshl (llor (llshl 97 8) 110) 8) 100 = 6385252 by decide +kernel]
theorem w_ask (d : Nat) (hp : HP) : Cd (d + 1) 199 [vI 97, vI 115, vI 107] hp = some ([vL 6386539], hp) := by
  rw [c199, show llor (llshl (llor (llshl 97 8) 115) 8) 107 = 6386539 by decide +kernel]
theorem w_swap (d : Nat) (hp : HP) : Cd (d + 2) 201 [vI 115, vI 119, vI 97, vI 112] hp = some ([vL 1937203568], hp) := by
  (try rw [c201]); (try rw [c199]); (try rw [bnd_s]); (try rw [tL_m]); (try rw [bnd_s]); (try rw [show llor (llshl (llor (llshl (llor (llshl 115 8) 119) 8) 97) 8) 112 = 1937203568 by decide +kernel])
theorem w_once (d : Nat) (hp : HP) : Cd (d + 2) 201 [vI 111, vI 110, vI 99, vI 101] hp = some ([vL 1869505381], hp) := by
  (try rw [c201]); (try rw [c199]); (try rw [bnd_s]); (try rw [tL_m]); (try rw [bnd_s]); (try rw [show llor (llshl (llor (llshl (llor (llshl 111 8) 110) 8) 99) 8) 101 = 1869505381 by decide +kernel])
theorem w_judge (d : Nat) (hp : HP) : Cd (d + 2) 200 [vI 106, vI 117, vI 100, vI 103, vI 101] hp = some ([vL 457236047717], hp) := by
  (try rw [c200]); (try rw [c199]); (try rw [bnd_s]); (try rw [tL_m]); (try rw [bnd_s]); (try rw [show llor (llshl (llor (llshl (llor (llshl (llor (llshl 106 8) 117) 8) 100) 8) 103) 8) 101 = 457236047717 by decide +kernel])
theorem w_pairs (d : Nat) (hp : HP) : Cd (d + 2) 200 [vI 112, vI 97, vI 105, vI 114, vI 115] hp = some ([vL 482670637683], hp) := by
  (try rw [c200]); (try rw [c199]); (try rw [bnd_s]); (try rw [tL_m]); (try rw [bnd_s]); (try rw [show llor (llshl (llor (llshl (llor (llshl (llor (llshl 112 8) 97) 8) 105) 8) 114) 8) 115 = 482670637683 by decide +kernel])
theorem w_lands (d : Nat) (hp : HP) : Cd (d + 2) 200 [vI 108, vI 97, vI 110, vI 100, vI 115] hp = some ([vL 465491092595], hp) := by
  (try rw [c200]); (try rw [c199]); (try rw [bnd_s]); (try rw [tL_m]); (try rw [bnd_s]); (try rw [show llor (llshl (llor (llshl (llor (llshl (llor (llshl 108 8) 97) 8) 110) 8) 100) 8) 115 = 465491092595 by decide +kernel])
theorem w_borde (d : Nat) (hp : HP) : Cd (d + 2) 200 [vI 98, vI 111, vI 114, vI 100, vI 101] hp = some ([vL 422776562789], hp) := by
  (try rw [c200]); (try rw [c199]); (try rw [bnd_s]); (try rw [tL_m]); (try rw [bnd_s]); (try rw [show llor (llshl (llor (llshl (llor (llshl (llor (llshl 98 8) 111) 8) 114) 8) 100) 8) 101 = 422776562789 by decide +kernel])
theorem w_bordx : llor (llor (llshl 422776562789 16) 29184) 115 = 27707084818969203 := by decide +kernel
theorem m202 (d : Nat) {s : List (Nat × Nat)} {c : Nat → Nat → Int} (hs : SpL s) (v : Int) : Cd (d + 1) 202 [vA 142, vL v] (s, c) = some ([vI (b2i (decide (c 142 14 = 2 ∧ c 142 16 = v)))], (s, c)) := by
  rw [c202 (hg := gC142 hs c), fC142 hs _ (by decide), bnd_s]
  have a0 : ∀ o1 o2 : Option AV, Rr (Cd d) 202 11 [some (vA 142), o1, o2] [] (s, c) = some ([vI 0], (s, c)) := fun o1 o2 => by rw [c202_11, c202_12, if_pos (by decide)]
  by_cases g : c 142 14 = 2
  · rw [if_pos g, fC142 hs _ (by decide), bnd_s]
    by_cases g2 : c 142 16 = v
    · rw [if_pos ((lcmp_eq _ _).mpr g2), c202_12, if_pos (by decide), decide_eq_true ⟨g, g2⟩]; rfl
    · rw [if_neg (fun w => g2 ((lcmp_eq _ _).mp w)), a0, decide_eq_false (fun w => g2 w.2)]; rfl
  · rw [if_neg g, a0, decide_eq_false (fun w => g w.1)]; rfl
theorem m202w (d : Nat) {s : List (Nat × Nat)} {c : Nat → Nat → Int} {T : Int → Int} {n i : Int} (hs : SpL s) (h : MT T n i c) {x y : Int} (hx : (7 ≤ x ∧ x ≤ 16) ∨ x = 97 ∨ x = 98 ∨ x = 120 ∨ x = 121) (hy : ∀ w, wc w = x ↔ w = y) : Cd (d + 1) 202 [vA 142, vL y] (s, c) = some ([vI (b2i (decide (tkA T n i = x)))], (s, c)) := by
  rw [m202 d hs]
  congr 5
  exact decide_eq_decide.mpr (TkR_w (MT_tr h) hx (hy _))
