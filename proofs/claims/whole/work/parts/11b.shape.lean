/-! the shape of the heap behind the two constructors; how its cells are read and written -/
def stShp : List (Nat × Nat) := [(10, 8), (103, 4), (104, 8), (9, 2), (100, 20), (100, 140), (0, 3), (3, 5), (7, 3), (100, 9), (1, 10), (100, 15), (100, 15), (100, 7), (100, 7), (1, 10), (100, 15), (100, 15), (100, 7), (100, 7), (1, 10), (100, 15), (100, 15), (100, 7), (100, 7), (1, 10), (100, 15), (100, 15), (100, 7), (100, 7), (8, 4), (100, 49), (8, 4), (100, 49), (8, 4), (100, 49), (8, 4), (100, 49), (8, 4), (100, 49), (8, 4), (100, 49), (8, 4), (100, 49), (8, 4), (100, 49)]
def tlShp : List (Nat × Nat) := (11, 7) :: stShp ++ (stShp ++ [(6, 14), (100, 300), (100, 301), (100, 301), (100, 301), (2, 8), (100, 300), (100, 300), (101, 300), (4, 17), (100, 21), (100, 21), (100, 21), (100, 81), (100, 189), (100, 49), (5, 2), (100, 120), (5, 2), (100, 120), (12, 44), (100, 340), (100, 340), (100, 6400), (100, 18), (100, 8), (100, 2187), (100, 7), (100, 300), (100, 160), (100, 4), (101, 330), (102, 330), (100, 200), (100, 200), (100, 81), (100, 81)])
def SpL (s : List (Nat × Nat)) : Prop := ∃ (L : Nat) (E : List (Nat × Nat)), L ≤ 3072 ∧ s = xSh L ++ (tlShp ++ E)
theorem sp_at {s : List (Nat × Nat)} (h : SpL s) {k : Nat} {q : Nat × Nat} (hq : tlShp[k]? = some q) : s[29 + k]? = some q := by
  obtain ⟨L, E, -, rfl⟩ := h
  have hk : k < tlShp.length := (List.getElem?_eq_some_iff.mp hq).1
  rw [List.getElem?_append_right (by rw [xSh_len]; omega), xSh_len, show 29 + k - 29 = k by omega, List.getElem?_append_left hk]
  exact hq
theorem sp_x {s : List (Nat × Nat)} (h : SpL s) {k : Nat} {q : Nat × Nat} (hk : k < 27) (hq : xR[k]? = some q) : s[2 + k]? = some q := by
  obtain ⟨L, E, -, rfl⟩ := h
  rw [List.getElem?_append_left (by rw [xSh_len]; omega), xSh_eq, show 2 + k = k + 1 + 1 by omega, List.getElem?_cons_succ, List.getElem?_cons_succ]
  exact hq
theorem gS_p (s : List (Nat × Nat)) (c : Nat → Nat → Int) (o : Nat) : gS (s, c) (o : Int) = s[o]? := by
  unfold gS
  rw [if_neg (by omega), Int.toNat_natCast]
theorem gF_g {s : List (Nat × Nat)} {t n k o : Nat} (h : s[o]? = some (t, n)) (c : Nat → Nat → Int) (hk : k < n) : gF (s, c) t k (o : Int) = some (c o k) := by
  unfold gF
  rw [gS_p, h]
  rw [bnd_s, Int.toNat_natCast]
  rw [if_pos ⟨rfl, hk⟩]
theorem pF_g {s : List (Nat × Nat)} {t n k o : Nat} (h : s[o]? = some (t, n)) (c : Nat → Nat → Int) (v : Int) (hk : k < n) : pF (s, c) t k (o : Int) v = some (s, u2 c o k v) := by
  unfold pF
  rw [gS_p, h]
  rw [bnd_s, Int.toNat_natCast]
  rw [if_pos ⟨rfl, hk⟩]
theorem gA_g {s : List (Nat × Nat)} {a n o : Nat} {i : Int} (h : s[o]? = some (100 + a, n)) (c : Nat → Nat → Int) (h0 : 0 ≤ i) (h1 : i < (n : Int)) : gA (s, c) a (o : Int) i = some (c o i.toNat) := by
  unfold gA
  rw [gS_p, h]
  rw [bnd_s, Int.toNat_natCast]
  rw [if_pos ⟨Or.inl rfl, h0, h1⟩]
theorem gA_x {s : List (Nat × Nat)} {a n o : Nat} {i : Int} (h : s[o]? = some (110 + a, n)) (c : Nat → Nat → Int) (h0 : 0 ≤ i) (h1 : i < (n : Int)) : gA (s, c) a (o : Int) i = some (c o i.toNat) := by
  unfold gA
  rw [gS_p, h]
  rw [bnd_s, Int.toNat_natCast]
  rw [if_pos ⟨Or.inr rfl, h0, h1⟩]
theorem pA_g {s : List (Nat × Nat)} {a n o : Nat} {i : Int} (h : s[o]? = some (100 + a, n)) (c : Nat → Nat → Int) (v : Int) (h0 : 0 ≤ i) (h1 : i < (n : Int)) : pA (s, c) a (o : Int) i v = some (s, u2 c o i.toNat v) := by
  unfold pA
  rw [gS_p, h]
  rw [bnd_s, Int.toNat_natCast]
  rw [if_pos ⟨rfl, h0, h1⟩]
theorem gR_g {s : List (Nat × Nat)} {t n o : Nat} {i : Int} (h : s[o]? = some (t, n)) (ht : t = 103 ∨ t = 104) (c : Nat → Nat → Int) (h0 : 0 ≤ i) (h1 : i < (n : Int)) : gR (s, c) (o : Int) i = some (c o i.toNat) := by
  unfold gR
  rw [gS_p, h]
  rw [bnd_s, Int.toNat_natCast]
  rw [if_pos ⟨ht, h0, h1⟩]
theorem gL_g {s : List (Nat × Nat)} {t n o : Nat} (h : s[o]? = some (t, n)) (ht : 100 ≤ t) (c : Nat → Nat → Int) : gL (s, c) (o : Int) = some (n : Int) := by
  unfold gL
  rw [gS_p, h]
  rw [bnd_s]
  rw [if_pos ht]
theorem acp_g {s : List (Nat × Nat)} {n m o q : Nat} {sp dp k : Int} (h : s[o]? = some (100, n)) (h' : s[q]? = some (100, m)) (c : Nat → Nat → Int) (h0 : 0 ≤ sp) (h1 : 0 ≤ dp) (h2 : 0 ≤ k) (h3 : sp + k ≤ (n : Int)) (h4 : dp + k ≤ (m : Int)) : acp (s, c) (o : Int) sp (q : Int) dp k = some (s, cpy c o sp.toNat q dp.toNat k.toNat) := by
  unfold acp
  rw [gS_p, gS_p, h, h', bnd_s, bnd_s]
  rw [if_pos ⟨rfl, rfl, h0, h1, h2, h3, h4⟩, Int.toNat_natCast, Int.toNat_natCast]
theorem sC29 {s : List (Nat × Nat)} (h : SpL s) : s[29]? = some (11, 7) := sp_at h (k := 0) rfl
theorem gC29 {s : List (Nat × Nat)} (h : SpL s) (c : Nat → Nat → Int) : gS (s, c) 29 = some (11, 7) := (gS_p s c 29).trans (sC29 h)
theorem fC29 {s : List (Nat × Nat)} (h : SpL s) (c : Nat → Nat → Int) {k : Nat} (hk : k < 7) : gF (s, c) 11 k 29 = some (c 29 k) := gF_g (sC29 h) c hk
theorem pC29 {s : List (Nat × Nat)} (h : SpL s) (c : Nat → Nat → Int) {k : Nat} (v : Int) (hk : k < 7) : pF (s, c) 11 k 29 v = some (s, u2 c 29 k v) := pF_g (sC29 h) c v hk
theorem sC30 {s : List (Nat × Nat)} (h : SpL s) : s[30]? = some (10, 8) := sp_at h (k := 1) rfl
theorem gC30 {s : List (Nat × Nat)} (h : SpL s) (c : Nat → Nat → Int) : gS (s, c) 30 = some (10, 8) := (gS_p s c 30).trans (sC30 h)
theorem fC30 {s : List (Nat × Nat)} (h : SpL s) (c : Nat → Nat → Int) {k : Nat} (hk : k < 8) : gF (s, c) 10 k 30 = some (c 30 k) := gF_g (sC30 h) c hk
theorem pC30 {s : List (Nat × Nat)} (h : SpL s) (c : Nat → Nat → Int) {k : Nat} (v : Int) (hk : k < 8) : pF (s, c) 10 k 30 v = some (s, u2 c 30 k v) := pF_g (sC30 h) c v hk
theorem sC31 {s : List (Nat × Nat)} (h : SpL s) : s[31]? = some (103, 4) := sp_at h (k := 2) rfl
theorem rC31 {s : List (Nat × Nat)} (h : SpL s) (c : Nat → Nat → Int) {i : Int} (h0 : 0 ≤ i) (h1 : i < 4) : gR (s, c) 31 i = some (c 31 i.toNat) := gR_g (sC31 h) (by decide) c h0 h1
theorem lC31 {s : List (Nat × Nat)} (h : SpL s) (c : Nat → Nat → Int) : gL (s, c) 31 = some 4 := gL_g (sC31 h) (by decide) c
theorem sC32 {s : List (Nat × Nat)} (h : SpL s) : s[32]? = some (104, 8) := sp_at h (k := 3) rfl
theorem rC32 {s : List (Nat × Nat)} (h : SpL s) (c : Nat → Nat → Int) {i : Int} (h0 : 0 ≤ i) (h1 : i < 8) : gR (s, c) 32 i = some (c 32 i.toNat) := gR_g (sC32 h) (by decide) c h0 h1
theorem lC32 {s : List (Nat × Nat)} (h : SpL s) (c : Nat → Nat → Int) : gL (s, c) 32 = some 8 := gL_g (sC32 h) (by decide) c
theorem sC33 {s : List (Nat × Nat)} (h : SpL s) : s[33]? = some (9, 2) := sp_at h (k := 4) rfl
theorem gC33 {s : List (Nat × Nat)} (h : SpL s) (c : Nat → Nat → Int) : gS (s, c) 33 = some (9, 2) := (gS_p s c 33).trans (sC33 h)
theorem fC33 {s : List (Nat × Nat)} (h : SpL s) (c : Nat → Nat → Int) {k : Nat} (hk : k < 2) : gF (s, c) 9 k 33 = some (c 33 k) := gF_g (sC33 h) c hk
theorem pC33 {s : List (Nat × Nat)} (h : SpL s) (c : Nat → Nat → Int) {k : Nat} (v : Int) (hk : k < 2) : pF (s, c) 9 k 33 v = some (s, u2 c 33 k v) := pF_g (sC33 h) c v hk
theorem sC34 {s : List (Nat × Nat)} (h : SpL s) : s[34]? = some (100, 20) := sp_at h (k := 5) rfl
theorem aC34 {s : List (Nat × Nat)} (h : SpL s) (c : Nat → Nat → Int) {i : Int} (h0 : 0 ≤ i) (h1 : i < 20) : gA (s, c) 0 34 i = some (c 34 i.toNat) := gA_g (sC34 h) c h0 h1
theorem qC34 {s : List (Nat × Nat)} (h : SpL s) (c : Nat → Nat → Int) {i : Int} (v : Int) (h0 : 0 ≤ i) (h1 : i < 20) : pA (s, c) 0 34 i v = some (s, u2 c 34 i.toNat v) := pA_g (sC34 h) c v h0 h1
theorem lC34 {s : List (Nat × Nat)} (h : SpL s) (c : Nat → Nat → Int) : gL (s, c) 34 = some 20 := gL_g (sC34 h) (by decide) c
theorem sC35 {s : List (Nat × Nat)} (h : SpL s) : s[35]? = some (100, 140) := sp_at h (k := 6) rfl
theorem aC35 {s : List (Nat × Nat)} (h : SpL s) (c : Nat → Nat → Int) {i : Int} (h0 : 0 ≤ i) (h1 : i < 140) : gA (s, c) 0 35 i = some (c 35 i.toNat) := gA_g (sC35 h) c h0 h1
theorem qC35 {s : List (Nat × Nat)} (h : SpL s) (c : Nat → Nat → Int) {i : Int} (v : Int) (h0 : 0 ≤ i) (h1 : i < 140) : pA (s, c) 0 35 i v = some (s, u2 c 35 i.toNat v) := pA_g (sC35 h) c v h0 h1
theorem lC35 {s : List (Nat × Nat)} (h : SpL s) (c : Nat → Nat → Int) : gL (s, c) 35 = some 140 := gL_g (sC35 h) (by decide) c
theorem sC36 {s : List (Nat × Nat)} (h : SpL s) : s[36]? = some (0, 3) := sp_at h (k := 7) rfl
theorem gC36 {s : List (Nat × Nat)} (h : SpL s) (c : Nat → Nat → Int) : gS (s, c) 36 = some (0, 3) := (gS_p s c 36).trans (sC36 h)
theorem fC36 {s : List (Nat × Nat)} (h : SpL s) (c : Nat → Nat → Int) {k : Nat} (hk : k < 3) : gF (s, c) 0 k 36 = some (c 36 k) := gF_g (sC36 h) c hk
theorem pC36 {s : List (Nat × Nat)} (h : SpL s) (c : Nat → Nat → Int) {k : Nat} (v : Int) (hk : k < 3) : pF (s, c) 0 k 36 v = some (s, u2 c 36 k v) := pF_g (sC36 h) c v hk
theorem sC37 {s : List (Nat × Nat)} (h : SpL s) : s[37]? = some (3, 5) := sp_at h (k := 8) rfl
theorem gC37 {s : List (Nat × Nat)} (h : SpL s) (c : Nat → Nat → Int) : gS (s, c) 37 = some (3, 5) := (gS_p s c 37).trans (sC37 h)
theorem fC37 {s : List (Nat × Nat)} (h : SpL s) (c : Nat → Nat → Int) {k : Nat} (hk : k < 5) : gF (s, c) 3 k 37 = some (c 37 k) := gF_g (sC37 h) c hk
theorem pC37 {s : List (Nat × Nat)} (h : SpL s) (c : Nat → Nat → Int) {k : Nat} (v : Int) (hk : k < 5) : pF (s, c) 3 k 37 v = some (s, u2 c 37 k v) := pF_g (sC37 h) c v hk
theorem sC38 {s : List (Nat × Nat)} (h : SpL s) : s[38]? = some (7, 3) := sp_at h (k := 9) rfl
theorem gC38 {s : List (Nat × Nat)} (h : SpL s) (c : Nat → Nat → Int) : gS (s, c) 38 = some (7, 3) := (gS_p s c 38).trans (sC38 h)
theorem fC38 {s : List (Nat × Nat)} (h : SpL s) (c : Nat → Nat → Int) {k : Nat} (hk : k < 3) : gF (s, c) 7 k 38 = some (c 38 k) := gF_g (sC38 h) c hk
theorem pC38 {s : List (Nat × Nat)} (h : SpL s) (c : Nat → Nat → Int) {k : Nat} (v : Int) (hk : k < 3) : pF (s, c) 7 k 38 v = some (s, u2 c 38 k v) := pF_g (sC38 h) c v hk
theorem sC39 {s : List (Nat × Nat)} (h : SpL s) : s[39]? = some (100, 9) := sp_at h (k := 10) rfl
theorem aC39 {s : List (Nat × Nat)} (h : SpL s) (c : Nat → Nat → Int) {i : Int} (h0 : 0 ≤ i) (h1 : i < 9) : gA (s, c) 0 39 i = some (c 39 i.toNat) := gA_g (sC39 h) c h0 h1
theorem qC39 {s : List (Nat × Nat)} (h : SpL s) (c : Nat → Nat → Int) {i : Int} (v : Int) (h0 : 0 ≤ i) (h1 : i < 9) : pA (s, c) 0 39 i v = some (s, u2 c 39 i.toNat v) := pA_g (sC39 h) c v h0 h1
theorem lC39 {s : List (Nat × Nat)} (h : SpL s) (c : Nat → Nat → Int) : gL (s, c) 39 = some 9 := gL_g (sC39 h) (by decide) c
theorem sC40 {s : List (Nat × Nat)} (h : SpL s) : s[40]? = some (1, 10) := sp_at h (k := 11) rfl
theorem gC40 {s : List (Nat × Nat)} (h : SpL s) (c : Nat → Nat → Int) : gS (s, c) 40 = some (1, 10) := (gS_p s c 40).trans (sC40 h)
theorem fC40 {s : List (Nat × Nat)} (h : SpL s) (c : Nat → Nat → Int) {k : Nat} (hk : k < 10) : gF (s, c) 1 k 40 = some (c 40 k) := gF_g (sC40 h) c hk
theorem pC40 {s : List (Nat × Nat)} (h : SpL s) (c : Nat → Nat → Int) {k : Nat} (v : Int) (hk : k < 10) : pF (s, c) 1 k 40 v = some (s, u2 c 40 k v) := pF_g (sC40 h) c v hk
theorem sC41 {s : List (Nat × Nat)} (h : SpL s) : s[41]? = some (100, 15) := sp_at h (k := 12) rfl
theorem aC41 {s : List (Nat × Nat)} (h : SpL s) (c : Nat → Nat → Int) {i : Int} (h0 : 0 ≤ i) (h1 : i < 15) : gA (s, c) 0 41 i = some (c 41 i.toNat) := gA_g (sC41 h) c h0 h1
theorem qC41 {s : List (Nat × Nat)} (h : SpL s) (c : Nat → Nat → Int) {i : Int} (v : Int) (h0 : 0 ≤ i) (h1 : i < 15) : pA (s, c) 0 41 i v = some (s, u2 c 41 i.toNat v) := pA_g (sC41 h) c v h0 h1
theorem lC41 {s : List (Nat × Nat)} (h : SpL s) (c : Nat → Nat → Int) : gL (s, c) 41 = some 15 := gL_g (sC41 h) (by decide) c
theorem sC42 {s : List (Nat × Nat)} (h : SpL s) : s[42]? = some (100, 15) := sp_at h (k := 13) rfl
theorem aC42 {s : List (Nat × Nat)} (h : SpL s) (c : Nat → Nat → Int) {i : Int} (h0 : 0 ≤ i) (h1 : i < 15) : gA (s, c) 0 42 i = some (c 42 i.toNat) := gA_g (sC42 h) c h0 h1
theorem qC42 {s : List (Nat × Nat)} (h : SpL s) (c : Nat → Nat → Int) {i : Int} (v : Int) (h0 : 0 ≤ i) (h1 : i < 15) : pA (s, c) 0 42 i v = some (s, u2 c 42 i.toNat v) := pA_g (sC42 h) c v h0 h1
theorem lC42 {s : List (Nat × Nat)} (h : SpL s) (c : Nat → Nat → Int) : gL (s, c) 42 = some 15 := gL_g (sC42 h) (by decide) c
theorem sC43 {s : List (Nat × Nat)} (h : SpL s) : s[43]? = some (100, 7) := sp_at h (k := 14) rfl
theorem aC43 {s : List (Nat × Nat)} (h : SpL s) (c : Nat → Nat → Int) {i : Int} (h0 : 0 ≤ i) (h1 : i < 7) : gA (s, c) 0 43 i = some (c 43 i.toNat) := gA_g (sC43 h) c h0 h1
theorem qC43 {s : List (Nat × Nat)} (h : SpL s) (c : Nat → Nat → Int) {i : Int} (v : Int) (h0 : 0 ≤ i) (h1 : i < 7) : pA (s, c) 0 43 i v = some (s, u2 c 43 i.toNat v) := pA_g (sC43 h) c v h0 h1
theorem lC43 {s : List (Nat × Nat)} (h : SpL s) (c : Nat → Nat → Int) : gL (s, c) 43 = some 7 := gL_g (sC43 h) (by decide) c
theorem sC44 {s : List (Nat × Nat)} (h : SpL s) : s[44]? = some (100, 7) := sp_at h (k := 15) rfl
theorem aC44 {s : List (Nat × Nat)} (h : SpL s) (c : Nat → Nat → Int) {i : Int} (h0 : 0 ≤ i) (h1 : i < 7) : gA (s, c) 0 44 i = some (c 44 i.toNat) := gA_g (sC44 h) c h0 h1
theorem qC44 {s : List (Nat × Nat)} (h : SpL s) (c : Nat → Nat → Int) {i : Int} (v : Int) (h0 : 0 ≤ i) (h1 : i < 7) : pA (s, c) 0 44 i v = some (s, u2 c 44 i.toNat v) := pA_g (sC44 h) c v h0 h1
theorem lC44 {s : List (Nat × Nat)} (h : SpL s) (c : Nat → Nat → Int) : gL (s, c) 44 = some 7 := gL_g (sC44 h) (by decide) c
theorem sC45 {s : List (Nat × Nat)} (h : SpL s) : s[45]? = some (1, 10) := sp_at h (k := 16) rfl
theorem gC45 {s : List (Nat × Nat)} (h : SpL s) (c : Nat → Nat → Int) : gS (s, c) 45 = some (1, 10) := (gS_p s c 45).trans (sC45 h)
theorem fC45 {s : List (Nat × Nat)} (h : SpL s) (c : Nat → Nat → Int) {k : Nat} (hk : k < 10) : gF (s, c) 1 k 45 = some (c 45 k) := gF_g (sC45 h) c hk
theorem pC45 {s : List (Nat × Nat)} (h : SpL s) (c : Nat → Nat → Int) {k : Nat} (v : Int) (hk : k < 10) : pF (s, c) 1 k 45 v = some (s, u2 c 45 k v) := pF_g (sC45 h) c v hk
theorem sC46 {s : List (Nat × Nat)} (h : SpL s) : s[46]? = some (100, 15) := sp_at h (k := 17) rfl
theorem aC46 {s : List (Nat × Nat)} (h : SpL s) (c : Nat → Nat → Int) {i : Int} (h0 : 0 ≤ i) (h1 : i < 15) : gA (s, c) 0 46 i = some (c 46 i.toNat) := gA_g (sC46 h) c h0 h1
theorem qC46 {s : List (Nat × Nat)} (h : SpL s) (c : Nat → Nat → Int) {i : Int} (v : Int) (h0 : 0 ≤ i) (h1 : i < 15) : pA (s, c) 0 46 i v = some (s, u2 c 46 i.toNat v) := pA_g (sC46 h) c v h0 h1
theorem lC46 {s : List (Nat × Nat)} (h : SpL s) (c : Nat → Nat → Int) : gL (s, c) 46 = some 15 := gL_g (sC46 h) (by decide) c
theorem sC47 {s : List (Nat × Nat)} (h : SpL s) : s[47]? = some (100, 15) := sp_at h (k := 18) rfl
theorem aC47 {s : List (Nat × Nat)} (h : SpL s) (c : Nat → Nat → Int) {i : Int} (h0 : 0 ≤ i) (h1 : i < 15) : gA (s, c) 0 47 i = some (c 47 i.toNat) := gA_g (sC47 h) c h0 h1
theorem qC47 {s : List (Nat × Nat)} (h : SpL s) (c : Nat → Nat → Int) {i : Int} (v : Int) (h0 : 0 ≤ i) (h1 : i < 15) : pA (s, c) 0 47 i v = some (s, u2 c 47 i.toNat v) := pA_g (sC47 h) c v h0 h1
theorem lC47 {s : List (Nat × Nat)} (h : SpL s) (c : Nat → Nat → Int) : gL (s, c) 47 = some 15 := gL_g (sC47 h) (by decide) c
theorem sC48 {s : List (Nat × Nat)} (h : SpL s) : s[48]? = some (100, 7) := sp_at h (k := 19) rfl
theorem aC48 {s : List (Nat × Nat)} (h : SpL s) (c : Nat → Nat → Int) {i : Int} (h0 : 0 ≤ i) (h1 : i < 7) : gA (s, c) 0 48 i = some (c 48 i.toNat) := gA_g (sC48 h) c h0 h1
theorem qC48 {s : List (Nat × Nat)} (h : SpL s) (c : Nat → Nat → Int) {i : Int} (v : Int) (h0 : 0 ≤ i) (h1 : i < 7) : pA (s, c) 0 48 i v = some (s, u2 c 48 i.toNat v) := pA_g (sC48 h) c v h0 h1
theorem lC48 {s : List (Nat × Nat)} (h : SpL s) (c : Nat → Nat → Int) : gL (s, c) 48 = some 7 := gL_g (sC48 h) (by decide) c
theorem sC49 {s : List (Nat × Nat)} (h : SpL s) : s[49]? = some (100, 7) := sp_at h (k := 20) rfl
theorem aC49 {s : List (Nat × Nat)} (h : SpL s) (c : Nat → Nat → Int) {i : Int} (h0 : 0 ≤ i) (h1 : i < 7) : gA (s, c) 0 49 i = some (c 49 i.toNat) := gA_g (sC49 h) c h0 h1
theorem qC49 {s : List (Nat × Nat)} (h : SpL s) (c : Nat → Nat → Int) {i : Int} (v : Int) (h0 : 0 ≤ i) (h1 : i < 7) : pA (s, c) 0 49 i v = some (s, u2 c 49 i.toNat v) := pA_g (sC49 h) c v h0 h1
theorem lC49 {s : List (Nat × Nat)} (h : SpL s) (c : Nat → Nat → Int) : gL (s, c) 49 = some 7 := gL_g (sC49 h) (by decide) c
theorem sC50 {s : List (Nat × Nat)} (h : SpL s) : s[50]? = some (1, 10) := sp_at h (k := 21) rfl
theorem gC50 {s : List (Nat × Nat)} (h : SpL s) (c : Nat → Nat → Int) : gS (s, c) 50 = some (1, 10) := (gS_p s c 50).trans (sC50 h)
theorem fC50 {s : List (Nat × Nat)} (h : SpL s) (c : Nat → Nat → Int) {k : Nat} (hk : k < 10) : gF (s, c) 1 k 50 = some (c 50 k) := gF_g (sC50 h) c hk
theorem pC50 {s : List (Nat × Nat)} (h : SpL s) (c : Nat → Nat → Int) {k : Nat} (v : Int) (hk : k < 10) : pF (s, c) 1 k 50 v = some (s, u2 c 50 k v) := pF_g (sC50 h) c v hk
theorem sC51 {s : List (Nat × Nat)} (h : SpL s) : s[51]? = some (100, 15) := sp_at h (k := 22) rfl
theorem aC51 {s : List (Nat × Nat)} (h : SpL s) (c : Nat → Nat → Int) {i : Int} (h0 : 0 ≤ i) (h1 : i < 15) : gA (s, c) 0 51 i = some (c 51 i.toNat) := gA_g (sC51 h) c h0 h1
theorem qC51 {s : List (Nat × Nat)} (h : SpL s) (c : Nat → Nat → Int) {i : Int} (v : Int) (h0 : 0 ≤ i) (h1 : i < 15) : pA (s, c) 0 51 i v = some (s, u2 c 51 i.toNat v) := pA_g (sC51 h) c v h0 h1
theorem lC51 {s : List (Nat × Nat)} (h : SpL s) (c : Nat → Nat → Int) : gL (s, c) 51 = some 15 := gL_g (sC51 h) (by decide) c
theorem sC52 {s : List (Nat × Nat)} (h : SpL s) : s[52]? = some (100, 15) := sp_at h (k := 23) rfl
theorem aC52 {s : List (Nat × Nat)} (h : SpL s) (c : Nat → Nat → Int) {i : Int} (h0 : 0 ≤ i) (h1 : i < 15) : gA (s, c) 0 52 i = some (c 52 i.toNat) := gA_g (sC52 h) c h0 h1
theorem qC52 {s : List (Nat × Nat)} (h : SpL s) (c : Nat → Nat → Int) {i : Int} (v : Int) (h0 : 0 ≤ i) (h1 : i < 15) : pA (s, c) 0 52 i v = some (s, u2 c 52 i.toNat v) := pA_g (sC52 h) c v h0 h1
theorem lC52 {s : List (Nat × Nat)} (h : SpL s) (c : Nat → Nat → Int) : gL (s, c) 52 = some 15 := gL_g (sC52 h) (by decide) c
theorem sC53 {s : List (Nat × Nat)} (h : SpL s) : s[53]? = some (100, 7) := sp_at h (k := 24) rfl
theorem aC53 {s : List (Nat × Nat)} (h : SpL s) (c : Nat → Nat → Int) {i : Int} (h0 : 0 ≤ i) (h1 : i < 7) : gA (s, c) 0 53 i = some (c 53 i.toNat) := gA_g (sC53 h) c h0 h1
theorem qC53 {s : List (Nat × Nat)} (h : SpL s) (c : Nat → Nat → Int) {i : Int} (v : Int) (h0 : 0 ≤ i) (h1 : i < 7) : pA (s, c) 0 53 i v = some (s, u2 c 53 i.toNat v) := pA_g (sC53 h) c v h0 h1
theorem lC53 {s : List (Nat × Nat)} (h : SpL s) (c : Nat → Nat → Int) : gL (s, c) 53 = some 7 := gL_g (sC53 h) (by decide) c
theorem sC54 {s : List (Nat × Nat)} (h : SpL s) : s[54]? = some (100, 7) := sp_at h (k := 25) rfl
theorem aC54 {s : List (Nat × Nat)} (h : SpL s) (c : Nat → Nat → Int) {i : Int} (h0 : 0 ≤ i) (h1 : i < 7) : gA (s, c) 0 54 i = some (c 54 i.toNat) := gA_g (sC54 h) c h0 h1
theorem qC54 {s : List (Nat × Nat)} (h : SpL s) (c : Nat → Nat → Int) {i : Int} (v : Int) (h0 : 0 ≤ i) (h1 : i < 7) : pA (s, c) 0 54 i v = some (s, u2 c 54 i.toNat v) := pA_g (sC54 h) c v h0 h1
theorem lC54 {s : List (Nat × Nat)} (h : SpL s) (c : Nat → Nat → Int) : gL (s, c) 54 = some 7 := gL_g (sC54 h) (by decide) c
theorem sC55 {s : List (Nat × Nat)} (h : SpL s) : s[55]? = some (1, 10) := sp_at h (k := 26) rfl
theorem gC55 {s : List (Nat × Nat)} (h : SpL s) (c : Nat → Nat → Int) : gS (s, c) 55 = some (1, 10) := (gS_p s c 55).trans (sC55 h)
theorem fC55 {s : List (Nat × Nat)} (h : SpL s) (c : Nat → Nat → Int) {k : Nat} (hk : k < 10) : gF (s, c) 1 k 55 = some (c 55 k) := gF_g (sC55 h) c hk
theorem pC55 {s : List (Nat × Nat)} (h : SpL s) (c : Nat → Nat → Int) {k : Nat} (v : Int) (hk : k < 10) : pF (s, c) 1 k 55 v = some (s, u2 c 55 k v) := pF_g (sC55 h) c v hk
theorem sC56 {s : List (Nat × Nat)} (h : SpL s) : s[56]? = some (100, 15) := sp_at h (k := 27) rfl
theorem aC56 {s : List (Nat × Nat)} (h : SpL s) (c : Nat → Nat → Int) {i : Int} (h0 : 0 ≤ i) (h1 : i < 15) : gA (s, c) 0 56 i = some (c 56 i.toNat) := gA_g (sC56 h) c h0 h1
theorem qC56 {s : List (Nat × Nat)} (h : SpL s) (c : Nat → Nat → Int) {i : Int} (v : Int) (h0 : 0 ≤ i) (h1 : i < 15) : pA (s, c) 0 56 i v = some (s, u2 c 56 i.toNat v) := pA_g (sC56 h) c v h0 h1
theorem lC56 {s : List (Nat × Nat)} (h : SpL s) (c : Nat → Nat → Int) : gL (s, c) 56 = some 15 := gL_g (sC56 h) (by decide) c
theorem sC57 {s : List (Nat × Nat)} (h : SpL s) : s[57]? = some (100, 15) := sp_at h (k := 28) rfl
theorem aC57 {s : List (Nat × Nat)} (h : SpL s) (c : Nat → Nat → Int) {i : Int} (h0 : 0 ≤ i) (h1 : i < 15) : gA (s, c) 0 57 i = some (c 57 i.toNat) := gA_g (sC57 h) c h0 h1
theorem qC57 {s : List (Nat × Nat)} (h : SpL s) (c : Nat → Nat → Int) {i : Int} (v : Int) (h0 : 0 ≤ i) (h1 : i < 15) : pA (s, c) 0 57 i v = some (s, u2 c 57 i.toNat v) := pA_g (sC57 h) c v h0 h1
theorem lC57 {s : List (Nat × Nat)} (h : SpL s) (c : Nat → Nat → Int) : gL (s, c) 57 = some 15 := gL_g (sC57 h) (by decide) c
theorem sC58 {s : List (Nat × Nat)} (h : SpL s) : s[58]? = some (100, 7) := sp_at h (k := 29) rfl
theorem aC58 {s : List (Nat × Nat)} (h : SpL s) (c : Nat → Nat → Int) {i : Int} (h0 : 0 ≤ i) (h1 : i < 7) : gA (s, c) 0 58 i = some (c 58 i.toNat) := gA_g (sC58 h) c h0 h1
theorem qC58 {s : List (Nat × Nat)} (h : SpL s) (c : Nat → Nat → Int) {i : Int} (v : Int) (h0 : 0 ≤ i) (h1 : i < 7) : pA (s, c) 0 58 i v = some (s, u2 c 58 i.toNat v) := pA_g (sC58 h) c v h0 h1
theorem lC58 {s : List (Nat × Nat)} (h : SpL s) (c : Nat → Nat → Int) : gL (s, c) 58 = some 7 := gL_g (sC58 h) (by decide) c
theorem sC59 {s : List (Nat × Nat)} (h : SpL s) : s[59]? = some (100, 7) := sp_at h (k := 30) rfl
theorem aC59 {s : List (Nat × Nat)} (h : SpL s) (c : Nat → Nat → Int) {i : Int} (h0 : 0 ≤ i) (h1 : i < 7) : gA (s, c) 0 59 i = some (c 59 i.toNat) := gA_g (sC59 h) c h0 h1
theorem qC59 {s : List (Nat × Nat)} (h : SpL s) (c : Nat → Nat → Int) {i : Int} (v : Int) (h0 : 0 ≤ i) (h1 : i < 7) : pA (s, c) 0 59 i v = some (s, u2 c 59 i.toNat v) := pA_g (sC59 h) c v h0 h1
theorem lC59 {s : List (Nat × Nat)} (h : SpL s) (c : Nat → Nat → Int) : gL (s, c) 59 = some 7 := gL_g (sC59 h) (by decide) c
theorem sC60 {s : List (Nat × Nat)} (h : SpL s) : s[60]? = some (8, 4) := sp_at h (k := 31) rfl
theorem gC60 {s : List (Nat × Nat)} (h : SpL s) (c : Nat → Nat → Int) : gS (s, c) 60 = some (8, 4) := (gS_p s c 60).trans (sC60 h)
theorem fC60 {s : List (Nat × Nat)} (h : SpL s) (c : Nat → Nat → Int) {k : Nat} (hk : k < 4) : gF (s, c) 8 k 60 = some (c 60 k) := gF_g (sC60 h) c hk
theorem pC60 {s : List (Nat × Nat)} (h : SpL s) (c : Nat → Nat → Int) {k : Nat} (v : Int) (hk : k < 4) : pF (s, c) 8 k 60 v = some (s, u2 c 60 k v) := pF_g (sC60 h) c v hk
theorem sC61 {s : List (Nat × Nat)} (h : SpL s) : s[61]? = some (100, 49) := sp_at h (k := 32) rfl
theorem aC61 {s : List (Nat × Nat)} (h : SpL s) (c : Nat → Nat → Int) {i : Int} (h0 : 0 ≤ i) (h1 : i < 49) : gA (s, c) 0 61 i = some (c 61 i.toNat) := gA_g (sC61 h) c h0 h1
theorem qC61 {s : List (Nat × Nat)} (h : SpL s) (c : Nat → Nat → Int) {i : Int} (v : Int) (h0 : 0 ≤ i) (h1 : i < 49) : pA (s, c) 0 61 i v = some (s, u2 c 61 i.toNat v) := pA_g (sC61 h) c v h0 h1
theorem lC61 {s : List (Nat × Nat)} (h : SpL s) (c : Nat → Nat → Int) : gL (s, c) 61 = some 49 := gL_g (sC61 h) (by decide) c
theorem sC62 {s : List (Nat × Nat)} (h : SpL s) : s[62]? = some (8, 4) := sp_at h (k := 33) rfl
theorem gC62 {s : List (Nat × Nat)} (h : SpL s) (c : Nat → Nat → Int) : gS (s, c) 62 = some (8, 4) := (gS_p s c 62).trans (sC62 h)
theorem fC62 {s : List (Nat × Nat)} (h : SpL s) (c : Nat → Nat → Int) {k : Nat} (hk : k < 4) : gF (s, c) 8 k 62 = some (c 62 k) := gF_g (sC62 h) c hk
theorem pC62 {s : List (Nat × Nat)} (h : SpL s) (c : Nat → Nat → Int) {k : Nat} (v : Int) (hk : k < 4) : pF (s, c) 8 k 62 v = some (s, u2 c 62 k v) := pF_g (sC62 h) c v hk
theorem sC63 {s : List (Nat × Nat)} (h : SpL s) : s[63]? = some (100, 49) := sp_at h (k := 34) rfl
theorem aC63 {s : List (Nat × Nat)} (h : SpL s) (c : Nat → Nat → Int) {i : Int} (h0 : 0 ≤ i) (h1 : i < 49) : gA (s, c) 0 63 i = some (c 63 i.toNat) := gA_g (sC63 h) c h0 h1
theorem qC63 {s : List (Nat × Nat)} (h : SpL s) (c : Nat → Nat → Int) {i : Int} (v : Int) (h0 : 0 ≤ i) (h1 : i < 49) : pA (s, c) 0 63 i v = some (s, u2 c 63 i.toNat v) := pA_g (sC63 h) c v h0 h1
theorem lC63 {s : List (Nat × Nat)} (h : SpL s) (c : Nat → Nat → Int) : gL (s, c) 63 = some 49 := gL_g (sC63 h) (by decide) c
theorem sC64 {s : List (Nat × Nat)} (h : SpL s) : s[64]? = some (8, 4) := sp_at h (k := 35) rfl
theorem gC64 {s : List (Nat × Nat)} (h : SpL s) (c : Nat → Nat → Int) : gS (s, c) 64 = some (8, 4) := (gS_p s c 64).trans (sC64 h)
theorem fC64 {s : List (Nat × Nat)} (h : SpL s) (c : Nat → Nat → Int) {k : Nat} (hk : k < 4) : gF (s, c) 8 k 64 = some (c 64 k) := gF_g (sC64 h) c hk
theorem pC64 {s : List (Nat × Nat)} (h : SpL s) (c : Nat → Nat → Int) {k : Nat} (v : Int) (hk : k < 4) : pF (s, c) 8 k 64 v = some (s, u2 c 64 k v) := pF_g (sC64 h) c v hk
theorem sC65 {s : List (Nat × Nat)} (h : SpL s) : s[65]? = some (100, 49) := sp_at h (k := 36) rfl
theorem aC65 {s : List (Nat × Nat)} (h : SpL s) (c : Nat → Nat → Int) {i : Int} (h0 : 0 ≤ i) (h1 : i < 49) : gA (s, c) 0 65 i = some (c 65 i.toNat) := gA_g (sC65 h) c h0 h1
theorem qC65 {s : List (Nat × Nat)} (h : SpL s) (c : Nat → Nat → Int) {i : Int} (v : Int) (h0 : 0 ≤ i) (h1 : i < 49) : pA (s, c) 0 65 i v = some (s, u2 c 65 i.toNat v) := pA_g (sC65 h) c v h0 h1
theorem lC65 {s : List (Nat × Nat)} (h : SpL s) (c : Nat → Nat → Int) : gL (s, c) 65 = some 49 := gL_g (sC65 h) (by decide) c
theorem sC66 {s : List (Nat × Nat)} (h : SpL s) : s[66]? = some (8, 4) := sp_at h (k := 37) rfl
theorem gC66 {s : List (Nat × Nat)} (h : SpL s) (c : Nat → Nat → Int) : gS (s, c) 66 = some (8, 4) := (gS_p s c 66).trans (sC66 h)
theorem fC66 {s : List (Nat × Nat)} (h : SpL s) (c : Nat → Nat → Int) {k : Nat} (hk : k < 4) : gF (s, c) 8 k 66 = some (c 66 k) := gF_g (sC66 h) c hk
theorem pC66 {s : List (Nat × Nat)} (h : SpL s) (c : Nat → Nat → Int) {k : Nat} (v : Int) (hk : k < 4) : pF (s, c) 8 k 66 v = some (s, u2 c 66 k v) := pF_g (sC66 h) c v hk
theorem sC67 {s : List (Nat × Nat)} (h : SpL s) : s[67]? = some (100, 49) := sp_at h (k := 38) rfl
theorem aC67 {s : List (Nat × Nat)} (h : SpL s) (c : Nat → Nat → Int) {i : Int} (h0 : 0 ≤ i) (h1 : i < 49) : gA (s, c) 0 67 i = some (c 67 i.toNat) := gA_g (sC67 h) c h0 h1
theorem qC67 {s : List (Nat × Nat)} (h : SpL s) (c : Nat → Nat → Int) {i : Int} (v : Int) (h0 : 0 ≤ i) (h1 : i < 49) : pA (s, c) 0 67 i v = some (s, u2 c 67 i.toNat v) := pA_g (sC67 h) c v h0 h1
theorem lC67 {s : List (Nat × Nat)} (h : SpL s) (c : Nat → Nat → Int) : gL (s, c) 67 = some 49 := gL_g (sC67 h) (by decide) c
theorem sC68 {s : List (Nat × Nat)} (h : SpL s) : s[68]? = some (8, 4) := sp_at h (k := 39) rfl
theorem gC68 {s : List (Nat × Nat)} (h : SpL s) (c : Nat → Nat → Int) : gS (s, c) 68 = some (8, 4) := (gS_p s c 68).trans (sC68 h)
theorem fC68 {s : List (Nat × Nat)} (h : SpL s) (c : Nat → Nat → Int) {k : Nat} (hk : k < 4) : gF (s, c) 8 k 68 = some (c 68 k) := gF_g (sC68 h) c hk
theorem pC68 {s : List (Nat × Nat)} (h : SpL s) (c : Nat → Nat → Int) {k : Nat} (v : Int) (hk : k < 4) : pF (s, c) 8 k 68 v = some (s, u2 c 68 k v) := pF_g (sC68 h) c v hk
theorem sC69 {s : List (Nat × Nat)} (h : SpL s) : s[69]? = some (100, 49) := sp_at h (k := 40) rfl
theorem aC69 {s : List (Nat × Nat)} (h : SpL s) (c : Nat → Nat → Int) {i : Int} (h0 : 0 ≤ i) (h1 : i < 49) : gA (s, c) 0 69 i = some (c 69 i.toNat) := gA_g (sC69 h) c h0 h1
theorem qC69 {s : List (Nat × Nat)} (h : SpL s) (c : Nat → Nat → Int) {i : Int} (v : Int) (h0 : 0 ≤ i) (h1 : i < 49) : pA (s, c) 0 69 i v = some (s, u2 c 69 i.toNat v) := pA_g (sC69 h) c v h0 h1
theorem lC69 {s : List (Nat × Nat)} (h : SpL s) (c : Nat → Nat → Int) : gL (s, c) 69 = some 49 := gL_g (sC69 h) (by decide) c
theorem sC70 {s : List (Nat × Nat)} (h : SpL s) : s[70]? = some (8, 4) := sp_at h (k := 41) rfl
theorem gC70 {s : List (Nat × Nat)} (h : SpL s) (c : Nat → Nat → Int) : gS (s, c) 70 = some (8, 4) := (gS_p s c 70).trans (sC70 h)
theorem fC70 {s : List (Nat × Nat)} (h : SpL s) (c : Nat → Nat → Int) {k : Nat} (hk : k < 4) : gF (s, c) 8 k 70 = some (c 70 k) := gF_g (sC70 h) c hk
theorem pC70 {s : List (Nat × Nat)} (h : SpL s) (c : Nat → Nat → Int) {k : Nat} (v : Int) (hk : k < 4) : pF (s, c) 8 k 70 v = some (s, u2 c 70 k v) := pF_g (sC70 h) c v hk
theorem sC71 {s : List (Nat × Nat)} (h : SpL s) : s[71]? = some (100, 49) := sp_at h (k := 42) rfl
theorem aC71 {s : List (Nat × Nat)} (h : SpL s) (c : Nat → Nat → Int) {i : Int} (h0 : 0 ≤ i) (h1 : i < 49) : gA (s, c) 0 71 i = some (c 71 i.toNat) := gA_g (sC71 h) c h0 h1
theorem qC71 {s : List (Nat × Nat)} (h : SpL s) (c : Nat → Nat → Int) {i : Int} (v : Int) (h0 : 0 ≤ i) (h1 : i < 49) : pA (s, c) 0 71 i v = some (s, u2 c 71 i.toNat v) := pA_g (sC71 h) c v h0 h1
theorem lC71 {s : List (Nat × Nat)} (h : SpL s) (c : Nat → Nat → Int) : gL (s, c) 71 = some 49 := gL_g (sC71 h) (by decide) c
theorem sC72 {s : List (Nat × Nat)} (h : SpL s) : s[72]? = some (8, 4) := sp_at h (k := 43) rfl
theorem gC72 {s : List (Nat × Nat)} (h : SpL s) (c : Nat → Nat → Int) : gS (s, c) 72 = some (8, 4) := (gS_p s c 72).trans (sC72 h)
theorem fC72 {s : List (Nat × Nat)} (h : SpL s) (c : Nat → Nat → Int) {k : Nat} (hk : k < 4) : gF (s, c) 8 k 72 = some (c 72 k) := gF_g (sC72 h) c hk
theorem pC72 {s : List (Nat × Nat)} (h : SpL s) (c : Nat → Nat → Int) {k : Nat} (v : Int) (hk : k < 4) : pF (s, c) 8 k 72 v = some (s, u2 c 72 k v) := pF_g (sC72 h) c v hk
theorem sC73 {s : List (Nat × Nat)} (h : SpL s) : s[73]? = some (100, 49) := sp_at h (k := 44) rfl
theorem aC73 {s : List (Nat × Nat)} (h : SpL s) (c : Nat → Nat → Int) {i : Int} (h0 : 0 ≤ i) (h1 : i < 49) : gA (s, c) 0 73 i = some (c 73 i.toNat) := gA_g (sC73 h) c h0 h1
theorem qC73 {s : List (Nat × Nat)} (h : SpL s) (c : Nat → Nat → Int) {i : Int} (v : Int) (h0 : 0 ≤ i) (h1 : i < 49) : pA (s, c) 0 73 i v = some (s, u2 c 73 i.toNat v) := pA_g (sC73 h) c v h0 h1
theorem lC73 {s : List (Nat × Nat)} (h : SpL s) (c : Nat → Nat → Int) : gL (s, c) 73 = some 49 := gL_g (sC73 h) (by decide) c
theorem sC74 {s : List (Nat × Nat)} (h : SpL s) : s[74]? = some (8, 4) := sp_at h (k := 45) rfl
theorem gC74 {s : List (Nat × Nat)} (h : SpL s) (c : Nat → Nat → Int) : gS (s, c) 74 = some (8, 4) := (gS_p s c 74).trans (sC74 h)
theorem fC74 {s : List (Nat × Nat)} (h : SpL s) (c : Nat → Nat → Int) {k : Nat} (hk : k < 4) : gF (s, c) 8 k 74 = some (c 74 k) := gF_g (sC74 h) c hk
theorem pC74 {s : List (Nat × Nat)} (h : SpL s) (c : Nat → Nat → Int) {k : Nat} (v : Int) (hk : k < 4) : pF (s, c) 8 k 74 v = some (s, u2 c 74 k v) := pF_g (sC74 h) c v hk
theorem sC75 {s : List (Nat × Nat)} (h : SpL s) : s[75]? = some (100, 49) := sp_at h (k := 46) rfl
theorem aC75 {s : List (Nat × Nat)} (h : SpL s) (c : Nat → Nat → Int) {i : Int} (h0 : 0 ≤ i) (h1 : i < 49) : gA (s, c) 0 75 i = some (c 75 i.toNat) := gA_g (sC75 h) c h0 h1
theorem qC75 {s : List (Nat × Nat)} (h : SpL s) (c : Nat → Nat → Int) {i : Int} (v : Int) (h0 : 0 ≤ i) (h1 : i < 49) : pA (s, c) 0 75 i v = some (s, u2 c 75 i.toNat v) := pA_g (sC75 h) c v h0 h1
theorem lC75 {s : List (Nat × Nat)} (h : SpL s) (c : Nat → Nat → Int) : gL (s, c) 75 = some 49 := gL_g (sC75 h) (by decide) c
theorem sC76 {s : List (Nat × Nat)} (h : SpL s) : s[76]? = some (10, 8) := sp_at h (k := 47) rfl
theorem gC76 {s : List (Nat × Nat)} (h : SpL s) (c : Nat → Nat → Int) : gS (s, c) 76 = some (10, 8) := (gS_p s c 76).trans (sC76 h)
theorem fC76 {s : List (Nat × Nat)} (h : SpL s) (c : Nat → Nat → Int) {k : Nat} (hk : k < 8) : gF (s, c) 10 k 76 = some (c 76 k) := gF_g (sC76 h) c hk
theorem pC76 {s : List (Nat × Nat)} (h : SpL s) (c : Nat → Nat → Int) {k : Nat} (v : Int) (hk : k < 8) : pF (s, c) 10 k 76 v = some (s, u2 c 76 k v) := pF_g (sC76 h) c v hk
theorem sC77 {s : List (Nat × Nat)} (h : SpL s) : s[77]? = some (103, 4) := sp_at h (k := 48) rfl
theorem rC77 {s : List (Nat × Nat)} (h : SpL s) (c : Nat → Nat → Int) {i : Int} (h0 : 0 ≤ i) (h1 : i < 4) : gR (s, c) 77 i = some (c 77 i.toNat) := gR_g (sC77 h) (by decide) c h0 h1
theorem lC77 {s : List (Nat × Nat)} (h : SpL s) (c : Nat → Nat → Int) : gL (s, c) 77 = some 4 := gL_g (sC77 h) (by decide) c
theorem sC78 {s : List (Nat × Nat)} (h : SpL s) : s[78]? = some (104, 8) := sp_at h (k := 49) rfl
theorem rC78 {s : List (Nat × Nat)} (h : SpL s) (c : Nat → Nat → Int) {i : Int} (h0 : 0 ≤ i) (h1 : i < 8) : gR (s, c) 78 i = some (c 78 i.toNat) := gR_g (sC78 h) (by decide) c h0 h1
theorem lC78 {s : List (Nat × Nat)} (h : SpL s) (c : Nat → Nat → Int) : gL (s, c) 78 = some 8 := gL_g (sC78 h) (by decide) c
theorem sC79 {s : List (Nat × Nat)} (h : SpL s) : s[79]? = some (9, 2) := sp_at h (k := 50) rfl
theorem gC79 {s : List (Nat × Nat)} (h : SpL s) (c : Nat → Nat → Int) : gS (s, c) 79 = some (9, 2) := (gS_p s c 79).trans (sC79 h)
theorem fC79 {s : List (Nat × Nat)} (h : SpL s) (c : Nat → Nat → Int) {k : Nat} (hk : k < 2) : gF (s, c) 9 k 79 = some (c 79 k) := gF_g (sC79 h) c hk
theorem pC79 {s : List (Nat × Nat)} (h : SpL s) (c : Nat → Nat → Int) {k : Nat} (v : Int) (hk : k < 2) : pF (s, c) 9 k 79 v = some (s, u2 c 79 k v) := pF_g (sC79 h) c v hk
theorem sC80 {s : List (Nat × Nat)} (h : SpL s) : s[80]? = some (100, 20) := sp_at h (k := 51) rfl
theorem aC80 {s : List (Nat × Nat)} (h : SpL s) (c : Nat → Nat → Int) {i : Int} (h0 : 0 ≤ i) (h1 : i < 20) : gA (s, c) 0 80 i = some (c 80 i.toNat) := gA_g (sC80 h) c h0 h1
theorem qC80 {s : List (Nat × Nat)} (h : SpL s) (c : Nat → Nat → Int) {i : Int} (v : Int) (h0 : 0 ≤ i) (h1 : i < 20) : pA (s, c) 0 80 i v = some (s, u2 c 80 i.toNat v) := pA_g (sC80 h) c v h0 h1
theorem lC80 {s : List (Nat × Nat)} (h : SpL s) (c : Nat → Nat → Int) : gL (s, c) 80 = some 20 := gL_g (sC80 h) (by decide) c
theorem sC81 {s : List (Nat × Nat)} (h : SpL s) : s[81]? = some (100, 140) := sp_at h (k := 52) rfl
theorem aC81 {s : List (Nat × Nat)} (h : SpL s) (c : Nat → Nat → Int) {i : Int} (h0 : 0 ≤ i) (h1 : i < 140) : gA (s, c) 0 81 i = some (c 81 i.toNat) := gA_g (sC81 h) c h0 h1
theorem qC81 {s : List (Nat × Nat)} (h : SpL s) (c : Nat → Nat → Int) {i : Int} (v : Int) (h0 : 0 ≤ i) (h1 : i < 140) : pA (s, c) 0 81 i v = some (s, u2 c 81 i.toNat v) := pA_g (sC81 h) c v h0 h1
theorem lC81 {s : List (Nat × Nat)} (h : SpL s) (c : Nat → Nat → Int) : gL (s, c) 81 = some 140 := gL_g (sC81 h) (by decide) c
theorem sC82 {s : List (Nat × Nat)} (h : SpL s) : s[82]? = some (0, 3) := sp_at h (k := 53) rfl
theorem gC82 {s : List (Nat × Nat)} (h : SpL s) (c : Nat → Nat → Int) : gS (s, c) 82 = some (0, 3) := (gS_p s c 82).trans (sC82 h)
theorem fC82 {s : List (Nat × Nat)} (h : SpL s) (c : Nat → Nat → Int) {k : Nat} (hk : k < 3) : gF (s, c) 0 k 82 = some (c 82 k) := gF_g (sC82 h) c hk
theorem pC82 {s : List (Nat × Nat)} (h : SpL s) (c : Nat → Nat → Int) {k : Nat} (v : Int) (hk : k < 3) : pF (s, c) 0 k 82 v = some (s, u2 c 82 k v) := pF_g (sC82 h) c v hk
theorem sC83 {s : List (Nat × Nat)} (h : SpL s) : s[83]? = some (3, 5) := sp_at h (k := 54) rfl
theorem gC83 {s : List (Nat × Nat)} (h : SpL s) (c : Nat → Nat → Int) : gS (s, c) 83 = some (3, 5) := (gS_p s c 83).trans (sC83 h)
theorem fC83 {s : List (Nat × Nat)} (h : SpL s) (c : Nat → Nat → Int) {k : Nat} (hk : k < 5) : gF (s, c) 3 k 83 = some (c 83 k) := gF_g (sC83 h) c hk
theorem pC83 {s : List (Nat × Nat)} (h : SpL s) (c : Nat → Nat → Int) {k : Nat} (v : Int) (hk : k < 5) : pF (s, c) 3 k 83 v = some (s, u2 c 83 k v) := pF_g (sC83 h) c v hk
theorem sC84 {s : List (Nat × Nat)} (h : SpL s) : s[84]? = some (7, 3) := sp_at h (k := 55) rfl
theorem gC84 {s : List (Nat × Nat)} (h : SpL s) (c : Nat → Nat → Int) : gS (s, c) 84 = some (7, 3) := (gS_p s c 84).trans (sC84 h)
theorem fC84 {s : List (Nat × Nat)} (h : SpL s) (c : Nat → Nat → Int) {k : Nat} (hk : k < 3) : gF (s, c) 7 k 84 = some (c 84 k) := gF_g (sC84 h) c hk
theorem pC84 {s : List (Nat × Nat)} (h : SpL s) (c : Nat → Nat → Int) {k : Nat} (v : Int) (hk : k < 3) : pF (s, c) 7 k 84 v = some (s, u2 c 84 k v) := pF_g (sC84 h) c v hk
theorem sC85 {s : List (Nat × Nat)} (h : SpL s) : s[85]? = some (100, 9) := sp_at h (k := 56) rfl
theorem aC85 {s : List (Nat × Nat)} (h : SpL s) (c : Nat → Nat → Int) {i : Int} (h0 : 0 ≤ i) (h1 : i < 9) : gA (s, c) 0 85 i = some (c 85 i.toNat) := gA_g (sC85 h) c h0 h1
theorem qC85 {s : List (Nat × Nat)} (h : SpL s) (c : Nat → Nat → Int) {i : Int} (v : Int) (h0 : 0 ≤ i) (h1 : i < 9) : pA (s, c) 0 85 i v = some (s, u2 c 85 i.toNat v) := pA_g (sC85 h) c v h0 h1
theorem lC85 {s : List (Nat × Nat)} (h : SpL s) (c : Nat → Nat → Int) : gL (s, c) 85 = some 9 := gL_g (sC85 h) (by decide) c
theorem sC86 {s : List (Nat × Nat)} (h : SpL s) : s[86]? = some (1, 10) := sp_at h (k := 57) rfl
theorem gC86 {s : List (Nat × Nat)} (h : SpL s) (c : Nat → Nat → Int) : gS (s, c) 86 = some (1, 10) := (gS_p s c 86).trans (sC86 h)
theorem fC86 {s : List (Nat × Nat)} (h : SpL s) (c : Nat → Nat → Int) {k : Nat} (hk : k < 10) : gF (s, c) 1 k 86 = some (c 86 k) := gF_g (sC86 h) c hk
theorem pC86 {s : List (Nat × Nat)} (h : SpL s) (c : Nat → Nat → Int) {k : Nat} (v : Int) (hk : k < 10) : pF (s, c) 1 k 86 v = some (s, u2 c 86 k v) := pF_g (sC86 h) c v hk
theorem sC87 {s : List (Nat × Nat)} (h : SpL s) : s[87]? = some (100, 15) := sp_at h (k := 58) rfl
theorem aC87 {s : List (Nat × Nat)} (h : SpL s) (c : Nat → Nat → Int) {i : Int} (h0 : 0 ≤ i) (h1 : i < 15) : gA (s, c) 0 87 i = some (c 87 i.toNat) := gA_g (sC87 h) c h0 h1
theorem qC87 {s : List (Nat × Nat)} (h : SpL s) (c : Nat → Nat → Int) {i : Int} (v : Int) (h0 : 0 ≤ i) (h1 : i < 15) : pA (s, c) 0 87 i v = some (s, u2 c 87 i.toNat v) := pA_g (sC87 h) c v h0 h1
theorem lC87 {s : List (Nat × Nat)} (h : SpL s) (c : Nat → Nat → Int) : gL (s, c) 87 = some 15 := gL_g (sC87 h) (by decide) c
theorem sC88 {s : List (Nat × Nat)} (h : SpL s) : s[88]? = some (100, 15) := sp_at h (k := 59) rfl
theorem aC88 {s : List (Nat × Nat)} (h : SpL s) (c : Nat → Nat → Int) {i : Int} (h0 : 0 ≤ i) (h1 : i < 15) : gA (s, c) 0 88 i = some (c 88 i.toNat) := gA_g (sC88 h) c h0 h1
theorem qC88 {s : List (Nat × Nat)} (h : SpL s) (c : Nat → Nat → Int) {i : Int} (v : Int) (h0 : 0 ≤ i) (h1 : i < 15) : pA (s, c) 0 88 i v = some (s, u2 c 88 i.toNat v) := pA_g (sC88 h) c v h0 h1
theorem lC88 {s : List (Nat × Nat)} (h : SpL s) (c : Nat → Nat → Int) : gL (s, c) 88 = some 15 := gL_g (sC88 h) (by decide) c
theorem sC89 {s : List (Nat × Nat)} (h : SpL s) : s[89]? = some (100, 7) := sp_at h (k := 60) rfl
theorem aC89 {s : List (Nat × Nat)} (h : SpL s) (c : Nat → Nat → Int) {i : Int} (h0 : 0 ≤ i) (h1 : i < 7) : gA (s, c) 0 89 i = some (c 89 i.toNat) := gA_g (sC89 h) c h0 h1
theorem qC89 {s : List (Nat × Nat)} (h : SpL s) (c : Nat → Nat → Int) {i : Int} (v : Int) (h0 : 0 ≤ i) (h1 : i < 7) : pA (s, c) 0 89 i v = some (s, u2 c 89 i.toNat v) := pA_g (sC89 h) c v h0 h1
theorem lC89 {s : List (Nat × Nat)} (h : SpL s) (c : Nat → Nat → Int) : gL (s, c) 89 = some 7 := gL_g (sC89 h) (by decide) c
theorem sC90 {s : List (Nat × Nat)} (h : SpL s) : s[90]? = some (100, 7) := sp_at h (k := 61) rfl
theorem aC90 {s : List (Nat × Nat)} (h : SpL s) (c : Nat → Nat → Int) {i : Int} (h0 : 0 ≤ i) (h1 : i < 7) : gA (s, c) 0 90 i = some (c 90 i.toNat) := gA_g (sC90 h) c h0 h1
theorem qC90 {s : List (Nat × Nat)} (h : SpL s) (c : Nat → Nat → Int) {i : Int} (v : Int) (h0 : 0 ≤ i) (h1 : i < 7) : pA (s, c) 0 90 i v = some (s, u2 c 90 i.toNat v) := pA_g (sC90 h) c v h0 h1
theorem lC90 {s : List (Nat × Nat)} (h : SpL s) (c : Nat → Nat → Int) : gL (s, c) 90 = some 7 := gL_g (sC90 h) (by decide) c
theorem sC91 {s : List (Nat × Nat)} (h : SpL s) : s[91]? = some (1, 10) := sp_at h (k := 62) rfl
theorem gC91 {s : List (Nat × Nat)} (h : SpL s) (c : Nat → Nat → Int) : gS (s, c) 91 = some (1, 10) := (gS_p s c 91).trans (sC91 h)
theorem fC91 {s : List (Nat × Nat)} (h : SpL s) (c : Nat → Nat → Int) {k : Nat} (hk : k < 10) : gF (s, c) 1 k 91 = some (c 91 k) := gF_g (sC91 h) c hk
theorem pC91 {s : List (Nat × Nat)} (h : SpL s) (c : Nat → Nat → Int) {k : Nat} (v : Int) (hk : k < 10) : pF (s, c) 1 k 91 v = some (s, u2 c 91 k v) := pF_g (sC91 h) c v hk
theorem sC92 {s : List (Nat × Nat)} (h : SpL s) : s[92]? = some (100, 15) := sp_at h (k := 63) rfl
theorem aC92 {s : List (Nat × Nat)} (h : SpL s) (c : Nat → Nat → Int) {i : Int} (h0 : 0 ≤ i) (h1 : i < 15) : gA (s, c) 0 92 i = some (c 92 i.toNat) := gA_g (sC92 h) c h0 h1
theorem qC92 {s : List (Nat × Nat)} (h : SpL s) (c : Nat → Nat → Int) {i : Int} (v : Int) (h0 : 0 ≤ i) (h1 : i < 15) : pA (s, c) 0 92 i v = some (s, u2 c 92 i.toNat v) := pA_g (sC92 h) c v h0 h1
theorem lC92 {s : List (Nat × Nat)} (h : SpL s) (c : Nat → Nat → Int) : gL (s, c) 92 = some 15 := gL_g (sC92 h) (by decide) c
theorem sC93 {s : List (Nat × Nat)} (h : SpL s) : s[93]? = some (100, 15) := sp_at h (k := 64) rfl
theorem aC93 {s : List (Nat × Nat)} (h : SpL s) (c : Nat → Nat → Int) {i : Int} (h0 : 0 ≤ i) (h1 : i < 15) : gA (s, c) 0 93 i = some (c 93 i.toNat) := gA_g (sC93 h) c h0 h1
theorem qC93 {s : List (Nat × Nat)} (h : SpL s) (c : Nat → Nat → Int) {i : Int} (v : Int) (h0 : 0 ≤ i) (h1 : i < 15) : pA (s, c) 0 93 i v = some (s, u2 c 93 i.toNat v) := pA_g (sC93 h) c v h0 h1
theorem lC93 {s : List (Nat × Nat)} (h : SpL s) (c : Nat → Nat → Int) : gL (s, c) 93 = some 15 := gL_g (sC93 h) (by decide) c
theorem sC94 {s : List (Nat × Nat)} (h : SpL s) : s[94]? = some (100, 7) := sp_at h (k := 65) rfl
theorem aC94 {s : List (Nat × Nat)} (h : SpL s) (c : Nat → Nat → Int) {i : Int} (h0 : 0 ≤ i) (h1 : i < 7) : gA (s, c) 0 94 i = some (c 94 i.toNat) := gA_g (sC94 h) c h0 h1
theorem qC94 {s : List (Nat × Nat)} (h : SpL s) (c : Nat → Nat → Int) {i : Int} (v : Int) (h0 : 0 ≤ i) (h1 : i < 7) : pA (s, c) 0 94 i v = some (s, u2 c 94 i.toNat v) := pA_g (sC94 h) c v h0 h1
theorem lC94 {s : List (Nat × Nat)} (h : SpL s) (c : Nat → Nat → Int) : gL (s, c) 94 = some 7 := gL_g (sC94 h) (by decide) c
theorem sC95 {s : List (Nat × Nat)} (h : SpL s) : s[95]? = some (100, 7) := sp_at h (k := 66) rfl
theorem aC95 {s : List (Nat × Nat)} (h : SpL s) (c : Nat → Nat → Int) {i : Int} (h0 : 0 ≤ i) (h1 : i < 7) : gA (s, c) 0 95 i = some (c 95 i.toNat) := gA_g (sC95 h) c h0 h1
theorem qC95 {s : List (Nat × Nat)} (h : SpL s) (c : Nat → Nat → Int) {i : Int} (v : Int) (h0 : 0 ≤ i) (h1 : i < 7) : pA (s, c) 0 95 i v = some (s, u2 c 95 i.toNat v) := pA_g (sC95 h) c v h0 h1
theorem lC95 {s : List (Nat × Nat)} (h : SpL s) (c : Nat → Nat → Int) : gL (s, c) 95 = some 7 := gL_g (sC95 h) (by decide) c
theorem sC96 {s : List (Nat × Nat)} (h : SpL s) : s[96]? = some (1, 10) := sp_at h (k := 67) rfl
theorem gC96 {s : List (Nat × Nat)} (h : SpL s) (c : Nat → Nat → Int) : gS (s, c) 96 = some (1, 10) := (gS_p s c 96).trans (sC96 h)
theorem fC96 {s : List (Nat × Nat)} (h : SpL s) (c : Nat → Nat → Int) {k : Nat} (hk : k < 10) : gF (s, c) 1 k 96 = some (c 96 k) := gF_g (sC96 h) c hk
theorem pC96 {s : List (Nat × Nat)} (h : SpL s) (c : Nat → Nat → Int) {k : Nat} (v : Int) (hk : k < 10) : pF (s, c) 1 k 96 v = some (s, u2 c 96 k v) := pF_g (sC96 h) c v hk
theorem sC97 {s : List (Nat × Nat)} (h : SpL s) : s[97]? = some (100, 15) := sp_at h (k := 68) rfl
theorem aC97 {s : List (Nat × Nat)} (h : SpL s) (c : Nat → Nat → Int) {i : Int} (h0 : 0 ≤ i) (h1 : i < 15) : gA (s, c) 0 97 i = some (c 97 i.toNat) := gA_g (sC97 h) c h0 h1
theorem qC97 {s : List (Nat × Nat)} (h : SpL s) (c : Nat → Nat → Int) {i : Int} (v : Int) (h0 : 0 ≤ i) (h1 : i < 15) : pA (s, c) 0 97 i v = some (s, u2 c 97 i.toNat v) := pA_g (sC97 h) c v h0 h1
theorem lC97 {s : List (Nat × Nat)} (h : SpL s) (c : Nat → Nat → Int) : gL (s, c) 97 = some 15 := gL_g (sC97 h) (by decide) c
theorem sC98 {s : List (Nat × Nat)} (h : SpL s) : s[98]? = some (100, 15) := sp_at h (k := 69) rfl
theorem aC98 {s : List (Nat × Nat)} (h : SpL s) (c : Nat → Nat → Int) {i : Int} (h0 : 0 ≤ i) (h1 : i < 15) : gA (s, c) 0 98 i = some (c 98 i.toNat) := gA_g (sC98 h) c h0 h1
theorem qC98 {s : List (Nat × Nat)} (h : SpL s) (c : Nat → Nat → Int) {i : Int} (v : Int) (h0 : 0 ≤ i) (h1 : i < 15) : pA (s, c) 0 98 i v = some (s, u2 c 98 i.toNat v) := pA_g (sC98 h) c v h0 h1
theorem lC98 {s : List (Nat × Nat)} (h : SpL s) (c : Nat → Nat → Int) : gL (s, c) 98 = some 15 := gL_g (sC98 h) (by decide) c
theorem sC99 {s : List (Nat × Nat)} (h : SpL s) : s[99]? = some (100, 7) := sp_at h (k := 70) rfl
theorem aC99 {s : List (Nat × Nat)} (h : SpL s) (c : Nat → Nat → Int) {i : Int} (h0 : 0 ≤ i) (h1 : i < 7) : gA (s, c) 0 99 i = some (c 99 i.toNat) := gA_g (sC99 h) c h0 h1
theorem qC99 {s : List (Nat × Nat)} (h : SpL s) (c : Nat → Nat → Int) {i : Int} (v : Int) (h0 : 0 ≤ i) (h1 : i < 7) : pA (s, c) 0 99 i v = some (s, u2 c 99 i.toNat v) := pA_g (sC99 h) c v h0 h1
theorem lC99 {s : List (Nat × Nat)} (h : SpL s) (c : Nat → Nat → Int) : gL (s, c) 99 = some 7 := gL_g (sC99 h) (by decide) c
theorem sC100 {s : List (Nat × Nat)} (h : SpL s) : s[100]? = some (100, 7) := sp_at h (k := 71) rfl
theorem aC100 {s : List (Nat × Nat)} (h : SpL s) (c : Nat → Nat → Int) {i : Int} (h0 : 0 ≤ i) (h1 : i < 7) : gA (s, c) 0 100 i = some (c 100 i.toNat) := gA_g (sC100 h) c h0 h1
theorem qC100 {s : List (Nat × Nat)} (h : SpL s) (c : Nat → Nat → Int) {i : Int} (v : Int) (h0 : 0 ≤ i) (h1 : i < 7) : pA (s, c) 0 100 i v = some (s, u2 c 100 i.toNat v) := pA_g (sC100 h) c v h0 h1
theorem lC100 {s : List (Nat × Nat)} (h : SpL s) (c : Nat → Nat → Int) : gL (s, c) 100 = some 7 := gL_g (sC100 h) (by decide) c
theorem sC101 {s : List (Nat × Nat)} (h : SpL s) : s[101]? = some (1, 10) := sp_at h (k := 72) rfl
theorem gC101 {s : List (Nat × Nat)} (h : SpL s) (c : Nat → Nat → Int) : gS (s, c) 101 = some (1, 10) := (gS_p s c 101).trans (sC101 h)
theorem fC101 {s : List (Nat × Nat)} (h : SpL s) (c : Nat → Nat → Int) {k : Nat} (hk : k < 10) : gF (s, c) 1 k 101 = some (c 101 k) := gF_g (sC101 h) c hk
theorem pC101 {s : List (Nat × Nat)} (h : SpL s) (c : Nat → Nat → Int) {k : Nat} (v : Int) (hk : k < 10) : pF (s, c) 1 k 101 v = some (s, u2 c 101 k v) := pF_g (sC101 h) c v hk
theorem sC102 {s : List (Nat × Nat)} (h : SpL s) : s[102]? = some (100, 15) := sp_at h (k := 73) rfl
theorem aC102 {s : List (Nat × Nat)} (h : SpL s) (c : Nat → Nat → Int) {i : Int} (h0 : 0 ≤ i) (h1 : i < 15) : gA (s, c) 0 102 i = some (c 102 i.toNat) := gA_g (sC102 h) c h0 h1
theorem qC102 {s : List (Nat × Nat)} (h : SpL s) (c : Nat → Nat → Int) {i : Int} (v : Int) (h0 : 0 ≤ i) (h1 : i < 15) : pA (s, c) 0 102 i v = some (s, u2 c 102 i.toNat v) := pA_g (sC102 h) c v h0 h1
theorem lC102 {s : List (Nat × Nat)} (h : SpL s) (c : Nat → Nat → Int) : gL (s, c) 102 = some 15 := gL_g (sC102 h) (by decide) c
theorem sC103 {s : List (Nat × Nat)} (h : SpL s) : s[103]? = some (100, 15) := sp_at h (k := 74) rfl
theorem aC103 {s : List (Nat × Nat)} (h : SpL s) (c : Nat → Nat → Int) {i : Int} (h0 : 0 ≤ i) (h1 : i < 15) : gA (s, c) 0 103 i = some (c 103 i.toNat) := gA_g (sC103 h) c h0 h1
theorem qC103 {s : List (Nat × Nat)} (h : SpL s) (c : Nat → Nat → Int) {i : Int} (v : Int) (h0 : 0 ≤ i) (h1 : i < 15) : pA (s, c) 0 103 i v = some (s, u2 c 103 i.toNat v) := pA_g (sC103 h) c v h0 h1
theorem lC103 {s : List (Nat × Nat)} (h : SpL s) (c : Nat → Nat → Int) : gL (s, c) 103 = some 15 := gL_g (sC103 h) (by decide) c
theorem sC104 {s : List (Nat × Nat)} (h : SpL s) : s[104]? = some (100, 7) := sp_at h (k := 75) rfl
theorem aC104 {s : List (Nat × Nat)} (h : SpL s) (c : Nat → Nat → Int) {i : Int} (h0 : 0 ≤ i) (h1 : i < 7) : gA (s, c) 0 104 i = some (c 104 i.toNat) := gA_g (sC104 h) c h0 h1
theorem qC104 {s : List (Nat × Nat)} (h : SpL s) (c : Nat → Nat → Int) {i : Int} (v : Int) (h0 : 0 ≤ i) (h1 : i < 7) : pA (s, c) 0 104 i v = some (s, u2 c 104 i.toNat v) := pA_g (sC104 h) c v h0 h1
theorem lC104 {s : List (Nat × Nat)} (h : SpL s) (c : Nat → Nat → Int) : gL (s, c) 104 = some 7 := gL_g (sC104 h) (by decide) c
theorem sC105 {s : List (Nat × Nat)} (h : SpL s) : s[105]? = some (100, 7) := sp_at h (k := 76) rfl
theorem aC105 {s : List (Nat × Nat)} (h : SpL s) (c : Nat → Nat → Int) {i : Int} (h0 : 0 ≤ i) (h1 : i < 7) : gA (s, c) 0 105 i = some (c 105 i.toNat) := gA_g (sC105 h) c h0 h1
theorem qC105 {s : List (Nat × Nat)} (h : SpL s) (c : Nat → Nat → Int) {i : Int} (v : Int) (h0 : 0 ≤ i) (h1 : i < 7) : pA (s, c) 0 105 i v = some (s, u2 c 105 i.toNat v) := pA_g (sC105 h) c v h0 h1
theorem lC105 {s : List (Nat × Nat)} (h : SpL s) (c : Nat → Nat → Int) : gL (s, c) 105 = some 7 := gL_g (sC105 h) (by decide) c
theorem sC106 {s : List (Nat × Nat)} (h : SpL s) : s[106]? = some (8, 4) := sp_at h (k := 77) rfl
theorem gC106 {s : List (Nat × Nat)} (h : SpL s) (c : Nat → Nat → Int) : gS (s, c) 106 = some (8, 4) := (gS_p s c 106).trans (sC106 h)
theorem fC106 {s : List (Nat × Nat)} (h : SpL s) (c : Nat → Nat → Int) {k : Nat} (hk : k < 4) : gF (s, c) 8 k 106 = some (c 106 k) := gF_g (sC106 h) c hk
theorem pC106 {s : List (Nat × Nat)} (h : SpL s) (c : Nat → Nat → Int) {k : Nat} (v : Int) (hk : k < 4) : pF (s, c) 8 k 106 v = some (s, u2 c 106 k v) := pF_g (sC106 h) c v hk
theorem sC107 {s : List (Nat × Nat)} (h : SpL s) : s[107]? = some (100, 49) := sp_at h (k := 78) rfl
theorem aC107 {s : List (Nat × Nat)} (h : SpL s) (c : Nat → Nat → Int) {i : Int} (h0 : 0 ≤ i) (h1 : i < 49) : gA (s, c) 0 107 i = some (c 107 i.toNat) := gA_g (sC107 h) c h0 h1
theorem qC107 {s : List (Nat × Nat)} (h : SpL s) (c : Nat → Nat → Int) {i : Int} (v : Int) (h0 : 0 ≤ i) (h1 : i < 49) : pA (s, c) 0 107 i v = some (s, u2 c 107 i.toNat v) := pA_g (sC107 h) c v h0 h1
theorem lC107 {s : List (Nat × Nat)} (h : SpL s) (c : Nat → Nat → Int) : gL (s, c) 107 = some 49 := gL_g (sC107 h) (by decide) c
theorem sC108 {s : List (Nat × Nat)} (h : SpL s) : s[108]? = some (8, 4) := sp_at h (k := 79) rfl
theorem gC108 {s : List (Nat × Nat)} (h : SpL s) (c : Nat → Nat → Int) : gS (s, c) 108 = some (8, 4) := (gS_p s c 108).trans (sC108 h)
theorem fC108 {s : List (Nat × Nat)} (h : SpL s) (c : Nat → Nat → Int) {k : Nat} (hk : k < 4) : gF (s, c) 8 k 108 = some (c 108 k) := gF_g (sC108 h) c hk
theorem pC108 {s : List (Nat × Nat)} (h : SpL s) (c : Nat → Nat → Int) {k : Nat} (v : Int) (hk : k < 4) : pF (s, c) 8 k 108 v = some (s, u2 c 108 k v) := pF_g (sC108 h) c v hk
theorem sC109 {s : List (Nat × Nat)} (h : SpL s) : s[109]? = some (100, 49) := sp_at h (k := 80) rfl
theorem aC109 {s : List (Nat × Nat)} (h : SpL s) (c : Nat → Nat → Int) {i : Int} (h0 : 0 ≤ i) (h1 : i < 49) : gA (s, c) 0 109 i = some (c 109 i.toNat) := gA_g (sC109 h) c h0 h1
theorem qC109 {s : List (Nat × Nat)} (h : SpL s) (c : Nat → Nat → Int) {i : Int} (v : Int) (h0 : 0 ≤ i) (h1 : i < 49) : pA (s, c) 0 109 i v = some (s, u2 c 109 i.toNat v) := pA_g (sC109 h) c v h0 h1
theorem lC109 {s : List (Nat × Nat)} (h : SpL s) (c : Nat → Nat → Int) : gL (s, c) 109 = some 49 := gL_g (sC109 h) (by decide) c
theorem sC110 {s : List (Nat × Nat)} (h : SpL s) : s[110]? = some (8, 4) := sp_at h (k := 81) rfl
theorem gC110 {s : List (Nat × Nat)} (h : SpL s) (c : Nat → Nat → Int) : gS (s, c) 110 = some (8, 4) := (gS_p s c 110).trans (sC110 h)
theorem fC110 {s : List (Nat × Nat)} (h : SpL s) (c : Nat → Nat → Int) {k : Nat} (hk : k < 4) : gF (s, c) 8 k 110 = some (c 110 k) := gF_g (sC110 h) c hk
theorem pC110 {s : List (Nat × Nat)} (h : SpL s) (c : Nat → Nat → Int) {k : Nat} (v : Int) (hk : k < 4) : pF (s, c) 8 k 110 v = some (s, u2 c 110 k v) := pF_g (sC110 h) c v hk
theorem sC111 {s : List (Nat × Nat)} (h : SpL s) : s[111]? = some (100, 49) := sp_at h (k := 82) rfl
theorem aC111 {s : List (Nat × Nat)} (h : SpL s) (c : Nat → Nat → Int) {i : Int} (h0 : 0 ≤ i) (h1 : i < 49) : gA (s, c) 0 111 i = some (c 111 i.toNat) := gA_g (sC111 h) c h0 h1
theorem qC111 {s : List (Nat × Nat)} (h : SpL s) (c : Nat → Nat → Int) {i : Int} (v : Int) (h0 : 0 ≤ i) (h1 : i < 49) : pA (s, c) 0 111 i v = some (s, u2 c 111 i.toNat v) := pA_g (sC111 h) c v h0 h1
theorem lC111 {s : List (Nat × Nat)} (h : SpL s) (c : Nat → Nat → Int) : gL (s, c) 111 = some 49 := gL_g (sC111 h) (by decide) c
theorem sC112 {s : List (Nat × Nat)} (h : SpL s) : s[112]? = some (8, 4) := sp_at h (k := 83) rfl
theorem gC112 {s : List (Nat × Nat)} (h : SpL s) (c : Nat → Nat → Int) : gS (s, c) 112 = some (8, 4) := (gS_p s c 112).trans (sC112 h)
theorem fC112 {s : List (Nat × Nat)} (h : SpL s) (c : Nat → Nat → Int) {k : Nat} (hk : k < 4) : gF (s, c) 8 k 112 = some (c 112 k) := gF_g (sC112 h) c hk
theorem pC112 {s : List (Nat × Nat)} (h : SpL s) (c : Nat → Nat → Int) {k : Nat} (v : Int) (hk : k < 4) : pF (s, c) 8 k 112 v = some (s, u2 c 112 k v) := pF_g (sC112 h) c v hk
theorem sC113 {s : List (Nat × Nat)} (h : SpL s) : s[113]? = some (100, 49) := sp_at h (k := 84) rfl
theorem aC113 {s : List (Nat × Nat)} (h : SpL s) (c : Nat → Nat → Int) {i : Int} (h0 : 0 ≤ i) (h1 : i < 49) : gA (s, c) 0 113 i = some (c 113 i.toNat) := gA_g (sC113 h) c h0 h1
theorem qC113 {s : List (Nat × Nat)} (h : SpL s) (c : Nat → Nat → Int) {i : Int} (v : Int) (h0 : 0 ≤ i) (h1 : i < 49) : pA (s, c) 0 113 i v = some (s, u2 c 113 i.toNat v) := pA_g (sC113 h) c v h0 h1
theorem lC113 {s : List (Nat × Nat)} (h : SpL s) (c : Nat → Nat → Int) : gL (s, c) 113 = some 49 := gL_g (sC113 h) (by decide) c
theorem sC114 {s : List (Nat × Nat)} (h : SpL s) : s[114]? = some (8, 4) := sp_at h (k := 85) rfl
theorem gC114 {s : List (Nat × Nat)} (h : SpL s) (c : Nat → Nat → Int) : gS (s, c) 114 = some (8, 4) := (gS_p s c 114).trans (sC114 h)
theorem fC114 {s : List (Nat × Nat)} (h : SpL s) (c : Nat → Nat → Int) {k : Nat} (hk : k < 4) : gF (s, c) 8 k 114 = some (c 114 k) := gF_g (sC114 h) c hk
theorem pC114 {s : List (Nat × Nat)} (h : SpL s) (c : Nat → Nat → Int) {k : Nat} (v : Int) (hk : k < 4) : pF (s, c) 8 k 114 v = some (s, u2 c 114 k v) := pF_g (sC114 h) c v hk
theorem sC115 {s : List (Nat × Nat)} (h : SpL s) : s[115]? = some (100, 49) := sp_at h (k := 86) rfl
theorem aC115 {s : List (Nat × Nat)} (h : SpL s) (c : Nat → Nat → Int) {i : Int} (h0 : 0 ≤ i) (h1 : i < 49) : gA (s, c) 0 115 i = some (c 115 i.toNat) := gA_g (sC115 h) c h0 h1
theorem qC115 {s : List (Nat × Nat)} (h : SpL s) (c : Nat → Nat → Int) {i : Int} (v : Int) (h0 : 0 ≤ i) (h1 : i < 49) : pA (s, c) 0 115 i v = some (s, u2 c 115 i.toNat v) := pA_g (sC115 h) c v h0 h1
theorem lC115 {s : List (Nat × Nat)} (h : SpL s) (c : Nat → Nat → Int) : gL (s, c) 115 = some 49 := gL_g (sC115 h) (by decide) c
theorem sC116 {s : List (Nat × Nat)} (h : SpL s) : s[116]? = some (8, 4) := sp_at h (k := 87) rfl
theorem gC116 {s : List (Nat × Nat)} (h : SpL s) (c : Nat → Nat → Int) : gS (s, c) 116 = some (8, 4) := (gS_p s c 116).trans (sC116 h)
theorem fC116 {s : List (Nat × Nat)} (h : SpL s) (c : Nat → Nat → Int) {k : Nat} (hk : k < 4) : gF (s, c) 8 k 116 = some (c 116 k) := gF_g (sC116 h) c hk
theorem pC116 {s : List (Nat × Nat)} (h : SpL s) (c : Nat → Nat → Int) {k : Nat} (v : Int) (hk : k < 4) : pF (s, c) 8 k 116 v = some (s, u2 c 116 k v) := pF_g (sC116 h) c v hk
theorem sC117 {s : List (Nat × Nat)} (h : SpL s) : s[117]? = some (100, 49) := sp_at h (k := 88) rfl
theorem aC117 {s : List (Nat × Nat)} (h : SpL s) (c : Nat → Nat → Int) {i : Int} (h0 : 0 ≤ i) (h1 : i < 49) : gA (s, c) 0 117 i = some (c 117 i.toNat) := gA_g (sC117 h) c h0 h1
theorem qC117 {s : List (Nat × Nat)} (h : SpL s) (c : Nat → Nat → Int) {i : Int} (v : Int) (h0 : 0 ≤ i) (h1 : i < 49) : pA (s, c) 0 117 i v = some (s, u2 c 117 i.toNat v) := pA_g (sC117 h) c v h0 h1
theorem lC117 {s : List (Nat × Nat)} (h : SpL s) (c : Nat → Nat → Int) : gL (s, c) 117 = some 49 := gL_g (sC117 h) (by decide) c
theorem sC118 {s : List (Nat × Nat)} (h : SpL s) : s[118]? = some (8, 4) := sp_at h (k := 89) rfl
theorem gC118 {s : List (Nat × Nat)} (h : SpL s) (c : Nat → Nat → Int) : gS (s, c) 118 = some (8, 4) := (gS_p s c 118).trans (sC118 h)
theorem fC118 {s : List (Nat × Nat)} (h : SpL s) (c : Nat → Nat → Int) {k : Nat} (hk : k < 4) : gF (s, c) 8 k 118 = some (c 118 k) := gF_g (sC118 h) c hk
theorem pC118 {s : List (Nat × Nat)} (h : SpL s) (c : Nat → Nat → Int) {k : Nat} (v : Int) (hk : k < 4) : pF (s, c) 8 k 118 v = some (s, u2 c 118 k v) := pF_g (sC118 h) c v hk
theorem sC119 {s : List (Nat × Nat)} (h : SpL s) : s[119]? = some (100, 49) := sp_at h (k := 90) rfl
theorem aC119 {s : List (Nat × Nat)} (h : SpL s) (c : Nat → Nat → Int) {i : Int} (h0 : 0 ≤ i) (h1 : i < 49) : gA (s, c) 0 119 i = some (c 119 i.toNat) := gA_g (sC119 h) c h0 h1
theorem qC119 {s : List (Nat × Nat)} (h : SpL s) (c : Nat → Nat → Int) {i : Int} (v : Int) (h0 : 0 ≤ i) (h1 : i < 49) : pA (s, c) 0 119 i v = some (s, u2 c 119 i.toNat v) := pA_g (sC119 h) c v h0 h1
theorem lC119 {s : List (Nat × Nat)} (h : SpL s) (c : Nat → Nat → Int) : gL (s, c) 119 = some 49 := gL_g (sC119 h) (by decide) c
theorem sC120 {s : List (Nat × Nat)} (h : SpL s) : s[120]? = some (8, 4) := sp_at h (k := 91) rfl
theorem gC120 {s : List (Nat × Nat)} (h : SpL s) (c : Nat → Nat → Int) : gS (s, c) 120 = some (8, 4) := (gS_p s c 120).trans (sC120 h)
theorem fC120 {s : List (Nat × Nat)} (h : SpL s) (c : Nat → Nat → Int) {k : Nat} (hk : k < 4) : gF (s, c) 8 k 120 = some (c 120 k) := gF_g (sC120 h) c hk
theorem pC120 {s : List (Nat × Nat)} (h : SpL s) (c : Nat → Nat → Int) {k : Nat} (v : Int) (hk : k < 4) : pF (s, c) 8 k 120 v = some (s, u2 c 120 k v) := pF_g (sC120 h) c v hk
theorem sC121 {s : List (Nat × Nat)} (h : SpL s) : s[121]? = some (100, 49) := sp_at h (k := 92) rfl
theorem aC121 {s : List (Nat × Nat)} (h : SpL s) (c : Nat → Nat → Int) {i : Int} (h0 : 0 ≤ i) (h1 : i < 49) : gA (s, c) 0 121 i = some (c 121 i.toNat) := gA_g (sC121 h) c h0 h1
theorem qC121 {s : List (Nat × Nat)} (h : SpL s) (c : Nat → Nat → Int) {i : Int} (v : Int) (h0 : 0 ≤ i) (h1 : i < 49) : pA (s, c) 0 121 i v = some (s, u2 c 121 i.toNat v) := pA_g (sC121 h) c v h0 h1
theorem lC121 {s : List (Nat × Nat)} (h : SpL s) (c : Nat → Nat → Int) : gL (s, c) 121 = some 49 := gL_g (sC121 h) (by decide) c
theorem sC122 {s : List (Nat × Nat)} (h : SpL s) : s[122]? = some (6, 14) := sp_at h (k := 93) rfl
theorem gC122 {s : List (Nat × Nat)} (h : SpL s) (c : Nat → Nat → Int) : gS (s, c) 122 = some (6, 14) := (gS_p s c 122).trans (sC122 h)
theorem fC122 {s : List (Nat × Nat)} (h : SpL s) (c : Nat → Nat → Int) {k : Nat} (hk : k < 14) : gF (s, c) 6 k 122 = some (c 122 k) := gF_g (sC122 h) c hk
theorem pC122 {s : List (Nat × Nat)} (h : SpL s) (c : Nat → Nat → Int) {k : Nat} (v : Int) (hk : k < 14) : pF (s, c) 6 k 122 v = some (s, u2 c 122 k v) := pF_g (sC122 h) c v hk
theorem sC123 {s : List (Nat × Nat)} (h : SpL s) : s[123]? = some (100, 300) := sp_at h (k := 94) rfl
theorem aC123 {s : List (Nat × Nat)} (h : SpL s) (c : Nat → Nat → Int) {i : Int} (h0 : 0 ≤ i) (h1 : i < 300) : gA (s, c) 0 123 i = some (c 123 i.toNat) := gA_g (sC123 h) c h0 h1
theorem qC123 {s : List (Nat × Nat)} (h : SpL s) (c : Nat → Nat → Int) {i : Int} (v : Int) (h0 : 0 ≤ i) (h1 : i < 300) : pA (s, c) 0 123 i v = some (s, u2 c 123 i.toNat v) := pA_g (sC123 h) c v h0 h1
theorem lC123 {s : List (Nat × Nat)} (h : SpL s) (c : Nat → Nat → Int) : gL (s, c) 123 = some 300 := gL_g (sC123 h) (by decide) c
theorem sC124 {s : List (Nat × Nat)} (h : SpL s) : s[124]? = some (100, 301) := sp_at h (k := 95) rfl
theorem aC124 {s : List (Nat × Nat)} (h : SpL s) (c : Nat → Nat → Int) {i : Int} (h0 : 0 ≤ i) (h1 : i < 301) : gA (s, c) 0 124 i = some (c 124 i.toNat) := gA_g (sC124 h) c h0 h1
theorem qC124 {s : List (Nat × Nat)} (h : SpL s) (c : Nat → Nat → Int) {i : Int} (v : Int) (h0 : 0 ≤ i) (h1 : i < 301) : pA (s, c) 0 124 i v = some (s, u2 c 124 i.toNat v) := pA_g (sC124 h) c v h0 h1
theorem lC124 {s : List (Nat × Nat)} (h : SpL s) (c : Nat → Nat → Int) : gL (s, c) 124 = some 301 := gL_g (sC124 h) (by decide) c
theorem sC125 {s : List (Nat × Nat)} (h : SpL s) : s[125]? = some (100, 301) := sp_at h (k := 96) rfl
theorem aC125 {s : List (Nat × Nat)} (h : SpL s) (c : Nat → Nat → Int) {i : Int} (h0 : 0 ≤ i) (h1 : i < 301) : gA (s, c) 0 125 i = some (c 125 i.toNat) := gA_g (sC125 h) c h0 h1
theorem qC125 {s : List (Nat × Nat)} (h : SpL s) (c : Nat → Nat → Int) {i : Int} (v : Int) (h0 : 0 ≤ i) (h1 : i < 301) : pA (s, c) 0 125 i v = some (s, u2 c 125 i.toNat v) := pA_g (sC125 h) c v h0 h1
theorem lC125 {s : List (Nat × Nat)} (h : SpL s) (c : Nat → Nat → Int) : gL (s, c) 125 = some 301 := gL_g (sC125 h) (by decide) c
theorem sC126 {s : List (Nat × Nat)} (h : SpL s) : s[126]? = some (100, 301) := sp_at h (k := 97) rfl
theorem aC126 {s : List (Nat × Nat)} (h : SpL s) (c : Nat → Nat → Int) {i : Int} (h0 : 0 ≤ i) (h1 : i < 301) : gA (s, c) 0 126 i = some (c 126 i.toNat) := gA_g (sC126 h) c h0 h1
theorem qC126 {s : List (Nat × Nat)} (h : SpL s) (c : Nat → Nat → Int) {i : Int} (v : Int) (h0 : 0 ≤ i) (h1 : i < 301) : pA (s, c) 0 126 i v = some (s, u2 c 126 i.toNat v) := pA_g (sC126 h) c v h0 h1
theorem lC126 {s : List (Nat × Nat)} (h : SpL s) (c : Nat → Nat → Int) : gL (s, c) 126 = some 301 := gL_g (sC126 h) (by decide) c
theorem sC127 {s : List (Nat × Nat)} (h : SpL s) : s[127]? = some (2, 8) := sp_at h (k := 98) rfl
theorem gC127 {s : List (Nat × Nat)} (h : SpL s) (c : Nat → Nat → Int) : gS (s, c) 127 = some (2, 8) := (gS_p s c 127).trans (sC127 h)
theorem fC127 {s : List (Nat × Nat)} (h : SpL s) (c : Nat → Nat → Int) {k : Nat} (hk : k < 8) : gF (s, c) 2 k 127 = some (c 127 k) := gF_g (sC127 h) c hk
theorem pC127 {s : List (Nat × Nat)} (h : SpL s) (c : Nat → Nat → Int) {k : Nat} (v : Int) (hk : k < 8) : pF (s, c) 2 k 127 v = some (s, u2 c 127 k v) := pF_g (sC127 h) c v hk
theorem sC128 {s : List (Nat × Nat)} (h : SpL s) : s[128]? = some (100, 300) := sp_at h (k := 99) rfl
theorem aC128 {s : List (Nat × Nat)} (h : SpL s) (c : Nat → Nat → Int) {i : Int} (h0 : 0 ≤ i) (h1 : i < 300) : gA (s, c) 0 128 i = some (c 128 i.toNat) := gA_g (sC128 h) c h0 h1
theorem qC128 {s : List (Nat × Nat)} (h : SpL s) (c : Nat → Nat → Int) {i : Int} (v : Int) (h0 : 0 ≤ i) (h1 : i < 300) : pA (s, c) 0 128 i v = some (s, u2 c 128 i.toNat v) := pA_g (sC128 h) c v h0 h1
theorem lC128 {s : List (Nat × Nat)} (h : SpL s) (c : Nat → Nat → Int) : gL (s, c) 128 = some 300 := gL_g (sC128 h) (by decide) c
theorem sC129 {s : List (Nat × Nat)} (h : SpL s) : s[129]? = some (100, 300) := sp_at h (k := 100) rfl
theorem aC129 {s : List (Nat × Nat)} (h : SpL s) (c : Nat → Nat → Int) {i : Int} (h0 : 0 ≤ i) (h1 : i < 300) : gA (s, c) 0 129 i = some (c 129 i.toNat) := gA_g (sC129 h) c h0 h1
theorem qC129 {s : List (Nat × Nat)} (h : SpL s) (c : Nat → Nat → Int) {i : Int} (v : Int) (h0 : 0 ≤ i) (h1 : i < 300) : pA (s, c) 0 129 i v = some (s, u2 c 129 i.toNat v) := pA_g (sC129 h) c v h0 h1
theorem lC129 {s : List (Nat × Nat)} (h : SpL s) (c : Nat → Nat → Int) : gL (s, c) 129 = some 300 := gL_g (sC129 h) (by decide) c
theorem sC130 {s : List (Nat × Nat)} (h : SpL s) : s[130]? = some (101, 300) := sp_at h (k := 101) rfl
theorem aC130 {s : List (Nat × Nat)} (h : SpL s) (c : Nat → Nat → Int) {i : Int} (h0 : 0 ≤ i) (h1 : i < 300) : gA (s, c) 1 130 i = some (c 130 i.toNat) := gA_g (sC130 h) c h0 h1
theorem qC130 {s : List (Nat × Nat)} (h : SpL s) (c : Nat → Nat → Int) {i : Int} (v : Int) (h0 : 0 ≤ i) (h1 : i < 300) : pA (s, c) 1 130 i v = some (s, u2 c 130 i.toNat v) := pA_g (sC130 h) c v h0 h1
theorem lC130 {s : List (Nat × Nat)} (h : SpL s) (c : Nat → Nat → Int) : gL (s, c) 130 = some 300 := gL_g (sC130 h) (by decide) c
theorem sC131 {s : List (Nat × Nat)} (h : SpL s) : s[131]? = some (4, 17) := sp_at h (k := 102) rfl
theorem gC131 {s : List (Nat × Nat)} (h : SpL s) (c : Nat → Nat → Int) : gS (s, c) 131 = some (4, 17) := (gS_p s c 131).trans (sC131 h)
theorem fC131 {s : List (Nat × Nat)} (h : SpL s) (c : Nat → Nat → Int) {k : Nat} (hk : k < 17) : gF (s, c) 4 k 131 = some (c 131 k) := gF_g (sC131 h) c hk
theorem pC131 {s : List (Nat × Nat)} (h : SpL s) (c : Nat → Nat → Int) {k : Nat} (v : Int) (hk : k < 17) : pF (s, c) 4 k 131 v = some (s, u2 c 131 k v) := pF_g (sC131 h) c v hk
theorem sC132 {s : List (Nat × Nat)} (h : SpL s) : s[132]? = some (100, 21) := sp_at h (k := 103) rfl
theorem aC132 {s : List (Nat × Nat)} (h : SpL s) (c : Nat → Nat → Int) {i : Int} (h0 : 0 ≤ i) (h1 : i < 21) : gA (s, c) 0 132 i = some (c 132 i.toNat) := gA_g (sC132 h) c h0 h1
theorem qC132 {s : List (Nat × Nat)} (h : SpL s) (c : Nat → Nat → Int) {i : Int} (v : Int) (h0 : 0 ≤ i) (h1 : i < 21) : pA (s, c) 0 132 i v = some (s, u2 c 132 i.toNat v) := pA_g (sC132 h) c v h0 h1
theorem lC132 {s : List (Nat × Nat)} (h : SpL s) (c : Nat → Nat → Int) : gL (s, c) 132 = some 21 := gL_g (sC132 h) (by decide) c
theorem sC133 {s : List (Nat × Nat)} (h : SpL s) : s[133]? = some (100, 21) := sp_at h (k := 104) rfl
theorem aC133 {s : List (Nat × Nat)} (h : SpL s) (c : Nat → Nat → Int) {i : Int} (h0 : 0 ≤ i) (h1 : i < 21) : gA (s, c) 0 133 i = some (c 133 i.toNat) := gA_g (sC133 h) c h0 h1
theorem qC133 {s : List (Nat × Nat)} (h : SpL s) (c : Nat → Nat → Int) {i : Int} (v : Int) (h0 : 0 ≤ i) (h1 : i < 21) : pA (s, c) 0 133 i v = some (s, u2 c 133 i.toNat v) := pA_g (sC133 h) c v h0 h1
theorem lC133 {s : List (Nat × Nat)} (h : SpL s) (c : Nat → Nat → Int) : gL (s, c) 133 = some 21 := gL_g (sC133 h) (by decide) c
theorem sC134 {s : List (Nat × Nat)} (h : SpL s) : s[134]? = some (100, 21) := sp_at h (k := 105) rfl
theorem aC134 {s : List (Nat × Nat)} (h : SpL s) (c : Nat → Nat → Int) {i : Int} (h0 : 0 ≤ i) (h1 : i < 21) : gA (s, c) 0 134 i = some (c 134 i.toNat) := gA_g (sC134 h) c h0 h1
theorem qC134 {s : List (Nat × Nat)} (h : SpL s) (c : Nat → Nat → Int) {i : Int} (v : Int) (h0 : 0 ≤ i) (h1 : i < 21) : pA (s, c) 0 134 i v = some (s, u2 c 134 i.toNat v) := pA_g (sC134 h) c v h0 h1
theorem lC134 {s : List (Nat × Nat)} (h : SpL s) (c : Nat → Nat → Int) : gL (s, c) 134 = some 21 := gL_g (sC134 h) (by decide) c
theorem sC135 {s : List (Nat × Nat)} (h : SpL s) : s[135]? = some (100, 81) := sp_at h (k := 106) rfl
theorem aC135 {s : List (Nat × Nat)} (h : SpL s) (c : Nat → Nat → Int) {i : Int} (h0 : 0 ≤ i) (h1 : i < 81) : gA (s, c) 0 135 i = some (c 135 i.toNat) := gA_g (sC135 h) c h0 h1
theorem qC135 {s : List (Nat × Nat)} (h : SpL s) (c : Nat → Nat → Int) {i : Int} (v : Int) (h0 : 0 ≤ i) (h1 : i < 81) : pA (s, c) 0 135 i v = some (s, u2 c 135 i.toNat v) := pA_g (sC135 h) c v h0 h1
theorem lC135 {s : List (Nat × Nat)} (h : SpL s) (c : Nat → Nat → Int) : gL (s, c) 135 = some 81 := gL_g (sC135 h) (by decide) c
theorem sC136 {s : List (Nat × Nat)} (h : SpL s) : s[136]? = some (100, 189) := sp_at h (k := 107) rfl
theorem aC136 {s : List (Nat × Nat)} (h : SpL s) (c : Nat → Nat → Int) {i : Int} (h0 : 0 ≤ i) (h1 : i < 189) : gA (s, c) 0 136 i = some (c 136 i.toNat) := gA_g (sC136 h) c h0 h1
theorem qC136 {s : List (Nat × Nat)} (h : SpL s) (c : Nat → Nat → Int) {i : Int} (v : Int) (h0 : 0 ≤ i) (h1 : i < 189) : pA (s, c) 0 136 i v = some (s, u2 c 136 i.toNat v) := pA_g (sC136 h) c v h0 h1
theorem lC136 {s : List (Nat × Nat)} (h : SpL s) (c : Nat → Nat → Int) : gL (s, c) 136 = some 189 := gL_g (sC136 h) (by decide) c
theorem sC137 {s : List (Nat × Nat)} (h : SpL s) : s[137]? = some (100, 49) := sp_at h (k := 108) rfl
theorem aC137 {s : List (Nat × Nat)} (h : SpL s) (c : Nat → Nat → Int) {i : Int} (h0 : 0 ≤ i) (h1 : i < 49) : gA (s, c) 0 137 i = some (c 137 i.toNat) := gA_g (sC137 h) c h0 h1
theorem qC137 {s : List (Nat × Nat)} (h : SpL s) (c : Nat → Nat → Int) {i : Int} (v : Int) (h0 : 0 ≤ i) (h1 : i < 49) : pA (s, c) 0 137 i v = some (s, u2 c 137 i.toNat v) := pA_g (sC137 h) c v h0 h1
theorem lC137 {s : List (Nat × Nat)} (h : SpL s) (c : Nat → Nat → Int) : gL (s, c) 137 = some 49 := gL_g (sC137 h) (by decide) c
theorem sC138 {s : List (Nat × Nat)} (h : SpL s) : s[138]? = some (5, 2) := sp_at h (k := 109) rfl
theorem gC138 {s : List (Nat × Nat)} (h : SpL s) (c : Nat → Nat → Int) : gS (s, c) 138 = some (5, 2) := (gS_p s c 138).trans (sC138 h)
theorem fC138 {s : List (Nat × Nat)} (h : SpL s) (c : Nat → Nat → Int) {k : Nat} (hk : k < 2) : gF (s, c) 5 k 138 = some (c 138 k) := gF_g (sC138 h) c hk
theorem pC138 {s : List (Nat × Nat)} (h : SpL s) (c : Nat → Nat → Int) {k : Nat} (v : Int) (hk : k < 2) : pF (s, c) 5 k 138 v = some (s, u2 c 138 k v) := pF_g (sC138 h) c v hk
theorem sC139 {s : List (Nat × Nat)} (h : SpL s) : s[139]? = some (100, 120) := sp_at h (k := 110) rfl
theorem aC139 {s : List (Nat × Nat)} (h : SpL s) (c : Nat → Nat → Int) {i : Int} (h0 : 0 ≤ i) (h1 : i < 120) : gA (s, c) 0 139 i = some (c 139 i.toNat) := gA_g (sC139 h) c h0 h1
theorem qC139 {s : List (Nat × Nat)} (h : SpL s) (c : Nat → Nat → Int) {i : Int} (v : Int) (h0 : 0 ≤ i) (h1 : i < 120) : pA (s, c) 0 139 i v = some (s, u2 c 139 i.toNat v) := pA_g (sC139 h) c v h0 h1
theorem lC139 {s : List (Nat × Nat)} (h : SpL s) (c : Nat → Nat → Int) : gL (s, c) 139 = some 120 := gL_g (sC139 h) (by decide) c
theorem sC140 {s : List (Nat × Nat)} (h : SpL s) : s[140]? = some (5, 2) := sp_at h (k := 111) rfl
theorem gC140 {s : List (Nat × Nat)} (h : SpL s) (c : Nat → Nat → Int) : gS (s, c) 140 = some (5, 2) := (gS_p s c 140).trans (sC140 h)
theorem fC140 {s : List (Nat × Nat)} (h : SpL s) (c : Nat → Nat → Int) {k : Nat} (hk : k < 2) : gF (s, c) 5 k 140 = some (c 140 k) := gF_g (sC140 h) c hk
theorem pC140 {s : List (Nat × Nat)} (h : SpL s) (c : Nat → Nat → Int) {k : Nat} (v : Int) (hk : k < 2) : pF (s, c) 5 k 140 v = some (s, u2 c 140 k v) := pF_g (sC140 h) c v hk
theorem sC141 {s : List (Nat × Nat)} (h : SpL s) : s[141]? = some (100, 120) := sp_at h (k := 112) rfl
theorem aC141 {s : List (Nat × Nat)} (h : SpL s) (c : Nat → Nat → Int) {i : Int} (h0 : 0 ≤ i) (h1 : i < 120) : gA (s, c) 0 141 i = some (c 141 i.toNat) := gA_g (sC141 h) c h0 h1
theorem qC141 {s : List (Nat × Nat)} (h : SpL s) (c : Nat → Nat → Int) {i : Int} (v : Int) (h0 : 0 ≤ i) (h1 : i < 120) : pA (s, c) 0 141 i v = some (s, u2 c 141 i.toNat v) := pA_g (sC141 h) c v h0 h1
theorem lC141 {s : List (Nat × Nat)} (h : SpL s) (c : Nat → Nat → Int) : gL (s, c) 141 = some 120 := gL_g (sC141 h) (by decide) c
theorem sC142 {s : List (Nat × Nat)} (h : SpL s) : s[142]? = some (12, 44) := sp_at h (k := 113) rfl
theorem gC142 {s : List (Nat × Nat)} (h : SpL s) (c : Nat → Nat → Int) : gS (s, c) 142 = some (12, 44) := (gS_p s c 142).trans (sC142 h)
theorem fC142 {s : List (Nat × Nat)} (h : SpL s) (c : Nat → Nat → Int) {k : Nat} (hk : k < 44) : gF (s, c) 12 k 142 = some (c 142 k) := gF_g (sC142 h) c hk
theorem pC142 {s : List (Nat × Nat)} (h : SpL s) (c : Nat → Nat → Int) {k : Nat} (v : Int) (hk : k < 44) : pF (s, c) 12 k 142 v = some (s, u2 c 142 k v) := pF_g (sC142 h) c v hk
theorem sC143 {s : List (Nat × Nat)} (h : SpL s) : s[143]? = some (100, 340) := sp_at h (k := 114) rfl
theorem aC143 {s : List (Nat × Nat)} (h : SpL s) (c : Nat → Nat → Int) {i : Int} (h0 : 0 ≤ i) (h1 : i < 340) : gA (s, c) 0 143 i = some (c 143 i.toNat) := gA_g (sC143 h) c h0 h1
theorem qC143 {s : List (Nat × Nat)} (h : SpL s) (c : Nat → Nat → Int) {i : Int} (v : Int) (h0 : 0 ≤ i) (h1 : i < 340) : pA (s, c) 0 143 i v = some (s, u2 c 143 i.toNat v) := pA_g (sC143 h) c v h0 h1
theorem lC143 {s : List (Nat × Nat)} (h : SpL s) (c : Nat → Nat → Int) : gL (s, c) 143 = some 340 := gL_g (sC143 h) (by decide) c
theorem sC144 {s : List (Nat × Nat)} (h : SpL s) : s[144]? = some (100, 340) := sp_at h (k := 115) rfl
theorem aC144 {s : List (Nat × Nat)} (h : SpL s) (c : Nat → Nat → Int) {i : Int} (h0 : 0 ≤ i) (h1 : i < 340) : gA (s, c) 0 144 i = some (c 144 i.toNat) := gA_g (sC144 h) c h0 h1
theorem qC144 {s : List (Nat × Nat)} (h : SpL s) (c : Nat → Nat → Int) {i : Int} (v : Int) (h0 : 0 ≤ i) (h1 : i < 340) : pA (s, c) 0 144 i v = some (s, u2 c 144 i.toNat v) := pA_g (sC144 h) c v h0 h1
theorem lC144 {s : List (Nat × Nat)} (h : SpL s) (c : Nat → Nat → Int) : gL (s, c) 144 = some 340 := gL_g (sC144 h) (by decide) c
theorem sC145 {s : List (Nat × Nat)} (h : SpL s) : s[145]? = some (100, 6400) := sp_at h (k := 116) rfl
theorem aC145 {s : List (Nat × Nat)} (h : SpL s) (c : Nat → Nat → Int) {i : Int} (h0 : 0 ≤ i) (h1 : i < 6400) : gA (s, c) 0 145 i = some (c 145 i.toNat) := gA_g (sC145 h) c h0 h1
theorem qC145 {s : List (Nat × Nat)} (h : SpL s) (c : Nat → Nat → Int) {i : Int} (v : Int) (h0 : 0 ≤ i) (h1 : i < 6400) : pA (s, c) 0 145 i v = some (s, u2 c 145 i.toNat v) := pA_g (sC145 h) c v h0 h1
theorem lC145 {s : List (Nat × Nat)} (h : SpL s) (c : Nat → Nat → Int) : gL (s, c) 145 = some 6400 := gL_g (sC145 h) (by decide) c
theorem sC146 {s : List (Nat × Nat)} (h : SpL s) : s[146]? = some (100, 18) := sp_at h (k := 117) rfl
theorem aC146 {s : List (Nat × Nat)} (h : SpL s) (c : Nat → Nat → Int) {i : Int} (h0 : 0 ≤ i) (h1 : i < 18) : gA (s, c) 0 146 i = some (c 146 i.toNat) := gA_g (sC146 h) c h0 h1
theorem qC146 {s : List (Nat × Nat)} (h : SpL s) (c : Nat → Nat → Int) {i : Int} (v : Int) (h0 : 0 ≤ i) (h1 : i < 18) : pA (s, c) 0 146 i v = some (s, u2 c 146 i.toNat v) := pA_g (sC146 h) c v h0 h1
theorem lC146 {s : List (Nat × Nat)} (h : SpL s) (c : Nat → Nat → Int) : gL (s, c) 146 = some 18 := gL_g (sC146 h) (by decide) c
theorem sC147 {s : List (Nat × Nat)} (h : SpL s) : s[147]? = some (100, 8) := sp_at h (k := 118) rfl
theorem aC147 {s : List (Nat × Nat)} (h : SpL s) (c : Nat → Nat → Int) {i : Int} (h0 : 0 ≤ i) (h1 : i < 8) : gA (s, c) 0 147 i = some (c 147 i.toNat) := gA_g (sC147 h) c h0 h1
theorem qC147 {s : List (Nat × Nat)} (h : SpL s) (c : Nat → Nat → Int) {i : Int} (v : Int) (h0 : 0 ≤ i) (h1 : i < 8) : pA (s, c) 0 147 i v = some (s, u2 c 147 i.toNat v) := pA_g (sC147 h) c v h0 h1
theorem lC147 {s : List (Nat × Nat)} (h : SpL s) (c : Nat → Nat → Int) : gL (s, c) 147 = some 8 := gL_g (sC147 h) (by decide) c
theorem sC148 {s : List (Nat × Nat)} (h : SpL s) : s[148]? = some (100, 2187) := sp_at h (k := 119) rfl
theorem aC148 {s : List (Nat × Nat)} (h : SpL s) (c : Nat → Nat → Int) {i : Int} (h0 : 0 ≤ i) (h1 : i < 2187) : gA (s, c) 0 148 i = some (c 148 i.toNat) := gA_g (sC148 h) c h0 h1
theorem qC148 {s : List (Nat × Nat)} (h : SpL s) (c : Nat → Nat → Int) {i : Int} (v : Int) (h0 : 0 ≤ i) (h1 : i < 2187) : pA (s, c) 0 148 i v = some (s, u2 c 148 i.toNat v) := pA_g (sC148 h) c v h0 h1
theorem lC148 {s : List (Nat × Nat)} (h : SpL s) (c : Nat → Nat → Int) : gL (s, c) 148 = some 2187 := gL_g (sC148 h) (by decide) c
theorem sC149 {s : List (Nat × Nat)} (h : SpL s) : s[149]? = some (100, 7) := sp_at h (k := 120) rfl
theorem aC149 {s : List (Nat × Nat)} (h : SpL s) (c : Nat → Nat → Int) {i : Int} (h0 : 0 ≤ i) (h1 : i < 7) : gA (s, c) 0 149 i = some (c 149 i.toNat) := gA_g (sC149 h) c h0 h1
theorem qC149 {s : List (Nat × Nat)} (h : SpL s) (c : Nat → Nat → Int) {i : Int} (v : Int) (h0 : 0 ≤ i) (h1 : i < 7) : pA (s, c) 0 149 i v = some (s, u2 c 149 i.toNat v) := pA_g (sC149 h) c v h0 h1
theorem lC149 {s : List (Nat × Nat)} (h : SpL s) (c : Nat → Nat → Int) : gL (s, c) 149 = some 7 := gL_g (sC149 h) (by decide) c
theorem sC150 {s : List (Nat × Nat)} (h : SpL s) : s[150]? = some (100, 300) := sp_at h (k := 121) rfl
theorem aC150 {s : List (Nat × Nat)} (h : SpL s) (c : Nat → Nat → Int) {i : Int} (h0 : 0 ≤ i) (h1 : i < 300) : gA (s, c) 0 150 i = some (c 150 i.toNat) := gA_g (sC150 h) c h0 h1
theorem qC150 {s : List (Nat × Nat)} (h : SpL s) (c : Nat → Nat → Int) {i : Int} (v : Int) (h0 : 0 ≤ i) (h1 : i < 300) : pA (s, c) 0 150 i v = some (s, u2 c 150 i.toNat v) := pA_g (sC150 h) c v h0 h1
theorem lC150 {s : List (Nat × Nat)} (h : SpL s) (c : Nat → Nat → Int) : gL (s, c) 150 = some 300 := gL_g (sC150 h) (by decide) c
theorem sC151 {s : List (Nat × Nat)} (h : SpL s) : s[151]? = some (100, 160) := sp_at h (k := 122) rfl
theorem aC151 {s : List (Nat × Nat)} (h : SpL s) (c : Nat → Nat → Int) {i : Int} (h0 : 0 ≤ i) (h1 : i < 160) : gA (s, c) 0 151 i = some (c 151 i.toNat) := gA_g (sC151 h) c h0 h1
theorem qC151 {s : List (Nat × Nat)} (h : SpL s) (c : Nat → Nat → Int) {i : Int} (v : Int) (h0 : 0 ≤ i) (h1 : i < 160) : pA (s, c) 0 151 i v = some (s, u2 c 151 i.toNat v) := pA_g (sC151 h) c v h0 h1
theorem lC151 {s : List (Nat × Nat)} (h : SpL s) (c : Nat → Nat → Int) : gL (s, c) 151 = some 160 := gL_g (sC151 h) (by decide) c
theorem sC152 {s : List (Nat × Nat)} (h : SpL s) : s[152]? = some (100, 4) := sp_at h (k := 123) rfl
theorem aC152 {s : List (Nat × Nat)} (h : SpL s) (c : Nat → Nat → Int) {i : Int} (h0 : 0 ≤ i) (h1 : i < 4) : gA (s, c) 0 152 i = some (c 152 i.toNat) := gA_g (sC152 h) c h0 h1
theorem qC152 {s : List (Nat × Nat)} (h : SpL s) (c : Nat → Nat → Int) {i : Int} (v : Int) (h0 : 0 ≤ i) (h1 : i < 4) : pA (s, c) 0 152 i v = some (s, u2 c 152 i.toNat v) := pA_g (sC152 h) c v h0 h1
theorem lC152 {s : List (Nat × Nat)} (h : SpL s) (c : Nat → Nat → Int) : gL (s, c) 152 = some 4 := gL_g (sC152 h) (by decide) c
theorem sC153 {s : List (Nat × Nat)} (h : SpL s) : s[153]? = some (101, 330) := sp_at h (k := 124) rfl
theorem aC153 {s : List (Nat × Nat)} (h : SpL s) (c : Nat → Nat → Int) {i : Int} (h0 : 0 ≤ i) (h1 : i < 330) : gA (s, c) 1 153 i = some (c 153 i.toNat) := gA_g (sC153 h) c h0 h1
theorem qC153 {s : List (Nat × Nat)} (h : SpL s) (c : Nat → Nat → Int) {i : Int} (v : Int) (h0 : 0 ≤ i) (h1 : i < 330) : pA (s, c) 1 153 i v = some (s, u2 c 153 i.toNat v) := pA_g (sC153 h) c v h0 h1
theorem lC153 {s : List (Nat × Nat)} (h : SpL s) (c : Nat → Nat → Int) : gL (s, c) 153 = some 330 := gL_g (sC153 h) (by decide) c
theorem sC154 {s : List (Nat × Nat)} (h : SpL s) : s[154]? = some (102, 330) := sp_at h (k := 125) rfl
theorem aC154 {s : List (Nat × Nat)} (h : SpL s) (c : Nat → Nat → Int) {i : Int} (h0 : 0 ≤ i) (h1 : i < 330) : gA (s, c) 2 154 i = some (c 154 i.toNat) := gA_g (sC154 h) c h0 h1
theorem qC154 {s : List (Nat × Nat)} (h : SpL s) (c : Nat → Nat → Int) {i : Int} (v : Int) (h0 : 0 ≤ i) (h1 : i < 330) : pA (s, c) 2 154 i v = some (s, u2 c 154 i.toNat v) := pA_g (sC154 h) c v h0 h1
theorem lC154 {s : List (Nat × Nat)} (h : SpL s) (c : Nat → Nat → Int) : gL (s, c) 154 = some 330 := gL_g (sC154 h) (by decide) c
theorem sC155 {s : List (Nat × Nat)} (h : SpL s) : s[155]? = some (100, 200) := sp_at h (k := 126) rfl
theorem aC155 {s : List (Nat × Nat)} (h : SpL s) (c : Nat → Nat → Int) {i : Int} (h0 : 0 ≤ i) (h1 : i < 200) : gA (s, c) 0 155 i = some (c 155 i.toNat) := gA_g (sC155 h) c h0 h1
theorem qC155 {s : List (Nat × Nat)} (h : SpL s) (c : Nat → Nat → Int) {i : Int} (v : Int) (h0 : 0 ≤ i) (h1 : i < 200) : pA (s, c) 0 155 i v = some (s, u2 c 155 i.toNat v) := pA_g (sC155 h) c v h0 h1
theorem lC155 {s : List (Nat × Nat)} (h : SpL s) (c : Nat → Nat → Int) : gL (s, c) 155 = some 200 := gL_g (sC155 h) (by decide) c
theorem sC156 {s : List (Nat × Nat)} (h : SpL s) : s[156]? = some (100, 200) := sp_at h (k := 127) rfl
theorem aC156 {s : List (Nat × Nat)} (h : SpL s) (c : Nat → Nat → Int) {i : Int} (h0 : 0 ≤ i) (h1 : i < 200) : gA (s, c) 0 156 i = some (c 156 i.toNat) := gA_g (sC156 h) c h0 h1
theorem qC156 {s : List (Nat × Nat)} (h : SpL s) (c : Nat → Nat → Int) {i : Int} (v : Int) (h0 : 0 ≤ i) (h1 : i < 200) : pA (s, c) 0 156 i v = some (s, u2 c 156 i.toNat v) := pA_g (sC156 h) c v h0 h1
theorem lC156 {s : List (Nat × Nat)} (h : SpL s) (c : Nat → Nat → Int) : gL (s, c) 156 = some 200 := gL_g (sC156 h) (by decide) c
theorem sC157 {s : List (Nat × Nat)} (h : SpL s) : s[157]? = some (100, 81) := sp_at h (k := 128) rfl
theorem aC157 {s : List (Nat × Nat)} (h : SpL s) (c : Nat → Nat → Int) {i : Int} (h0 : 0 ≤ i) (h1 : i < 81) : gA (s, c) 0 157 i = some (c 157 i.toNat) := gA_g (sC157 h) c h0 h1
theorem qC157 {s : List (Nat × Nat)} (h : SpL s) (c : Nat → Nat → Int) {i : Int} (v : Int) (h0 : 0 ≤ i) (h1 : i < 81) : pA (s, c) 0 157 i v = some (s, u2 c 157 i.toNat v) := pA_g (sC157 h) c v h0 h1
theorem lC157 {s : List (Nat × Nat)} (h : SpL s) (c : Nat → Nat → Int) : gL (s, c) 157 = some 81 := gL_g (sC157 h) (by decide) c
theorem sC158 {s : List (Nat × Nat)} (h : SpL s) : s[158]? = some (100, 81) := sp_at h (k := 129) rfl
theorem aC158 {s : List (Nat × Nat)} (h : SpL s) (c : Nat → Nat → Int) {i : Int} (h0 : 0 ≤ i) (h1 : i < 81) : gA (s, c) 0 158 i = some (c 158 i.toNat) := gA_g (sC158 h) c h0 h1
theorem qC158 {s : List (Nat × Nat)} (h : SpL s) (c : Nat → Nat → Int) {i : Int} (v : Int) (h0 : 0 ≤ i) (h1 : i < 81) : pA (s, c) 0 158 i v = some (s, u2 c 158 i.toNat v) := pA_g (sC158 h) c v h0 h1
theorem lC158 {s : List (Nat × Nat)} (h : SpL s) (c : Nat → Nat → Int) : gL (s, c) 158 = some 81 := gL_g (sC158 h) (by decide) c
theorem aC2 {s : List (Nat × Nat)} (h : SpL s) (c : Nat → Nat → Int) {i : Int} (h0 : 0 ≤ i) (h1 : i < 18) : gA (s, c) 0 2 i = some (c 2 i.toNat) := gA_x (o := 2) (n := 18) (sp_x h (k := 0) (by decide) (by decide +kernel)) c h0 h1
theorem aC3 {s : List (Nat × Nat)} (h : SpL s) (c : Nat → Nat → Int) {i : Int} (h0 : 0 ≤ i) (h1 : i < 9) : gA (s, c) 0 3 i = some (c 3 i.toNat) := gA_x (o := 3) (n := 9) (sp_x h (k := 1) (by decide) (by decide +kernel)) c h0 h1
theorem aC4 {s : List (Nat × Nat)} (h : SpL s) (c : Nat → Nat → Int) {i : Int} (h0 : 0 ≤ i) (h1 : i < 4) : gA (s, c) 0 4 i = some (c 4 i.toNat) := gA_x (o := 4) (n := 4) (sp_x h (k := 2) (by decide) (by decide +kernel)) c h0 h1
