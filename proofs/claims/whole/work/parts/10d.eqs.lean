/-! the methods as equations, written by a program -/
set_option maxRecDepth 100000 in
theorem c44 (d : Nat) (v0 : Int) (hp : HP) {n : Nat} (hg : gS hp v0 = some (4, n)) : Cd (d + 1) 44 [vA v0] hp =
  if 0 < v0 ∧ wid [] ≤ 8 then
    (pF (mk hp 100 21) 4 0 v0 ((hp.1.length : Int))).bind fun h1 =>
    (pF (mk h1 100 21) 4 1 v0 ((h1.1.length : Int))).bind fun h2 =>
    (pF (mk h2 100 21) 4 2 v0 ((h2.1.length : Int))).bind fun h3 =>
    (pF (mk h3 100 81) 4 3 v0 ((h3.1.length : Int))).bind fun h4 =>
    (pF (mk h4 100 189) 4 4 v0 ((h4.1.length : Int))).bind fun h5 =>
    some ([], h5)
  else none := (Cd_inst rfl rfl rfl hg).trans ((Rr_blk (Cd d) 44 [] 24 0 _ [] hp).trans rfl)
set_option maxRecDepth 100000 in
theorem c45 (d : Nat) (v0 v1 v2 v3 v4 v5 : Int) (hp : HP) {n : Nat} (hg : gS hp v0 = some (4, n)) : Cd (d + 1) 45 [vA v0, vA v1, vI v2, vI v3, vI v4, vA v5] hp =
  (pF hp 4 5 v0 v1).bind fun h1 =>
  ((Cd d 162 [vI v2] h1).bind toI).bind fun q2 =>
  (pF q2.2 4 6 v0 q2.1).bind fun h3 =>
  if v3 = 0 ∨ v3 = 1 then
    (pF h3 4 7 v0 v3).bind fun h4 =>
    (pF h4 4 8 v0 0).bind fun h5 =>
    Rr (Cd d) 45 15 [some (vA v0), some (vA v1), some (vI v2), some (vI v3), some (vI v4), some (vA v5), some (vI 0), none] [] h5
  else none := (Cd_inst rfl rfl rfl hg).trans ((Rr_blk (Cd d) 45 [15, 34, 36, 50, 52, 63, 76] 78 0 _ [] hp).trans rfl)
set_option maxRecDepth 100000 in
theorem c45_15 (d : Nat) (v0 v1 v4 v5 v6 : Int) (o2 o3 o7 : Option AV) (hp : HP) : Rr (Cd d) 45 15 [some (vA v0), some (vA v1), o2, o3, some (vI v4), some (vA v5), some (vI v6), o7] [] hp =
  if v4 = 0 then
    (gF hp 1 5 v1).bind fun x1 =>
    if v6 < x1 then
      (gF hp 1 0 v1).bind fun x2 =>
      (gA hp 0 x2 v6).bind fun x3 =>
      (gF hp 1 1 v1).bind fun x4 =>
      (gA hp 0 x4 v6).bind fun x5 =>
      ((Cd d 46 [vA v0, vI x3, vI x5, vA v5] hp).bind toV).bind fun q6 =>
      Rr (Cd d) 45 15 [some (vA v0), some (vA v1), o2, o3, some (vI v4), some (vA v5), some (vI (w32 (v6 + 1))), o7] [] q6
    else
      Rr (Cd d) 45 34 [some (vA v0), some (vA v1), o2, o3, some (vI v4), some (vA v5), some (vI v6), o7] [] hp
  else
    Rr (Cd d) 45 34 [some (vA v0), some (vA v1), o2, o3, some (vI v4), some (vA v5), some (vI v6), o7] [] hp := (Rr_blk (Cd d) 45 [15, 34, 36, 50, 52, 63, 76] 78 15 _ _ hp).trans rfl
set_option maxRecDepth 100000 in
theorem c45_34 (d : Nat) (v0 v1 v4 v5 : Int) (o2 o3 o6 o7 : Option AV) (hp : HP) : Rr (Cd d) 45 34 [some (vA v0), some (vA v1), o2, o3, some (vI v4), some (vA v5), o6, o7] [] hp =
  Rr (Cd d) 45 36 [some (vA v0), some (vA v1), o2, o3, some (vI v4), some (vA v5), some (vI 0), o7] [] hp := (Rr_blk (Cd d) 45 [15, 34, 36, 50, 52, 63, 76] 78 34 _ _ hp).trans rfl
set_option maxRecDepth 100000 in
theorem c45_36 (d : Nat) (v0 v1 v4 v5 v6 : Int) (o2 o3 o7 : Option AV) (hp : HP) : Rr (Cd d) 45 36 [some (vA v0), some (vA v1), o2, o3, some (vI v4), some (vA v5), some (vI v6), o7] [] hp =
  if v4 = 2 then
    (gF hp 1 4 v1).bind fun x1 =>
    if v6 < x1 then
      ((Cd d 46 [vA v0, vI v6, vI v6, vA v5] hp).bind toV).bind fun q2 =>
      Rr (Cd d) 45 36 [some (vA v0), some (vA v1), o2, o3, some (vI v4), some (vA v5), some (vI (w32 (v6 + 1))), o7] [] q2
    else
      Rr (Cd d) 45 50 [some (vA v0), some (vA v1), o2, o3, some (vI v4), some (vA v5), some (vI v6), o7] [] hp
  else
    Rr (Cd d) 45 50 [some (vA v0), some (vA v1), o2, o3, some (vI v4), some (vA v5), some (vI v6), o7] [] hp := (Rr_blk (Cd d) 45 [15, 34, 36, 50, 52, 63, 76] 78 36 _ _ hp).trans rfl
set_option maxRecDepth 100000 in
theorem c45_50 (d : Nat) (v0 v1 v4 v5 : Int) (o2 o3 o6 o7 : Option AV) (hp : HP) : Rr (Cd d) 45 50 [some (vA v0), some (vA v1), o2, o3, some (vI v4), some (vA v5), o6, o7] [] hp =
  Rr (Cd d) 45 52 [some (vA v0), some (vA v1), o2, o3, some (vI v4), some (vA v5), some (vI 0), o7] [] hp := (Rr_blk (Cd d) 45 [15, 34, 36, 50, 52, 63, 76] 78 50 _ _ hp).trans rfl
set_option maxRecDepth 100000 in
theorem c45_52 (d : Nat) (v0 v1 v4 v5 v6 : Int) (o2 o3 o7 : Option AV) (hp : HP) : Rr (Cd d) 45 52 [some (vA v0), some (vA v1), o2, o3, some (vI v4), some (vA v5), some (vI v6), o7] [] hp =
  if v4 = 1 then
    (gF hp 1 4 v1).bind fun x1 =>
    if v6 < x1 then
      Rr (Cd d) 45 63 [some (vA v0), some (vA v1), o2, o3, some (vI v4), some (vA v5), some (vI v6), some (vI (w32 (v6 + 1)))] [] hp
    else
      Rr (Cd d) 45 76 [some (vA v0), some (vA v1), o2, o3, some (vI v4), some (vA v5), some (vI v6), o7] [] hp
  else
    Rr (Cd d) 45 76 [some (vA v0), some (vA v1), o2, o3, some (vI v4), some (vA v5), some (vI v6), o7] [] hp := (Rr_blk (Cd d) 45 [15, 34, 36, 50, 52, 63, 76] 78 52 _ _ hp).trans rfl
set_option maxRecDepth 100000 in
theorem c45_63 (d : Nat) (v0 v1 v4 v5 v6 v7 : Int) (o2 o3 : Option AV) (hp : HP) : Rr (Cd d) 45 63 [some (vA v0), some (vA v1), o2, o3, some (vI v4), some (vA v5), some (vI v6), some (vI v7)] [] hp =
  (gF hp 1 4 v1).bind fun x1 =>
  if v7 < x1 then
    ((Cd d 46 [vA v0, vI v6, vI v7, vA v5] hp).bind toV).bind fun q2 =>
    Rr (Cd d) 45 63 [some (vA v0), some (vA v1), o2, o3, some (vI v4), some (vA v5), some (vI v6), some (vI (w32 (v7 + 1)))] [] q2
  else
    Rr (Cd d) 45 52 [some (vA v0), some (vA v1), o2, o3, some (vI v4), some (vA v5), some (vI (w32 (v6 + 1))), some (vI v7)] [] hp := (Rr_blk (Cd d) 45 [15, 34, 36, 50, 52, 63, 76] 78 63 _ _ hp).trans rfl
set_option maxRecDepth 100000 in
theorem c45_76 (d : Nat) (o0 o1 o2 o3 o4 o5 o6 o7 : Option AV) (hp : HP) : Rr (Cd d) 45 76 [o0, o1, o2, o3, o4, o5, o6, o7] [] hp =
  some ([], hp) := (Rr_blk (Cd d) 45 [15, 34, 36, 50, 52, 63, 76] 78 76 _ _ hp).trans rfl
set_option maxRecDepth 100000 in
theorem c46 (d : Nat) (v0 v1 v2 v3 : Int) (hp : HP) {n : Nat} (hg : gS hp v0 = some (4, n)) : Cd (d + 1) 46 [vA v0, vI v1, vI v2, vA v3] hp =
  (gF hp 4 8 v0).bind fun x1 =>
  if x1 < 21 then
    (gL hp v3).bind fun x2 =>
    if w32 (w32 (v1 * 7) + v2) < x2 then
      (gF hp 4 0 v0).bind fun x3 =>
      (gF hp 4 8 v0).bind fun x4 =>
      (pA hp 0 x3 x4 v1).bind fun h5 =>
      (gF h5 4 1 v0).bind fun x6 =>
      (gF h5 4 8 v0).bind fun x7 =>
      (pA h5 0 x6 x7 v2).bind fun h8 =>
      (gF h8 4 2 v0).bind fun x9 =>
      (gF h8 4 8 v0).bind fun x10 =>
      (gA h8 0 v3 (w32 (w32 (v1 * 7) + v2))).bind fun x11 =>
      (pA h8 0 x9 x10 x11).bind fun h12 =>
      (gF h12 4 8 v0).bind fun x13 =>
      (pF h12 4 8 v0 (w32 (x13 + 1))).bind fun h14 =>
      Rr (Cd d) 46 40 [some (vA v0), some (vI v1), some (vI v2), some (vA v3), some (vI (w32 (w32 (v1 * 7) + v2)))] [] h14
    else
      Rr (Cd d) 46 40 [some (vA v0), some (vI v1), some (vI v2), some (vA v3), some (vI (w32 (w32 (v1 * 7) + v2)))] [] hp
  else
    Rr (Cd d) 46 40 [some (vA v0), some (vI v1), some (vI v2), some (vA v3), some (vI (w32 (w32 (v1 * 7) + v2)))] [] hp := (Cd_inst rfl rfl rfl hg).trans ((Rr_blk (Cd d) 46 [40] 42 0 _ [] hp).trans rfl)
set_option maxRecDepth 100000 in
theorem c46_40 (d : Nat) (o0 o1 o2 o3 o4 : Option AV) (hp : HP) : Rr (Cd d) 46 40 [o0, o1, o2, o3, o4] [] hp =
  some ([], hp) := (Rr_blk (Cd d) 46 [40] 42 40 _ _ hp).trans rfl
set_option maxRecDepth 100000 in
theorem c47 (d : Nat) (v0 : Int) (hp : HP) {n : Nat} (hg : gS hp v0 = some (4, n)) : Cd (d + 1) 47 [vA v0] hp =
  (pF hp 4 11 v0 ((-1))).bind fun h1 =>
  (pF h1 4 12 v0 ((-1))).bind fun h2 =>
  (pF h2 4 13 v0 ((-1))).bind fun h3 =>
  (pF h3 4 14 v0 ((-1))).bind fun h4 =>
  (pF h4 4 15 v0 ((-1))).bind fun h5 =>
  (pF h5 4 16 v0 ((-1))).bind fun h6 =>
  some ([], h6) := (Cd_inst rfl rfl rfl hg).trans ((Rr_blk (Cd d) 47 [] 20 0 _ [] hp).trans rfl)
set_option maxRecDepth 100000 in
theorem c48 (d : Nat) (v0 v1 v2 : Int) (hp : HP) {n : Nat} (hg : gS hp v0 = some (4, n)) : Cd (d + 1) 48 [vA v0, vI v1, vI v2] hp =
  (gF hp 4 2 v0).bind fun x1 =>
  (gA hp 0 x1 v1).bind fun x2 =>
  ((Cd d 169 [vI x2, vI v2] hp).bind toI).bind fun q3 =>
  if q3.1 = 0 ∨ q3.1 = 1 then some ([vI q3.1], q3.2) else none := (Cd_inst rfl rfl rfl hg).trans ((Rr_blk (Cd d) 48 [] 8 0 _ [] hp).trans rfl)
set_option maxRecDepth 100000 in
theorem c49 (d : Nat) (v0 : Int) (hp : HP) {n : Nat} (hg : gS hp v0 = some (4, n)) : Cd (d + 1) 49 [vA v0] hp =
  ((Cd d 47 [vA v0] hp).bind toV).bind fun q1 =>
  ((Cd d 50 [vA v0] q1).bind toV).bind fun q2 =>
  Rr (Cd d) 49 8 [some (vA v0), some (vI 0), some (vI 0), none, none, none] [] q2 := (Cd_inst rfl rfl rfl hg).trans ((Rr_blk (Cd d) 49 [8, 20, 56] 68 0 _ [] hp).trans rfl)
set_option maxRecDepth 100000 in
theorem c49_8 (d : Nat) (v0 v1 v2 : Int) (o3 o4 o5 : Option AV) (hp : HP) : Rr (Cd d) 49 8 [some (vA v0), some (vI v1), some (vI v2), o3, o4, o5] [] hp =
  (gF hp 4 5 v0).bind fun x1 =>
  (gF hp 1 8 x1).bind fun x2 =>
  if v2 < x2 then
    (gF hp 4 5 v0).bind fun x3 =>
    ((Cd d 15 [vA x3, vI v2] hp).bind toI).bind fun q4 =>
    Rr (Cd d) 49 20 [some (vA v0), some (vI v1), some (vI v2), some (vI q4.1), some (vI 0), o5] [] q4.2
  else
    some ([vI v1], hp) := (Rr_blk (Cd d) 49 [8, 20, 56] 68 8 _ _ hp).trans rfl
set_option maxRecDepth 100000 in
theorem c49_20 (d : Nat) (v0 v1 v2 v3 v4 : Int) (o5 : Option AV) (hp : HP) : Rr (Cd d) 49 20 [some (vA v0), some (vI v1), some (vI v2), some (vI v3), some (vI v4), o5] [] hp =
  (gF hp 4 8 v0).bind fun x1 =>
  if v4 < x1 then
    (gF hp 4 4 v0).bind fun x2 =>
    (gF hp 4 0 v0).bind fun x3 =>
    (gA hp 0 x3 v4).bind fun x4 =>
    (gF hp 4 1 v0).bind fun x5 =>
    (gA hp 0 x5 v4).bind fun x6 =>
    ((Cd d 166 [vI v3, vI x4, vI x6] hp).bind toI).bind fun q7 =>
    (gA q7.2 0 x2 (w32 (w32 (v4 * 9) + q7.1))).bind fun x8 =>
    if x8 = 0 then
      Rr (Cd d) 49 56 [some (vA v0), some (vI v1), some (vI v2), some (vI v3), some (vI v4), some (vI x8)] [] q7.2
    else
      if v1 = 0 then
        (pF q7.2 4 12 v0 v2).bind fun h9 =>
        (pF h9 4 13 v0 v4).bind fun h10 =>
        ((Cd d 283 [vI x8] h10).bind toI).bind fun q11 =>
        (pF q11.2 4 15 v0 q11.1).bind fun h12 =>
        Rr (Cd d) 49 56 [some (vA v0), some (vI v1), some (vI v2), some (vI v3), some (vI v4), some (vI x8)] [] h12
      else
        Rr (Cd d) 49 56 [some (vA v0), some (vI v1), some (vI v2), some (vI v3), some (vI v4), some (vI x8)] [] q7.2
  else
    Rr (Cd d) 49 8 [some (vA v0), some (vI v1), some (vI (w32 (v2 + 1))), some (vI v3), some (vI v4), o5] [] hp := (Rr_blk (Cd d) 49 [8, 20, 56] 68 20 _ _ hp).trans rfl
set_option maxRecDepth 100000 in
theorem c49_56 (d : Nat) (v0 v1 v2 v3 v4 v5 : Int) (hp : HP) : Rr (Cd d) 49 56 [some (vA v0), some (vI v1), some (vI v2), some (vI v3), some (vI v4), some (vI v5)] [] hp =
  ((Cd d 284 [vI v5] hp).bind toI).bind fun q1 =>
  Rr (Cd d) 49 20 [some (vA v0), some (vI (w32 (v1 + q1.1))), some (vI v2), some (vI v3), some (vI (w32 (v4 + 1))), some (vI v5)] [] q1.2 := (Rr_blk (Cd d) 49 [8, 20, 56] 68 56 _ _ hp).trans rfl
set_option maxRecDepth 100000 in
theorem c50 (d : Nat) (v0 : Int) (hp : HP) {n : Nat} (hg : gS hp v0 = some (4, n)) : Cd (d + 1) 50 [vA v0] hp =
  Rr (Cd d) 50 2 [some (vA v0), some (vI 0), none, none, none] [] hp := (Cd_inst rfl rfl rfl hg).trans ((Rr_blk (Cd d) 50 [2, 8, 15, 31] 51 0 _ [] hp).trans rfl)
set_option maxRecDepth 100000 in
theorem c50_2 (d : Nat) (v0 v1 : Int) (o2 o3 o4 : Option AV) (hp : HP) : Rr (Cd d) 50 2 [some (vA v0), some (vI v1), o2, o3, o4] [] hp =
  (gF hp 4 8 v0).bind fun x1 =>
  if v1 < x1 then
    Rr (Cd d) 50 8 [some (vA v0), some (vI v1), some (vI 0), o3, o4] [] hp
  else
    some ([], hp) := (Rr_blk (Cd d) 50 [2, 8, 15, 31] 51 2 _ _ hp).trans rfl
set_option maxRecDepth 100000 in
theorem c50_8 (d : Nat) (v0 v1 v2 : Int) (o3 o4 : Option AV) (hp : HP) : Rr (Cd d) 50 8 [some (vA v0), some (vI v1), some (vI v2), o3, o4] [] hp =
  if v2 < 9 then
    Rr (Cd d) 50 15 [some (vA v0), some (vI v1), some (vI v2), some (vI 0), some (vI 0)] [] hp
  else
    Rr (Cd d) 50 2 [some (vA v0), some (vI (w32 (v1 + 1))), some (vI v2), o3, o4] [] hp := (Rr_blk (Cd d) 50 [2, 8, 15, 31] 51 8 _ _ hp).trans rfl
set_option maxRecDepth 100000 in
theorem c50_15 (d : Nat) (v0 v1 v2 v3 v4 : Int) (hp : HP) : Rr (Cd d) 50 15 [some (vA v0), some (vI v1), some (vI v2), some (vI v3), some (vI v4)] [] hp =
  if v4 < 6 then
    ((Cd d 168 [vI v2, vI v4] hp).bind toI).bind fun q4 =>
    ((Cd d 48 [vA v0, vI v1, vI q4.1] q4.2).bind toI).bind fun q5 =>
    if q5.1 = 0 then
      Rr (Cd d) 50 31 [some (vA v0), some (vI v1), some (vI v2), some (vI (ior v3 (ishl 1 v4))), some (vI v4)] [] q5.2
    else
      Rr (Cd d) 50 31 [some (vA v0), some (vI v1), some (vI v2), some (vI v3), some (vI v4)] [] q5.2
  else
    (gF hp 4 4 v0).bind fun x1 =>
    (gF hp 4 6 v0).bind fun x2 =>
    (pA hp 0 x1 (w32 (w32 (v1 * 9) + v2)) (iand v3 x2)).bind fun h3 =>
    Rr (Cd d) 50 8 [some (vA v0), some (vI v1), some (vI (w32 (v2 + 1))), some (vI v3), some (vI v4)] [] h3 := (Rr_blk (Cd d) 50 [2, 8, 15, 31] 51 15 _ _ hp).trans rfl
set_option maxRecDepth 100000 in
theorem c50_31 (d : Nat) (v0 v1 v2 v3 v4 : Int) (hp : HP) : Rr (Cd d) 50 31 [some (vA v0), some (vI v1), some (vI v2), some (vI v3), some (vI v4)] [] hp =
  Rr (Cd d) 50 15 [some (vA v0), some (vI v1), some (vI v2), some (vI v3), some (vI (w32 (v4 + 1)))] [] hp := (Rr_blk (Cd d) 50 [2, 8, 15, 31] 51 31 _ _ hp).trans rfl
set_option maxRecDepth 100000 in
theorem c51 (d : Nat) (v0 : Int) (hp : HP) {n : Nat} (hg : gS hp v0 = some (4, n)) : Cd (d + 1) 51 [vA v0] hp =
  ((Cd d 47 [vA v0] hp).bind toV).bind fun q1 =>
  (pF q1 4 9 v0 ((-1))).bind fun h2 =>
  (gF h2 4 5 v0).bind fun x3 =>
  (gF h2 1 4 x3).bind fun x4 =>
  ((Cd d 163 [vI x4] h2).bind toI).bind fun q5 =>
  Rr (Cd d) 51 12 [some (vA v0), some (vI q5.1), some (vI 0), none] [] q5.2 := (Cd_inst rfl rfl rfl hg).trans ((Rr_blk (Cd d) 51 [12, 38, 40] 42 0 _ [] hp).trans rfl)
set_option maxRecDepth 100000 in
theorem c51_12 (d : Nat) (v0 v1 v2 : Int) (o3 : Option AV) (hp : HP) : Rr (Cd d) 51 12 [some (vA v0), some (vI v1), some (vI v2), o3] [] hp =
  if v2 < v1 then
    (gF hp 4 9 v0).bind fun x1 =>
    (gF hp 4 8 v0).bind fun x2 =>
    if x1 < x2 then
      (gF hp 4 5 v0).bind fun x3 =>
      (gF hp 1 4 x3).bind fun x4 =>
      ((Cd d 164 [vI v2, vI x4] hp).bind toI).bind fun q5 =>
      ((Cd d 52 [vA v0, vI q5.1] q5.2).bind toI).bind fun q6 =>
      (gF q6.2 4 9 v0).bind fun x7 =>
      if x7 < q6.1 then
        (pF q6.2 4 9 v0 q6.1).bind fun h8 =>
        (pF h8 4 11 v0 v2).bind fun h9 =>
        Rr (Cd d) 51 38 [some (vA v0), some (vI v1), some (vI v2), some (vI q6.1)] [] h9
      else
        Rr (Cd d) 51 38 [some (vA v0), some (vI v1), some (vI v2), some (vI q6.1)] [] q6.2
    else
      Rr (Cd d) 51 40 [some (vA v0), some (vI v1), some (vI v2), o3] [] hp
  else
    Rr (Cd d) 51 40 [some (vA v0), some (vI v1), some (vI v2), o3] [] hp := (Rr_blk (Cd d) 51 [12, 38, 40] 42 12 _ _ hp).trans rfl
set_option maxRecDepth 100000 in
theorem c51_38 (d : Nat) (v0 v1 v2 : Int) (o3 : Option AV) (hp : HP) : Rr (Cd d) 51 38 [some (vA v0), some (vI v1), some (vI v2), o3] [] hp =
  Rr (Cd d) 51 12 [some (vA v0), some (vI v1), some (vI (w32 (v2 + 1))), o3] [] hp := (Rr_blk (Cd d) 51 [12, 38, 40] 42 38 _ _ hp).trans rfl
set_option maxRecDepth 100000 in
theorem c51_40 (d : Nat) (o0 o1 o2 o3 : Option AV) (hp : HP) : Rr (Cd d) 51 40 [o0, o1, o2, o3] [] hp =
  some ([], hp) := (Rr_blk (Cd d) 51 [12, 38, 40] 42 40 _ _ hp).trans rfl
set_option maxRecDepth 100000 in
theorem c52 (d : Nat) (v0 v1 : Int) (hp : HP) {n : Nat} (hg : gS hp v0 = some (4, n)) : Cd (d + 1) 52 [vA v0, vI v1] hp =
  Rr (Cd d) 52 4 [some (vA v0), some (vI v1), some (vI 0), some (vI 0)] [] hp := (Cd_inst rfl rfl rfl hg).trans ((Rr_blk (Cd d) 52 [4] 33 0 _ [] hp).trans rfl)
set_option maxRecDepth 100000 in
theorem c52_4 (d : Nat) (v0 v1 v2 v3 : Int) (hp : HP) : Rr (Cd d) 52 4 [some (vA v0), some (vI v1), some (vI v2), some (vI v3)] [] hp =
  (gF hp 4 8 v0).bind fun x1 =>
  if v3 < x1 then
    (gF hp 4 2 v0).bind fun x2 =>
    (gA hp 0 x2 v3).bind fun x3 =>
    (gF hp 4 0 v0).bind fun x4 =>
    (gA hp 0 x4 v3).bind fun x5 =>
    (gF hp 4 1 v0).bind fun x6 =>
    (gA hp 0 x6 v3).bind fun x7 =>
    ((Cd d 166 [vI v1, vI x5, vI x7] hp).bind toI).bind fun q8 =>
    Rr (Cd d) 52 4 [some (vA v0), some (vI v1), some (vI (w32 (v2 + (iand (ishr x3 q8.1) 1)))), some (vI (w32 (v3 + 1)))] [] q8.2
  else
    some ([vI v2], hp) := (Rr_blk (Cd d) 52 [4] 33 4 _ _ hp).trans rfl
set_option maxRecDepth 100000 in
theorem c53 (d : Nat) (v0 v1 : Int) (hp : HP) {n : Nat} (hg : gS hp v0 = some (4, n)) : Cd (d + 1) 53 [vA v0, vI v1] hp =
  ((Cd d 47 [vA v0] hp).bind toV).bind fun q1 =>
  ((Cd d 55 [vA v0] q1).bind toV).bind fun q2 =>
  if v1 = 2 then
    (gF q2 4 7 v0).bind fun x3 =>
    if x3 = 0 then
      Rr (Cd d) 53 13 [some (vA v0), some (vI v1), none] [] q2
    else
      ((Cd d 54 [vA v0] q2).bind toI).bind fun q4 =>
      if q4.1 = 0 ∨ q4.1 = 1 then some ([vI q4.1], q4.2) else none
  else
    Rr (Cd d) 53 13 [some (vA v0), some (vI v1), none] [] q2 := (Cd_inst rfl rfl rfl hg).trans ((Rr_blk (Cd d) 53 [13, 15, 36, 44] 52 0 _ [] hp).trans rfl)
set_option maxRecDepth 100000 in
theorem c53_13 (d : Nat) (v0 v1 : Int) (o2 : Option AV) (hp : HP) : Rr (Cd d) 53 13 [some (vA v0), some (vI v1), o2] [] hp =
  Rr (Cd d) 53 15 [some (vA v0), some (vI v1), some (vI 0)] [] hp := (Rr_blk (Cd d) 53 [13, 15, 36, 44] 52 13 _ _ hp).trans rfl
set_option maxRecDepth 100000 in
theorem c53_15 (d : Nat) (v0 v1 v2 : Int) (hp : HP) : Rr (Cd d) 53 15 [some (vA v0), some (vI v1), some (vI v2)] [] hp =
  (gF hp 4 8 v0).bind fun x1 =>
  if v2 < x1 then
    ((Cd d 56 [vA v0, vI v2, vI v2] hp).bind toI).bind fun q2 =>
    (pF q2.2 4 12 v0 q2.1).bind fun h3 =>
    (gF h3 4 12 v0).bind fun x4 =>
    if x4 = (-1) then
      Rr (Cd d) 53 15 [some (vA v0), some (vI v1), some (vI (w32 (v2 + 1)))] [] h3
    else
      if v1 = 2 then
        Rr (Cd d) 53 36 [some (vA v0), some (vI v1), some (vI v2)] [vI 0, vA v0] h3
      else
        Rr (Cd d) 53 36 [some (vA v0), some (vI v1), some (vI v2)] [vI v2, vA v0] h3
  else
    some ([vI 0], hp) := (Rr_blk (Cd d) 53 [13, 15, 36, 44] 52 15 _ _ hp).trans rfl
set_option maxRecDepth 100000 in
theorem c53_36 (d : Nat) (v0 v1 v2 s0 s1 : Int) (hp : HP) : Rr (Cd d) 53 36 [some (vA v0), some (vI v1), some (vI v2)] [vI s1, vA s0] hp =
  (pF hp 4 13 s0 s1).bind fun h1 =>
  if v1 = 2 then
    Rr (Cd d) 53 44 [some (vA v0), some (vI v1), some (vI v2)] [vI v2, vA v0] h1
  else
    Rr (Cd d) 53 44 [some (vA v0), some (vI v1), some (vI v2)] [vI ((-1)), vA v0] h1 := (Rr_blk (Cd d) 53 [13, 15, 36, 44] 52 36 _ _ hp).trans rfl
set_option maxRecDepth 100000 in
theorem c53_44 (d : Nat) (s0 s1 : Int) (o0 o1 o2 : Option AV) (hp : HP) : Rr (Cd d) 53 44 [o0, o1, o2] [vI s1, vA s0] hp =
  (pF hp 4 14 s0 s1).bind fun h1 =>
  some ([vI 1], h1) := (Rr_blk (Cd d) 53 [13, 15, 36, 44] 52 44 _ _ hp).trans rfl
set_option maxRecDepth 100000 in
theorem c54 (d : Nat) (v0 : Int) (hp : HP) {n : Nat} (hg : gS hp v0 = some (4, n)) : Cd (d + 1) 54 [vA v0] hp =
  Rr (Cd d) 54 2 [some (vA v0), some (vI 0), none] [] hp := (Cd_inst rfl rfl rfl hg).trans ((Rr_blk (Cd d) 54 [2, 8] 37 0 _ [] hp).trans rfl)
set_option maxRecDepth 100000 in
theorem c54_2 (d : Nat) (v0 v1 : Int) (o2 : Option AV) (hp : HP) : Rr (Cd d) 54 2 [some (vA v0), some (vI v1), o2] [] hp =
  (gF hp 4 8 v0).bind fun x1 =>
  if v1 < x1 then
    Rr (Cd d) 54 8 [some (vA v0), some (vI v1), some (vI 0)] [] hp
  else
    some ([vI 0], hp) := (Rr_blk (Cd d) 54 [2, 8] 37 2 _ _ hp).trans rfl
set_option maxRecDepth 100000 in
theorem c54_8 (d : Nat) (v0 v1 v2 : Int) (hp : HP) : Rr (Cd d) 54 8 [some (vA v0), some (vI v1), some (vI v2)] [] hp =
  (gF hp 4 8 v0).bind fun x1 =>
  if v2 < x1 then
    ((Cd d 56 [vA v0, vI v1, vI v2] hp).bind toI).bind fun q2 =>
    (pF q2.2 4 12 v0 q2.1).bind fun h3 =>
    (gF h3 4 12 v0).bind fun x4 =>
    if x4 = (-1) then
      Rr (Cd d) 54 8 [some (vA v0), some (vI v1), some (vI (w32 (v2 + 1)))] [] h3
    else
      (pF h3 4 13 v0 v1).bind fun h5 =>
      (pF h5 4 14 v0 v2).bind fun h6 =>
      some ([vI 1], h6)
  else
    Rr (Cd d) 54 2 [some (vA v0), some (vI (w32 (v1 + 1))), some (vI v2)] [] hp := (Rr_blk (Cd d) 54 [2, 8] 37 8 _ _ hp).trans rfl
set_option maxRecDepth 100000 in
theorem c55 (d : Nat) (v0 : Int) (hp : HP) {n : Nat} (hg : gS hp v0 = some (4, n)) : Cd (d + 1) 55 [vA v0] hp =
  Rr (Cd d) 55 2 [some (vA v0), some (vI 0), none, none] [] hp := (Cd_inst rfl rfl rfl hg).trans ((Rr_blk (Cd d) 55 [2, 16, 48] 54 0 _ [] hp).trans rfl)
set_option maxRecDepth 100000 in
theorem c55_2 (d : Nat) (v0 v1 : Int) (o2 o3 : Option AV) (hp : HP) : Rr (Cd d) 55 2 [some (vA v0), some (vI v1), o2, o3] [] hp =
  (gF hp 4 3 v0).bind fun x1 =>
  (gL hp x1).bind fun x2 =>
  if v1 < x2 then
    (gF hp 4 3 v0).bind fun x3 =>
    (gF hp 4 3 v0).bind fun x4 =>
    (gL hp x4).bind fun x5 =>
    (pA hp 0 x3 v1 x5).bind fun h6 =>
    Rr (Cd d) 55 16 [some (vA v0), some (vI v1), some (vI 0), o3] [] h6
  else
    some ([], hp) := (Rr_blk (Cd d) 55 [2, 16, 48] 54 2 _ _ hp).trans rfl
set_option maxRecDepth 100000 in
theorem c55_16 (d : Nat) (v0 v1 v2 : Int) (o3 : Option AV) (hp : HP) : Rr (Cd d) 55 16 [some (vA v0), some (vI v1), some (vI v2), o3] [] hp =
  if v2 < 6 then
    (gF hp 4 6 v0).bind fun x1 =>
    ((Cd d 169 [vI x1, vI v2] hp).bind toI).bind fun q2 =>
    if q2.1 = 0 then
      Rr (Cd d) 55 48 [some (vA v0), some (vI v1), some (vI v2), o3] [] q2.2
    else
      ((Cd d 168 [vI (idiv v1 9), vI v2] q2.2).bind toI).bind fun q3 =>
      ((Cd d 168 [vI (irem v1 9), vI v2] q3.2).bind toI).bind fun q4 =>
      (gF q4.2 4 3 v0).bind fun x5 =>
      (gF q4.2 4 3 v0).bind fun x6 =>
      (gA q4.2 0 x6 v1).bind fun x7 =>
      ((Cd d 288 [vI x7, vI (w32 (w32 (q3.1 * 9) + q4.1))] q4.2).bind toI).bind fun q8 =>
      (pA q8.2 0 x5 v1 q8.1).bind fun h9 =>
      Rr (Cd d) 55 48 [some (vA v0), some (vI v1), some (vI v2), some (vI (w32 (w32 (q3.1 * 9) + q4.1)))] [] h9
  else
    Rr (Cd d) 55 2 [some (vA v0), some (vI (w32 (v1 + 1))), some (vI v2), o3] [] hp := (Rr_blk (Cd d) 55 [2, 16, 48] 54 16 _ _ hp).trans rfl
set_option maxRecDepth 100000 in
theorem c55_48 (d : Nat) (v0 v1 v2 : Int) (o3 : Option AV) (hp : HP) : Rr (Cd d) 55 48 [some (vA v0), some (vI v1), some (vI v2), o3] [] hp =
  Rr (Cd d) 55 16 [some (vA v0), some (vI v1), some (vI (w32 (v2 + 1))), o3] [] hp := (Rr_blk (Cd d) 55 [2, 16, 48] 54 48 _ _ hp).trans rfl
set_option maxRecDepth 100000 in
theorem c56 (d : Nat) (v0 v1 v2 : Int) (hp : HP) {n : Nat} (hg : gS hp v0 = some (4, n)) : Cd (d + 1) 56 [vA v0, vI v1, vI v2] hp =
  Rr (Cd d) 56 4 [some (vA v0), some (vI v1), some (vI v2), some (vI ((-1))), some (vI 0), none, none, none] [] hp := (Cd_inst rfl rfl rfl hg).trans ((Rr_blk (Cd d) 56 [4, 53] 58 0 _ [] hp).trans rfl)
set_option maxRecDepth 100000 in
theorem c56_4 (d : Nat) (v0 v1 v2 v3 v4 : Int) (o5 o6 o7 : Option AV) (hp : HP) : Rr (Cd d) 56 4 [some (vA v0), some (vI v1), some (vI v2), some (vI v3), some (vI v4), o5, o6, o7] [] hp =
  (gF hp 4 5 v0).bind fun x1 =>
  (gF hp 1 8 x1).bind fun x2 =>
  if v4 < x2 then
    (gF hp 4 5 v0).bind fun x3 =>
    ((Cd d 15 [vA x3, vI v4] hp).bind toI).bind fun q4 =>
    (gF q4.2 4 0 v0).bind fun x5 =>
    (gA q4.2 0 x5 v1).bind fun x6 =>
    (gF q4.2 4 1 v0).bind fun x7 =>
    (gA q4.2 0 x7 v1).bind fun x8 =>
    ((Cd d 166 [vI q4.1, vI x6, vI x8] q4.2).bind toI).bind fun q9 =>
    (gF q9.2 4 3 v0).bind fun x10 =>
    (gF q9.2 4 0 v0).bind fun x11 =>
    (gA q9.2 0 x11 v2).bind fun x12 =>
    (gF q9.2 4 1 v0).bind fun x13 =>
    (gA q9.2 0 x13 v2).bind fun x14 =>
    ((Cd d 166 [vI q4.1, vI x12, vI x14] q9.2).bind toI).bind fun q15 =>
    (gA q15.2 0 x10 (w32 (w32 (q9.1 * 9) + q15.1))).bind fun x16 =>
    if v4 = 0 then
      Rr (Cd d) 56 53 [some (vA v0), some (vI v1), some (vI v2), some (vI x16), some (vI v4), some (vI q4.1), some (vI q9.1), some (vI x16)] [] q15.2
    else
      if x16 = v3 then
        Rr (Cd d) 56 53 [some (vA v0), some (vI v1), some (vI v2), some (vI v3), some (vI v4), some (vI q4.1), some (vI q9.1), some (vI x16)] [] q15.2
      else
        some ([vI v4], q15.2)
  else
    some ([vI ((-1))], hp) := (Rr_blk (Cd d) 56 [4, 53] 58 4 _ _ hp).trans rfl
set_option maxRecDepth 100000 in
theorem c56_53 (d : Nat) (v0 v1 v2 v3 v4 : Int) (o5 o6 o7 : Option AV) (hp : HP) : Rr (Cd d) 56 53 [some (vA v0), some (vI v1), some (vI v2), some (vI v3), some (vI v4), o5, o6, o7] [] hp =
  Rr (Cd d) 56 4 [some (vA v0), some (vI v1), some (vI v2), some (vI v3), some (vI (w32 (v4 + 1))), o5, o6, o7] [] hp := (Rr_blk (Cd d) 56 [4, 53] 58 53 _ _ hp).trans rfl
set_option maxRecDepth 100000 in
theorem c57 (d : Nat) (v0 v1 v2 : Int) (hp : HP) {n : Nat} (hg : gS hp v0 = some (4, n)) : Cd (d + 1) 57 [vA v0, vA v1, vI v2] hp =
  (gF hp 4 5 v0).bind fun x1 =>
  (gF hp 1 4 x1).bind fun x2 =>
  (gF hp 4 6 v0).bind fun x3 =>
  (gF hp 4 7 v0).bind fun x4 =>
  ((Cd d 110 [vA v1, vI v2, vI x2, vI x3, vI x4] hp).bind toL).bind fun q5 =>
  some ([vL q5.1], q5.2) := (Cd_inst rfl rfl rfl hg).trans ((Rr_blk (Cd d) 57 [] 12 0 _ [] hp).trans rfl)
set_option maxRecDepth 100000 in
theorem c58 (d : Nat) (v0 v1 : Int) (hp : HP) {n : Nat} (hg : gS hp v0 = some (4, n)) : Cd (d + 1) 58 [vA v0, vA v1] hp =
  ((Cd d 47 [vA v0] hp).bind toV).bind fun q1 =>
  (pF q1 4 10 v0 1).bind fun h2 =>
  Rr (Cd d) 58 9 [some (vA v0), some (vA v1), some (vI 0), some (vI 0)] [] h2 := (Cd_inst rfl rfl rfl hg).trans ((Rr_blk (Cd d) 58 [9, 29, 47, 48, 50] 55 0 _ [] hp).trans rfl)
set_option maxRecDepth 100000 in
theorem c58_9 (d : Nat) (v0 v1 v2 v3 : Int) (hp : HP) : Rr (Cd d) 58 9 [some (vA v0), some (vA v1), some (vI v2), some (vI v3)] [] hp =
  (gF hp 4 5 v0).bind fun x1 =>
  (gF hp 1 8 x1).bind fun x2 =>
  if v3 < x2 then
    (gF hp 4 5 v0).bind fun x3 =>
    ((Cd d 15 [vA x3, vI v3] hp).bind toI).bind fun q4 =>
    ((Cd d 57 [vA v0, vA v1, vI q4.1] q4.2).bind toL).bind fun q5 =>
    if 0 < lcmp q5.1 0 then
      if v2 = 0 then
        (pF q5.2 4 12 v0 v3).bind fun h6 =>
        Rr (Cd d) 58 29 [some (vA v0), some (vA v1), some (vI v2), some (vI v3)] [] h6
      else
        Rr (Cd d) 58 29 [some (vA v0), some (vA v1), some (vI v2), some (vI v3)] [] q5.2
    else
      Rr (Cd d) 58 50 [some (vA v0), some (vA v1), some (vI v2), some (vI v3)] [] q5.2
  else
    some ([vI v2], hp) := (Rr_blk (Cd d) 58 [9, 29, 47, 48, 50] 55 9 _ _ hp).trans rfl
set_option maxRecDepth 100000 in
theorem c58_29 (d : Nat) (v0 v1 v2 v3 : Int) (hp : HP) : Rr (Cd d) 58 29 [some (vA v0), some (vA v1), some (vI v2), some (vI v3)] [] hp =
  (gF hp 4 10 v0).bind fun x1 =>
  if x1 = 0 then
    Rr (Cd d) 58 47 [some (vA v0), some (vA v1), some (vI v2), some (vI v3)] [vA v0] hp
  else
    (gF hp 4 5 v0).bind fun x2 =>
    ((Cd d 14 [vA x2, vI v3] hp).bind toI).bind fun q3 =>
    (gF q3.2 4 5 v0).bind fun x4 =>
    (gF q3.2 4 12 v0).bind fun x5 =>
    ((Cd d 14 [vA x4, vI x5] q3.2).bind toI).bind fun q6 =>
    ((Cd d 59 [vA v0, vI q3.1, vI q6.1] q6.2).bind toI).bind fun q7 =>
    if q7.1 = 0 then
      Rr (Cd d) 58 47 [some (vA v0), some (vA v1), some (vI v2), some (vI v3)] [vA v0] q7.2
    else
      Rr (Cd d) 58 48 [some (vA v0), some (vA v1), some (vI v2), some (vI v3)] [vI 1, vA v0] q7.2 := (Rr_blk (Cd d) 58 [9, 29, 47, 48, 50] 55 29 _ _ hp).trans rfl
set_option maxRecDepth 100000 in
theorem c58_47 (d : Nat) (v0 v1 v2 v3 s0 : Int) (hp : HP) : Rr (Cd d) 58 47 [some (vA v0), some (vA v1), some (vI v2), some (vI v3)] [vA s0] hp =
  Rr (Cd d) 58 48 [some (vA v0), some (vA v1), some (vI v2), some (vI v3)] [vI 0, vA s0] hp := (Rr_blk (Cd d) 58 [9, 29, 47, 48, 50] 55 47 _ _ hp).trans rfl
set_option maxRecDepth 100000 in
theorem c58_48 (d : Nat) (v0 v1 v2 v3 s0 s1 : Int) (hp : HP) : Rr (Cd d) 58 48 [some (vA v0), some (vA v1), some (vI v2), some (vI v3)] [vI s1, vA s0] hp =
  if s1 = 0 ∨ s1 = 1 then
    (pF hp 4 10 s0 s1).bind fun h1 =>
    Rr (Cd d) 58 50 [some (vA v0), some (vA v1), some (vI (w32 (v2 + 1))), some (vI v3)] [] h1
  else none := (Rr_blk (Cd d) 58 [9, 29, 47, 48, 50] 55 48 _ _ hp).trans rfl
set_option maxRecDepth 100000 in
theorem c58_50 (d : Nat) (v0 v1 v2 v3 : Int) (hp : HP) : Rr (Cd d) 58 50 [some (vA v0), some (vA v1), some (vI v2), some (vI v3)] [] hp =
  Rr (Cd d) 58 9 [some (vA v0), some (vA v1), some (vI v2), some (vI (w32 (v3 + 1)))] [] hp := (Rr_blk (Cd d) 58 [9, 29, 47, 48, 50] 55 50 _ _ hp).trans rfl
set_option maxRecDepth 100000 in
theorem c59 (d : Nat) (v0 v1 v2 : Int) (hp : HP) {n : Nat} (hg : gS hp v0 = some (4, n)) : Cd (d + 1) 59 [vA v0, vI v1, vI v2] hp =
  Rr (Cd d) 59 2 [some (vA v0), some (vI v1), some (vI v2), some (vI 0)] [] hp := (Cd_inst rfl rfl rfl hg).trans ((Rr_blk (Cd d) 59 [2] 20 0 _ [] hp).trans rfl)
set_option maxRecDepth 100000 in
theorem c59_2 (d : Nat) (v0 v1 v2 v3 : Int) (hp : HP) : Rr (Cd d) 59 2 [some (vA v0), some (vI v1), some (vI v2), some (vI v3)] [] hp =
  if v3 < 6 then
    (gF hp 4 5 v0).bind fun x1 =>
    (gF hp 1 4 x1).bind fun x2 =>
    ((Cd d 167 [vI v2, vI x2, vI v3] hp).bind toI).bind fun q3 =>
    if q3.1 = v1 then
      some ([vI 1], q3.2)
    else
      Rr (Cd d) 59 2 [some (vA v0), some (vI v1), some (vI v2), some (vI (w32 (v3 + 1)))] [] q3.2
  else
    some ([vI 0], hp) := (Rr_blk (Cd d) 59 [2] 20 2 _ _ hp).trans rfl
set_option maxRecDepth 100000 in
theorem c60 (d : Nat) (v0 v1 v2 : Int) (hp : HP) {n : Nat} (hg : gS hp v0 = some (4, n)) : Cd (d + 1) 60 [vA v0, vI v1, vI v2] hp =
  ((Cd d 47 [vA v0] hp).bind toV).bind fun q1 =>
  (gF q1 4 5 v0).bind fun x2 =>
  (gF q1 1 4 x2).bind fun x3 =>
  ((Cd d 163 [vI x3] q1).bind toI).bind fun q4 =>
  Rr (Cd d) 60 9 [some (vA v0), some (vI v1), some (vI v2), some (vI q4.1), some (vI 0), none] [] q4.2 := (Cd_inst rfl rfl rfl hg).trans ((Rr_blk (Cd d) 60 [9, 36, 38] 40 0 _ [] hp).trans rfl)
set_option maxRecDepth 100000 in
theorem c60_9 (d : Nat) (v0 v1 v2 v3 v4 : Int) (o5 : Option AV) (hp : HP) : Rr (Cd d) 60 9 [some (vA v0), some (vI v1), some (vI v2), some (vI v3), some (vI v4), o5] [] hp =
  if v4 < v3 then
    (gF hp 4 11 v0).bind fun x1 =>
    if x1 = (-1) then
      (gF hp 4 5 v0).bind fun x2 =>
      (gF hp 1 4 x2).bind fun x3 =>
      ((Cd d 164 [vI v4, vI x3] hp).bind toI).bind fun q4 =>
      (gF q4.2 4 5 v0).bind fun x5 =>
      ((Cd d 12 [vA x5, vI q4.1] q4.2).bind toI).bind fun q6 =>
      if q6.1 = 0 then
        ((Cd d 61 [vA v0, vI q4.1, vI v1, vI v2] q6.2).bind toI).bind fun q7 =>
        if q7.1 = 0 then
          Rr (Cd d) 60 36 [some (vA v0), some (vI v1), some (vI v2), some (vI v3), some (vI v4), some (vI q4.1)] [] q7.2
        else
          (pF q7.2 4 11 v0 v4).bind fun h8 =>
          Rr (Cd d) 60 36 [some (vA v0), some (vI v1), some (vI v2), some (vI v3), some (vI v4), some (vI q4.1)] [] h8
      else
        Rr (Cd d) 60 36 [some (vA v0), some (vI v1), some (vI v2), some (vI v3), some (vI v4), some (vI q4.1)] [] q6.2
    else
      Rr (Cd d) 60 38 [some (vA v0), some (vI v1), some (vI v2), some (vI v3), some (vI v4), o5] [] hp
  else
    Rr (Cd d) 60 38 [some (vA v0), some (vI v1), some (vI v2), some (vI v3), some (vI v4), o5] [] hp := (Rr_blk (Cd d) 60 [9, 36, 38] 40 9 _ _ hp).trans rfl
set_option maxRecDepth 100000 in
theorem c60_36 (d : Nat) (v0 v1 v2 v3 v4 : Int) (o5 : Option AV) (hp : HP) : Rr (Cd d) 60 36 [some (vA v0), some (vI v1), some (vI v2), some (vI v3), some (vI v4), o5] [] hp =
  Rr (Cd d) 60 9 [some (vA v0), some (vI v1), some (vI v2), some (vI v3), some (vI (w32 (v4 + 1))), o5] [] hp := (Rr_blk (Cd d) 60 [9, 36, 38] 40 36 _ _ hp).trans rfl
set_option maxRecDepth 100000 in
theorem c60_38 (d : Nat) (o0 o1 o2 o3 o4 o5 : Option AV) (hp : HP) : Rr (Cd d) 60 38 [o0, o1, o2, o3, o4, o5] [] hp =
  some ([], hp) := (Rr_blk (Cd d) 60 [9, 36, 38] 40 38 _ _ hp).trans rfl
set_option maxRecDepth 100000 in
theorem c61 (d : Nat) (v0 v1 v2 v3 : Int) (hp : HP) {n : Nat} (hg : gS hp v0 = some (4, n)) : Cd (d + 1) 61 [vA v0, vI v1, vI v2, vI v3] hp =
  (gF hp 4 8 v0).bind fun x1 =>
  if x1 = 0 then
    some ([vI 0], hp)
  else
    Rr (Cd d) 61 9 [some (vA v0), some (vI v1), some (vI v2), some (vI v3), some (vI 0), some (vI 0), none, none] [] hp := (Cd_inst rfl rfl rfl hg).trans ((Rr_blk (Cd d) 61 [9, 35] 72 0 _ [] hp).trans rfl)
set_option maxRecDepth 100000 in
theorem c61_9 (d : Nat) (v0 v1 v2 v3 v4 v5 : Int) (o6 o7 : Option AV) (hp : HP) : Rr (Cd d) 61 9 [some (vA v0), some (vI v1), some (vI v2), some (vI v3), some (vI v4), some (vI v5), o6, o7] [] hp =
  (gF hp 4 5 v0).bind fun x1 =>
  (gF hp 1 4 x1).bind fun x2 =>
  if v5 < x2 then
    ((Cd d 165 [vI v1, vI v5] hp).bind toI).bind fun q5 =>
    Rr (Cd d) 61 9 [some (vA v0), some (vI v1), some (vI v2), some (vI v3), some (vI (w32 (v4 + (w32 ((w32 ((w32 (v5 + 1)) * q5.1)) * v2))))), some (vI (w32 (v5 + 1))), o6, o7] [] q5.2
  else
    (gF hp 4 8 v0).bind fun x3 =>
    ((Cd d 288 [vI v3, vI x3] hp).bind toI).bind fun q4 =>
    Rr (Cd d) 61 35 [some (vA v0), some (vI v1), some (vI v2), some (vI v3), some (vI v4), some (vI q4.1), some (vI 0), o7] [] q4.2 := (Rr_blk (Cd d) 61 [9, 35] 72 9 _ _ hp).trans rfl
set_option maxRecDepth 100000 in
theorem c61_35 (d : Nat) (v0 v1 v4 v5 v6 : Int) (o2 o3 o7 : Option AV) (hp : HP) : Rr (Cd d) 61 35 [some (vA v0), some (vI v1), o2, o3, some (vI v4), some (vI v5), some (vI v6), o7] [] hp =
  if v6 < v5 then
    (gF hp 4 8 v0).bind fun x1 =>
    if x1 = 0 then none else
    (gF hp 4 0 v0).bind fun x2 =>
    (gA hp 0 x2 (irem (w32 (v4 + v6)) x1)).bind fun x3 =>
    (gF hp 4 1 v0).bind fun x4 =>
    (gA hp 0 x4 (irem (w32 (v4 + v6)) x1)).bind fun x5 =>
    ((Cd d 166 [vI v1, vI x3, vI x5] hp).bind toI).bind fun q6 =>
    ((Cd d 48 [vA v0, vI (irem (w32 (v4 + v6)) x1), vI q6.1] q6.2).bind toI).bind fun q7 =>
    if q7.1 = 0 then
      Rr (Cd d) 61 35 [some (vA v0), some (vI v1), o2, o3, some (vI v4), some (vI v5), some (vI (w32 (v6 + 1))), some (vI (irem (w32 (v4 + v6)) x1))] [] q7.2
    else
      (pF q7.2 4 16 v0 v6).bind fun h8 =>
      (pF h8 4 13 v0 (irem (w32 (v4 + v6)) x1)).bind fun h9 =>
      some ([vI 1], h9)
  else
    some ([vI 0], hp) := (Rr_blk (Cd d) 61 [9, 35] 72 35 _ _ hp).trans rfl
