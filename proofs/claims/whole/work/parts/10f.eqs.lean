/-! the methods as equations, written by a program -/
set_option maxRecDepth 100000 in
theorem c90 (d : Nat) (v0 : Int) (hp : HP) {n : Nat} (hg : gS hp v0 = some (7, n)) : Cd (d + 1) 90 [vA v0] hp =
  if 0 < v0 ∧ wid [] ≤ 8 then
    (pF (mk hp 100 9) 7 0 v0 ((hp.1.length : Int))).bind fun h1 =>
    (pF h1 7 1 v0 1).bind fun h2 =>
    some ([], h2)
  else none := (Cd_inst rfl rfl rfl hg).trans ((Rr_blk (Cd d) 90 [] 11 0 _ [] hp).trans rfl)
set_option maxRecDepth 100000 in
theorem c91 (d : Nat) (v0 v1 : Int) (hp : HP) {n : Nat} (hg : gS hp v0 = some (7, n)) : Cd (d + 1) 91 [vA v0, vI v1] hp =
  (pF hp 7 1 v0 v1).bind fun h1 =>
  (pF h1 7 2 v0 0).bind fun h2 =>
  some ([], h2) := (Cd_inst rfl rfl rfl hg).trans ((Rr_blk (Cd d) 91 [] 8 0 _ [] hp).trans rfl)
set_option maxRecDepth 100000 in
theorem c92 (d : Nat) (v0 v1 : Int) (hp : HP) {n : Nat} (hg : gS hp v0 = some (7, n)) : Cd (d + 1) 92 [vA v0, vA v1] hp =
  (gF hp 7 0 v1).bind fun x1 =>
  (gF hp 7 0 v0).bind fun x2 =>
  (gF hp 7 0 v0).bind fun x3 =>
  (gL hp x3).bind fun x4 =>
  (acp hp x1 0 x2 0 x4).bind fun h5 =>
  (gF h5 7 1 v1).bind fun x6 =>
  (pF h5 7 1 v0 x6).bind fun h7 =>
  (gF h7 7 2 v1).bind fun x8 =>
  (pF h7 7 2 v0 x8).bind fun h9 =>
  some ([], h9) := (Cd_inst rfl rfl rfl hg).trans ((Rr_blk (Cd d) 92 [] 20 0 _ [] hp).trans rfl)
set_option maxRecDepth 100000 in
theorem c93 (d : Nat) (v0 v1 : Int) (hp : HP) {n : Nat} (hg : gS hp v0 = some (7, n)) : Cd (d + 1) 93 [vA v0, vI v1] hp =
  if v1 = 0 then
    Rr (Cd d) 93 13 [some (vA v0), some (vI v1)] [] hp
  else
    (gF hp 7 1 v0).bind fun x1 =>
    if v1 < w32 (-x1) then
      Rr (Cd d) 93 13 [some (vA v0), some (vI v1)] [] hp
    else
      (gF hp 7 1 v0).bind fun x2 =>
      if x2 < v1 then
        Rr (Cd d) 93 13 [some (vA v0), some (vI v1)] [] hp
      else
        Rr (Cd d) 93 14 [some (vA v0), some (vI v1)] [vI 1] hp := (Cd_inst rfl rfl rfl hg).trans ((Rr_blk (Cd d) 93 [13, 14] 16 0 _ [] hp).trans rfl)
set_option maxRecDepth 100000 in
theorem c93_13 (d : Nat) (o0 o1 : Option AV) (hp : HP) : Rr (Cd d) 93 13 [o0, o1] [] hp =
  Rr (Cd d) 93 14 [o0, o1] [vI 0] hp := (Rr_blk (Cd d) 93 [13, 14] 16 13 _ _ hp).trans rfl
set_option maxRecDepth 100000 in
theorem c93_14 (d : Nat) (s0 : Int) (o0 o1 : Option AV) (hp : HP) : Rr (Cd d) 93 14 [o0, o1] [vI s0] hp =
  if s0 = 0 ∨ s0 = 1 then some ([vI s0], hp) else none := (Rr_blk (Cd d) 93 [13, 14] 16 14 _ _ hp).trans rfl
set_option maxRecDepth 100000 in
theorem c94 (d : Nat) (v0 v1 v2 v3 : Int) (hp : HP) {n : Nat} (hg : gS hp v0 = some (7, n)) : Cd (d + 1) 94 [vA v0, vI v1, vI v2, vI v3] hp =
  (gF hp 7 2 v0).bind fun x1 =>
  if x1 < 3 then
    ((Cd d 93 [vA v0, vI v1] hp).bind toI).bind fun q2 =>
    if q2.1 = 0 then
      Rr (Cd d) 94 16 [some (vA v0), some (vI v1), some (vI v2), some (vI v3)] [] q2.2
    else
      ((Cd d 93 [vA v0, vI v2] q2.2).bind toI).bind fun q3 =>
      if q3.1 = 0 then
        Rr (Cd d) 94 16 [some (vA v0), some (vI v1), some (vI v2), some (vI v3)] [] q3.2
      else
        ((Cd d 93 [vA v0, vI v3] q3.2).bind toI).bind fun q4 =>
        if q4.1 = 0 then
          Rr (Cd d) 94 16 [some (vA v0), some (vI v1), some (vI v2), some (vI v3)] [] q4.2
        else
          (gF q4.2 7 0 v0).bind fun x5 =>
          (gF q4.2 7 2 v0).bind fun x6 =>
          (pA q4.2 0 x5 (w32 (x6 * 3)) v1).bind fun h7 =>
          (gF h7 7 0 v0).bind fun x8 =>
          (gF h7 7 2 v0).bind fun x9 =>
          (pA h7 0 x8 (w32 (w32 (x9 * 3) + 1)) v2).bind fun h10 =>
          (gF h10 7 0 v0).bind fun x11 =>
          (gF h10 7 2 v0).bind fun x12 =>
          (pA h10 0 x11 (w32 (w32 (x12 * 3) + 2)) v3).bind fun h13 =>
          (gF h13 7 2 v0).bind fun x14 =>
          (pF h13 7 2 v0 (w32 (x14 + 1))).bind fun h15 =>
          (gF h15 7 2 v0).bind fun x16 =>
          some ([vI (w32 (x16 - 1))], h15)
  else
    Rr (Cd d) 94 16 [some (vA v0), some (vI v1), some (vI v2), some (vI v3)] [] hp := (Cd_inst rfl rfl rfl hg).trans ((Rr_blk (Cd d) 94 [16] 58 0 _ [] hp).trans rfl)
set_option maxRecDepth 100000 in
theorem c94_16 (d : Nat) (o0 o1 o2 o3 : Option AV) (hp : HP) : Rr (Cd d) 94 16 [o0, o1, o2, o3] [] hp =
  some ([vI ((-1))], hp) := (Rr_blk (Cd d) 94 [16] 58 16 _ _ hp).trans rfl
set_option maxRecDepth 100000 in
theorem c95 (d : Nat) (v0 : Int) (hp : HP) {n : Nat} (hg : gS hp v0 = some (7, n)) : Cd (d + 1) 95 [vA v0] hp =
  (gF hp 7 1 v0).bind fun x1 =>
  some ([vI (ishl 1 x1)], hp) := (Cd_inst rfl rfl rfl hg).trans ((Rr_blk (Cd d) 95 [] 6 0 _ [] hp).trans rfl)
set_option maxRecDepth 100000 in
theorem c96 (d : Nat) (v0 : Int) (hp : HP) {n : Nat} (hg : gS hp v0 = some (7, n)) : Cd (d + 1) 96 [vA v0] hp =
  (gF hp 7 1 v0).bind fun x1 =>
  (gF hp 7 2 v0).bind fun x2 =>
  some ([vI (w32 (w32 (3 + (w32 (2 * x1))) + (w32 (6 * x2))))], hp) := (Cd_inst rfl rfl rfl hg).trans ((Rr_blk (Cd d) 96 [] 13 0 _ [] hp).trans rfl)
set_option maxRecDepth 100000 in
theorem c97 (d : Nat) (v0 : Int) (hp : HP) {n : Nat} (hg : gS hp v0 = some (7, n)) : Cd (d + 1) 97 [vA v0] hp =
  (gF hp 7 1 v0).bind fun x1 =>
  (gF hp 7 2 v0).bind fun x2 =>
  some ([vI (w32 (w32 (3 + (w32 (3 * x1))) + (w32 (12 * x2))))], hp) := (Cd_inst rfl rfl rfl hg).trans ((Rr_blk (Cd d) 97 [] 13 0 _ [] hp).trans rfl)
set_option maxRecDepth 100000 in
theorem c98 (d : Nat) (v0 : Int) (hp : HP) {n : Nat} (hg : gS hp v0 = some (7, n)) : Cd (d + 1) 98 [vA v0] hp =
  Rr (Cd d) 98 4 [some (vA v0), some (vI 0), some (vI 0)] [] hp := (Cd_inst rfl rfl rfl hg).trans ((Rr_blk (Cd d) 98 [4] 20 0 _ [] hp).trans rfl)
set_option maxRecDepth 100000 in
theorem c98_4 (d : Nat) (v0 v1 v2 : Int) (hp : HP) : Rr (Cd d) 98 4 [some (vA v0), some (vI v1), some (vI v2)] [] hp =
  ((Cd d 95 [vA v0] hp).bind toI).bind fun q1 =>
  if v2 < q1.1 then
    ((Cd d 99 [vA v0, vI v2] q1.2).bind toI).bind fun q2 =>
    ((Cd d 159 [vI q2.1] q2.2).bind toI).bind fun q3 =>
    Rr (Cd d) 98 4 [some (vA v0), some (vI (w32 (v1 + q3.1))), some (vI (w32 (v2 + 1)))] [] q3.2
  else
    some ([vI v1], q1.2) := (Rr_blk (Cd d) 98 [4] 20 4 _ _ hp).trans rfl
set_option maxRecDepth 100000 in
theorem c99 (d : Nat) (v0 v1 : Int) (hp : HP) {n : Nat} (hg : gS hp v0 = some (7, n)) : Cd (d + 1) 99 [vA v0, vI v1] hp =
  Rr (Cd d) 99 2 [some (vA v0), some (vI v1), some (vI 0)] [] hp := (Cd_inst rfl rfl rfl hg).trans ((Rr_blk (Cd d) 99 [2] 31 0 _ [] hp).trans rfl)
set_option maxRecDepth 100000 in
theorem c99_2 (d : Nat) (v0 v1 v2 : Int) (hp : HP) : Rr (Cd d) 99 2 [some (vA v0), some (vI v1), some (vI v2)] [] hp =
  (gF hp 7 2 v0).bind fun x1 =>
  if v2 < x1 then
    ((Cd d 100 [vA v0, vI v2, vI 0, vI v1] hp).bind toI).bind fun q2 =>
    ((Cd d 100 [vA v0, vI v2, vI 1, vI v1] q2.2).bind toI).bind fun q3 =>
    ((Cd d 100 [vA v0, vI v2, vI 2, vI v1] q3.2).bind toI).bind fun q4 =>
    if w32 ((w32 (q2.1 * q3.1)) * q4.1) = 0 then
      Rr (Cd d) 99 2 [some (vA v0), some (vI v1), some (vI (w32 (v2 + 1)))] [] q4.2
    else
      some ([vI 0], q4.2)
  else
    some ([vI 1], hp) := (Rr_blk (Cd d) 99 [2] 31 2 _ _ hp).trans rfl
set_option maxRecDepth 100000 in
theorem c100 (d : Nat) (v0 v1 v2 v3 : Int) (hp : HP) {n : Nat} (hg : gS hp v0 = some (7, n)) : Cd (d + 1) 100 [vA v0, vI v1, vI v2, vI v3] hp =
  (gF hp 7 0 v0).bind fun x1 =>
  (gA hp 0 x1 (w32 (w32 (v1 * 3) + v2))).bind fun x2 =>
  ((Cd d 285 [vI x2] hp).bind toI).bind fun q3 =>
  ((Cd d 169 [vI v3, vI (w32 (q3.1 - 1))] q3.2).bind toI).bind fun q4 =>
  if 0 < x2 then
    Rr (Cd d) 100 22 [some (vA v0), some (vI v1), some (vI v2), some (vI v3), some (vI x2), some (vI q4.1)] [vI 1, vI q4.1] q4.2
  else
    Rr (Cd d) 100 22 [some (vA v0), some (vI v1), some (vI v2), some (vI v3), some (vI x2), some (vI q4.1)] [vI 0, vI q4.1] q4.2 := (Cd_inst rfl rfl rfl hg).trans ((Rr_blk (Cd d) 100 [22, 26] 29 0 _ [] hp).trans rfl)
set_option maxRecDepth 100000 in
theorem c100_22 (d : Nat) (s0 s1 : Int) (o0 o1 o2 o3 o4 o5 : Option AV) (hp : HP) : Rr (Cd d) 100 22 [o0, o1, o2, o3, o4, o5] [vI s1, vI s0] hp =
  if s0 = s1 then
    Rr (Cd d) 100 26 [o0, o1, o2, o3, o4, o5] [vI 0] hp
  else
    Rr (Cd d) 100 26 [o0, o1, o2, o3, o4, o5] [vI 1] hp := (Rr_blk (Cd d) 100 [22, 26] 29 22 _ _ hp).trans rfl
set_option maxRecDepth 100000 in
theorem c100_26 (d : Nat) (s0 : Int) (o0 o1 o2 o3 o4 o5 : Option AV) (hp : HP) : Rr (Cd d) 100 26 [o0, o1, o2, o3, o4, o5] [vI s0] hp =
  ((Cd d 159 [vI s0] hp).bind toI).bind fun q1 =>
  some ([vI q1.1], q1.2) := (Rr_blk (Cd d) 100 [22, 26] 29 26 _ _ hp).trans rfl
set_option maxRecDepth 100000 in
theorem c101 (d : Nat) (v0 : Int) (hp : HP) {n : Nat} (hg : gS hp v0 = some (7, n)) : Cd (d + 1) 101 [vA v0] hp =
  Rr (Cd d) 101 4 [some (vA v0), some (vI 0), some (vI 0)] [] hp := (Cd_inst rfl rfl rfl hg).trans ((Rr_blk (Cd d) 101 [4] 19 0 _ [] hp).trans rfl)
set_option maxRecDepth 100000 in
theorem c101_4 (d : Nat) (v0 v1 v2 : Int) (hp : HP) : Rr (Cd d) 101 4 [some (vA v0), some (vI v1), some (vI v2)] [] hp =
  ((Cd d 95 [vA v0] hp).bind toI).bind fun q1 =>
  if v2 < q1.1 then
    ((Cd d 102 [vA v0, vI v2] q1.2).bind toI).bind fun q2 =>
    Rr (Cd d) 101 4 [some (vA v0), some (vI (w32 (v1 + q2.1))), some (vI (w32 (v2 + 1)))] [] q2.2
  else
    some ([vI v1], q1.2) := (Rr_blk (Cd d) 101 [4] 19 4 _ _ hp).trans rfl
set_option maxRecDepth 100000 in
theorem c102 (d : Nat) (v0 v1 : Int) (hp : HP) {n : Nat} (hg : gS hp v0 = some (7, n)) : Cd (d + 1) 102 [vA v0, vI v1] hp =
  Rr (Cd d) 102 4 [some (vA v0), some (vI v1), some (vI 1), some (vI 0)] [] hp := (Cd_inst rfl rfl rfl hg).trans ((Rr_blk (Cd d) 102 [4] 32 0 _ [] hp).trans rfl)
set_option maxRecDepth 100000 in
theorem c102_4 (d : Nat) (v0 v1 v2 v3 : Int) (hp : HP) : Rr (Cd d) 102 4 [some (vA v0), some (vI v1), some (vI v2), some (vI v3)] [] hp =
  (gF hp 7 2 v0).bind fun x1 =>
  if v3 < x1 then
    ((Cd d 100 [vA v0, vI v3, vI 0, vI v1] hp).bind toI).bind fun q2 =>
    ((Cd d 100 [vA v0, vI v3, vI 1, vI v1] q2.2).bind toI).bind fun q3 =>
    ((Cd d 100 [vA v0, vI v3, vI 2, vI v1] q3.2).bind toI).bind fun q4 =>
    ((Cd d 103 [vI q2.1, vI q3.1, vI q4.1] q4.2).bind toI).bind fun q5 =>
    Rr (Cd d) 102 4 [some (vA v0), some (vI v1), some (vI (w32 (v2 * q5.1))), some (vI (w32 (v3 + 1)))] [] q5.2
  else
    some ([vI v2], hp) := (Rr_blk (Cd d) 102 [4] 32 4 _ _ hp).trans rfl
set_option maxRecDepth 100000 in
theorem c103 (d : Nat) (v0 v1 v2 : Int) (hp : HP) : Cd (d + 1) 103 [vI v0, vI v1, vI v2] hp =
  Rr (Cd d) 103 4 [some (vI v0), some (vI v1), some (vI v2), some (vI 0), some (vI 0), none, none, none, none] [] hp := (Rr_blk (Cd d) 103 [4, 21, 22, 25, 43, 44, 57, 67, 68] 78 0 _ [] hp).trans rfl
set_option maxRecDepth 100000 in
theorem c103_4 (d : Nat) (v0 v1 v2 v3 v4 : Int) (o5 o6 o7 o8 : Option AV) (hp : HP) : Rr (Cd d) 103 4 [some (vI v0), some (vI v1), some (vI v2), some (vI v3), some (vI v4), o5, o6, o7, o8] [] hp =
  if v4 < 18 then
    (gA hp 0 2 v4).bind fun x1 =>
    if x1 = v0 then
      Rr (Cd d) 103 21 [some (vI v0), some (vI v1), some (vI v2), some (vI v3), some (vI v4), o5, o6, o7, o8] [] hp
    else
      (gA hp 0 2 (w32 (v4 + 1))).bind fun x2 =>
      if x2 = v1 then
        Rr (Cd d) 103 21 [some (vI v0), some (vI v1), some (vI v2), some (vI v3), some (vI v4), o5, o6, o7, o8] [] hp
      else
        Rr (Cd d) 103 22 [some (vI v0), some (vI v1), some (vI v2), some (vI v3), some (vI v4), o5, o6, o7, o8] [vI 1] hp
  else
    some ([vI v3], hp) := (Rr_blk (Cd d) 103 [4, 21, 22, 25, 43, 44, 57, 67, 68] 78 4 _ _ hp).trans rfl
set_option maxRecDepth 100000 in
theorem c103_21 (d : Nat) (v0 v1 v2 v3 v4 : Int) (o5 o6 o7 o8 : Option AV) (hp : HP) : Rr (Cd d) 103 21 [some (vI v0), some (vI v1), some (vI v2), some (vI v3), some (vI v4), o5, o6, o7, o8] [] hp =
  Rr (Cd d) 103 22 [some (vI v0), some (vI v1), some (vI v2), some (vI v3), some (vI v4), o5, o6, o7, o8] [vI 0] hp := (Rr_blk (Cd d) 103 [4, 21, 22, 25, 43, 44, 57, 67, 68] 78 21 _ _ hp).trans rfl
set_option maxRecDepth 100000 in
theorem c103_22 (d : Nat) (v0 v1 v2 v3 v4 s0 : Int) (o5 o6 o7 o8 : Option AV) (hp : HP) : Rr (Cd d) 103 22 [some (vI v0), some (vI v1), some (vI v2), some (vI v3), some (vI v4), o5, o6, o7, o8] [vI s0] hp =
  Rr (Cd d) 103 25 [some (vI v0), some (vI v1), some (vI v2), some (vI v3), some (vI v4), some (vI s0), some (vI 0), o7, o8] [] hp := (Rr_blk (Cd d) 103 [4, 21, 22, 25, 43, 44, 57, 67, 68] 78 22 _ _ hp).trans rfl
set_option maxRecDepth 100000 in
theorem c103_25 (d : Nat) (v0 v1 v2 v3 v4 v5 v6 : Int) (o7 o8 : Option AV) (hp : HP) : Rr (Cd d) 103 25 [some (vI v0), some (vI v1), some (vI v2), some (vI v3), some (vI v4), some (vI v5), some (vI v6), o7, o8] [] hp =
  if v6 < 18 then
    (gA hp 0 2 (w32 (v6 + 1))).bind fun x1 =>
    if x1 = v2 then
      Rr (Cd d) 103 43 [some (vI v0), some (vI v1), some (vI v2), some (vI v3), some (vI v4), some (vI v5), some (vI v6), o7, o8] [] hp
    else
      (gA hp 0 2 (w32 (v6 + 2))).bind fun x2 =>
      if x2 = 0 then
        Rr (Cd d) 103 44 [some (vI v0), some (vI v1), some (vI v2), some (vI v3), some (vI v4), some (vI v5), some (vI v6), o7, o8] [vI 1] hp
      else
        Rr (Cd d) 103 43 [some (vI v0), some (vI v1), some (vI v2), some (vI v3), some (vI v4), some (vI v5), some (vI v6), o7, o8] [] hp
  else
    Rr (Cd d) 103 4 [some (vI v0), some (vI v1), some (vI v2), some (vI v3), some (vI (w32 (v4 + 3))), some (vI v5), some (vI v6), o7, o8] [] hp := (Rr_blk (Cd d) 103 [4, 21, 22, 25, 43, 44, 57, 67, 68] 78 25 _ _ hp).trans rfl
set_option maxRecDepth 100000 in
theorem c103_43 (d : Nat) (v0 v1 v2 v3 v4 v5 v6 : Int) (o7 o8 : Option AV) (hp : HP) : Rr (Cd d) 103 43 [some (vI v0), some (vI v1), some (vI v2), some (vI v3), some (vI v4), some (vI v5), some (vI v6), o7, o8] [] hp =
  Rr (Cd d) 103 44 [some (vI v0), some (vI v1), some (vI v2), some (vI v3), some (vI v4), some (vI v5), some (vI v6), o7, o8] [vI 0] hp := (Rr_blk (Cd d) 103 [4, 21, 22, 25, 43, 44, 57, 67, 68] 78 43 _ _ hp).trans rfl
set_option maxRecDepth 100000 in
theorem c103_44 (d : Nat) (v0 v1 v2 v3 v4 v5 v6 s0 : Int) (o7 o8 : Option AV) (hp : HP) : Rr (Cd d) 103 44 [some (vI v0), some (vI v1), some (vI v2), some (vI v3), some (vI v4), some (vI v5), some (vI v6), o7, o8] [vI s0] hp =
  (gA hp 0 2 (w32 (v4 + 2))).bind fun x1 =>
  (gA hp 0 2 v6).bind fun x2 =>
  if x1 = x2 then
    Rr (Cd d) 103 57 [some (vI v0), some (vI v1), some (vI v2), some (vI v3), some (vI v4), some (vI v5), some (vI v6), some (vI s0), o8] [vI 0] hp
  else
    Rr (Cd d) 103 57 [some (vI v0), some (vI v1), some (vI v2), some (vI v3), some (vI v4), some (vI v5), some (vI v6), some (vI s0), o8] [vI 1] hp := (Rr_blk (Cd d) 103 [4, 21, 22, 25, 43, 44, 57, 67, 68] 78 44 _ _ hp).trans rfl
set_option maxRecDepth 100000 in
theorem c103_57 (d : Nat) (v0 v1 v2 v3 v4 v5 v6 v7 s0 : Int) (o8 : Option AV) (hp : HP) : Rr (Cd d) 103 57 [some (vI v0), some (vI v1), some (vI v2), some (vI v3), some (vI v4), some (vI v5), some (vI v6), some (vI v7), o8] [vI s0] hp =
  if v5 = 0 then
    Rr (Cd d) 103 67 [some (vI v0), some (vI v1), some (vI v2), some (vI v3), some (vI v4), some (vI v5), some (vI v6), some (vI v7), some (vI s0)] [vI v3] hp
  else
    if v7 = 0 then
      Rr (Cd d) 103 67 [some (vI v0), some (vI v1), some (vI v2), some (vI v3), some (vI v4), some (vI v5), some (vI v6), some (vI v7), some (vI s0)] [vI v3] hp
    else
      if s0 = 0 then
        Rr (Cd d) 103 67 [some (vI v0), some (vI v1), some (vI v2), some (vI v3), some (vI v4), some (vI v5), some (vI v6), some (vI v7), some (vI s0)] [vI v3] hp
      else
        Rr (Cd d) 103 68 [some (vI v0), some (vI v1), some (vI v2), some (vI v3), some (vI v4), some (vI v5), some (vI v6), some (vI v7), some (vI s0)] [vI 1, vI v3] hp := (Rr_blk (Cd d) 103 [4, 21, 22, 25, 43, 44, 57, 67, 68] 78 57 _ _ hp).trans rfl
set_option maxRecDepth 100000 in
theorem c103_67 (d : Nat) (v0 v1 v2 v4 v5 v6 s0 : Int) (o3 o7 o8 : Option AV) (hp : HP) : Rr (Cd d) 103 67 [some (vI v0), some (vI v1), some (vI v2), o3, some (vI v4), some (vI v5), some (vI v6), o7, o8] [vI s0] hp =
  Rr (Cd d) 103 68 [some (vI v0), some (vI v1), some (vI v2), o3, some (vI v4), some (vI v5), some (vI v6), o7, o8] [vI 0, vI s0] hp := (Rr_blk (Cd d) 103 [4, 21, 22, 25, 43, 44, 57, 67, 68] 78 67 _ _ hp).trans rfl
set_option maxRecDepth 100000 in
theorem c103_68 (d : Nat) (v0 v1 v2 v4 v5 v6 s0 s1 : Int) (o3 o7 o8 : Option AV) (hp : HP) : Rr (Cd d) 103 68 [some (vI v0), some (vI v1), some (vI v2), o3, some (vI v4), some (vI v5), some (vI v6), o7, o8] [vI s1, vI s0] hp =
  ((Cd d 159 [vI s1] hp).bind toI).bind fun q1 =>
  Rr (Cd d) 103 25 [some (vI v0), some (vI v1), some (vI v2), some (vI (w32 (s0 + q1.1))), some (vI v4), some (vI v5), some (vI (w32 (v6 + 3))), o7, o8] [] q1.2 := (Rr_blk (Cd d) 103 [4, 21, 22, 25, 43, 44, 57, 67, 68] 78 68 _ _ hp).trans rfl
set_option maxRecDepth 100000 in
theorem c104 (d : Nat) (v0 : Int) (hp : HP) {n : Nat} (hg : gS hp v0 = some (8, n)) : Cd (d + 1) 104 [vA v0] hp =
  if 0 < v0 ∧ wid [] ≤ 8 then
    (pF (mk hp 100 49) 8 0 v0 ((hp.1.length : Int))).bind fun h1 =>
    some ([], h1)
  else none := (Cd_inst rfl rfl rfl hg).trans ((Rr_blk (Cd d) 104 [] 8 0 _ [] hp).trans rfl)
set_option maxRecDepth 100000 in
theorem c105 (d : Nat) (v0 v1 : Int) (hp : HP) {n : Nat} (hg : gS hp v0 = some (8, n)) : Cd (d + 1) 105 [vA v0, vA v1] hp =
  (gF hp 8 0 v1).bind fun x1 =>
  (gF hp 8 0 v0).bind fun x2 =>
  (gF hp 8 0 v0).bind fun x3 =>
  (gL hp x3).bind fun x4 =>
  (acp hp x1 0 x2 0 x4).bind fun h5 =>
  (gF h5 8 1 v1).bind fun x6 =>
  (pF h5 8 1 v0 x6).bind fun h7 =>
  (gF h7 8 2 v1).bind fun x8 =>
  (pF h7 8 2 v0 x8).bind fun h9 =>
  (gF h9 8 3 v1).bind fun x10 =>
  if x10 = 0 ∨ x10 = 1 then
    (pF h9 8 3 v0 x10).bind fun h11 =>
    some ([], h11)
  else none := (Cd_inst rfl rfl rfl hg).trans ((Rr_blk (Cd d) 105 [] 24 0 _ [] hp).trans rfl)
set_option maxRecDepth 100000 in
theorem c106 (d : Nat) (v0 : Int) (hp : HP) {n : Nat} (hg : gS hp v0 = some (9, n)) : Cd (d + 1) 106 [vA v0] hp =
  if 0 < v0 ∧ wid [] ≤ 8 then
    (pF (mk hp 100 20) 9 0 v0 ((hp.1.length : Int))).bind fun h1 =>
    (pF (mk h1 100 140) 9 1 v0 ((h1.1.length : Int))).bind fun h2 =>
    some ([], h2)
  else none := (Cd_inst rfl rfl rfl hg).trans ((Rr_blk (Cd d) 106 [] 12 0 _ [] hp).trans rfl)
set_option maxRecDepth 100000 in
theorem c107 (d : Nat) (v0 v1 v2 v3 : Int) (hp : HP) {n : Nat} (hg : gS hp v0 = some (9, n)) : Cd (d + 1) 107 [vA v0, vI v1, vI v2, vI v3] hp =
  if v3 = (-1) then
    (gF hp 9 0 v0).bind fun x6 =>
    (gA hp 0 x6 v1).bind fun x7 =>
    (pA hp 0 x6 v1 (iand x7 (ixor (ishl 1 v2) ((-1))))).bind fun h8 =>
    Rr (Cd d) 107 35 [some (vA v0), some (vI v1), some (vI v2), some (vI v3)] [] h8
  else
    (gF hp 9 0 v0).bind fun x1 =>
    (gA hp 0 x1 v1).bind fun x2 =>
    (pA hp 0 x1 v1 (ior x2 (ishl 1 v2))).bind fun h3 =>
    (gF h3 9 1 v0).bind fun x4 =>
    (pA h3 0 x4 (w32 (w32 (v1 * 7) + v2)) v3).bind fun h5 =>
    Rr (Cd d) 107 35 [some (vA v0), some (vI v1), some (vI v2), some (vI v3)] [] h5 := (Cd_inst rfl rfl rfl hg).trans ((Rr_blk (Cd d) 107 [35] 37 0 _ [] hp).trans rfl)
set_option maxRecDepth 100000 in
theorem c107_35 (d : Nat) (o0 o1 o2 o3 : Option AV) (hp : HP) : Rr (Cd d) 107 35 [o0, o1, o2, o3] [] hp =
  some ([], hp) := (Rr_blk (Cd d) 107 [35] 37 35 _ _ hp).trans rfl
set_option maxRecDepth 100000 in
theorem c108 (d : Nat) (v0 v1 : Int) (hp : HP) {n : Nat} (hg : gS hp v0 = some (9, n)) : Cd (d + 1) 108 [vA v0, vA v1] hp =
  (gF hp 9 0 v1).bind fun x1 =>
  (gF hp 9 0 v0).bind fun x2 =>
  (gF hp 9 0 v0).bind fun x3 =>
  (gL hp x3).bind fun x4 =>
  (acp hp x1 0 x2 0 x4).bind fun h5 =>
  (gF h5 9 1 v1).bind fun x6 =>
  (gF h5 9 1 v0).bind fun x7 =>
  (gF h5 9 1 v0).bind fun x8 =>
  (gL h5 x8).bind fun x9 =>
  (acp h5 x6 0 x7 0 x9).bind fun h10 =>
  some ([], h10) := (Cd_inst rfl rfl rfl hg).trans ((Rr_blk (Cd d) 108 [] 22 0 _ [] hp).trans rfl)
set_option maxRecDepth 100000 in
theorem c109 (d : Nat) (v0 : Int) (hp : HP) {n : Nat} (hg : gS hp v0 = some (9, n)) : Cd (d + 1) 109 [vA v0] hp =
  Rr (Cd d) 109 4 [some (vA v0), some (vI 0), some (vI 0)] [] hp := (Cd_inst rfl rfl rfl hg).trans ((Rr_blk (Cd d) 109 [4, 16] 24 0 _ [] hp).trans rfl)
set_option maxRecDepth 100000 in
theorem c109_4 (d : Nat) (v0 v1 v2 : Int) (hp : HP) : Rr (Cd d) 109 4 [some (vA v0), some (vI v1), some (vI v2)] [] hp =
  if v2 < 20 then
    (gF hp 9 0 v0).bind fun x1 =>
    (gA hp 0 x1 v2).bind fun x2 =>
    if x2 = 0 then
      Rr (Cd d) 109 16 [some (vA v0), some (vI v1), some (vI v2)] [vI 0, vI v1] hp
    else
      Rr (Cd d) 109 16 [some (vA v0), some (vI v1), some (vI v2)] [vI 1, vI v1] hp
  else
    some ([vI v1], hp) := (Rr_blk (Cd d) 109 [4, 16] 24 4 _ _ hp).trans rfl
set_option maxRecDepth 100000 in
theorem c109_16 (d : Nat) (v0 v2 s0 s1 : Int) (o1 : Option AV) (hp : HP) : Rr (Cd d) 109 16 [some (vA v0), o1, some (vI v2)] [vI s1, vI s0] hp =
  ((Cd d 159 [vI s1] hp).bind toI).bind fun q1 =>
  Rr (Cd d) 109 4 [some (vA v0), some (vI (w32 (s0 + q1.1))), some (vI (w32 (v2 + 1)))] [] q1.2 := (Rr_blk (Cd d) 109 [4, 16] 24 16 _ _ hp).trans rfl
set_option maxRecDepth 100000 in
theorem c110 (d : Nat) (v0 v1 v2 v3 v4 : Int) (hp : HP) {n : Nat} (hg : gS hp v0 = some (9, n)) : Cd (d + 1) 110 [vA v0, vI v1, vI v2, vI v3, vI v4] hp =
  Rr (Cd d) 110 12 [some (vA v0), some (vI v1), some (vI v2), some (vI v3), some (vI v4), some (vL 1), none, some (vI v3), some (vI (w32 (ishl 1 v2 - 1))), some (vI 0), none] [] hp := (Cd_inst rfl rfl rfl hg).trans ((Rr_blk (Cd d) 110 [12, 43, 45, 52] 54 0 _ [] hp).trans rfl)
set_option maxRecDepth 100000 in
theorem c110_12 (d : Nat) (v0 v1 v2 v3 v4 v5 v7 v8 v9 : Int) (o6 o10 : Option AV) (hp : HP) : Rr (Cd d) 110 12 [some (vA v0), some (vI v1), some (vI v2), some (vI v3), some (vI v4), some (vL v5), o6, some (vI v7), some (vI v8), some (vI v9), o10] [] hp =
  if v9 < 20 then
    if 0 < lcmp v5 0 then
      (gF hp 9 0 v0).bind fun x1 =>
      (gA hp 0 x1 v9).bind fun x2 =>
      if iand x2 v8 = 0 then
        Rr (Cd d) 110 43 [some (vA v0), some (vI v1), some (vI v2), some (vI v3), some (vI v4), some (vL v5), o6, some (vI v7), some (vI v8), some (vI v9), o10] [] hp
      else
        ((Cd d 111 [vA v0, vI v9, vI v1, vI v2, vI v3] hp).bind toI).bind fun q3 =>
        ((Cd d 284 [vI q3.1] q3.2).bind toI).bind fun q4 =>
        Rr (Cd d) 110 43 [some (vA v0), some (vI v1), some (vI v2), some (vI v3), some (vI v4), some (vL (w64 (v5 * q4.1))), none, some (vI (iand v7 q3.1)), some (vI v8), some (vI v9), some (vI q3.1)] [] q4.2
    else
      Rr (Cd d) 110 45 [some (vA v0), some (vI v1), some (vI v2), some (vI v3), some (vI v4), some (vL v5), o6, some (vI v7), some (vI v8), some (vI v9), o10] [] hp
  else
    Rr (Cd d) 110 45 [some (vA v0), some (vI v1), some (vI v2), some (vI v3), some (vI v4), some (vL v5), o6, some (vI v7), some (vI v8), some (vI v9), o10] [] hp := (Rr_blk (Cd d) 110 [12, 43, 45, 52] 54 12 _ _ hp).trans rfl
set_option maxRecDepth 100000 in
theorem c110_43 (d : Nat) (v0 v1 v2 v3 v4 v5 v7 v8 v9 : Int) (o6 o10 : Option AV) (hp : HP) : Rr (Cd d) 110 43 [some (vA v0), some (vI v1), some (vI v2), some (vI v3), some (vI v4), some (vL v5), o6, some (vI v7), some (vI v8), some (vI v9), o10] [] hp =
  Rr (Cd d) 110 12 [some (vA v0), some (vI v1), some (vI v2), some (vI v3), some (vI v4), some (vL v5), o6, some (vI v7), some (vI v8), some (vI (w32 (v9 + 1))), o10] [] hp := (Rr_blk (Cd d) 110 [12, 43, 45, 52] 54 43 _ _ hp).trans rfl
set_option maxRecDepth 100000 in
theorem c110_45 (d : Nat) (v4 v5 v7 : Int) (o0 o1 o2 o3 o6 o8 o9 o10 : Option AV) (hp : HP) : Rr (Cd d) 110 45 [o0, o1, o2, o3, some (vI v4), some (vL v5), o6, some (vI v7), o8, o9, o10] [] hp =
  if v4 = 0 then
    Rr (Cd d) 110 52 [o0, o1, o2, o3, some (vI v4), some (vL v5), o6, some (vI v7), o8, o9, o10] [vL v5] hp
  else
    ((Cd d 284 [vI v7] hp).bind toI).bind fun q1 =>
    Rr (Cd d) 110 52 [o0, o1, o2, o3, some (vI v4), some (vL v5), o6, some (vI v7), o8, o9, o10] [vL q1.1] q1.2 := (Rr_blk (Cd d) 110 [12, 43, 45, 52] 54 45 _ _ hp).trans rfl
set_option maxRecDepth 100000 in
theorem c110_52 (d : Nat) (s0 : Int) (o0 o1 o2 o3 o4 o5 o6 o7 o8 o9 o10 : Option AV) (hp : HP) : Rr (Cd d) 110 52 [o0, o1, o2, o3, o4, o5, o6, o7, o8, o9, o10] [vL s0] hp =
  some ([vL s0], hp) := (Rr_blk (Cd d) 110 [12, 43, 45, 52] 54 52 _ _ hp).trans rfl
set_option maxRecDepth 100000 in
theorem c111 (d : Nat) (v0 v1 v2 v3 v4 : Int) (hp : HP) {n : Nat} (hg : gS hp v0 = some (9, n)) : Cd (d + 1) 111 [vA v0, vI v1, vI v2, vI v3, vI v4] hp =
  Rr (Cd d) 111 4 [some (vA v0), some (vI v1), some (vI v2), some (vI v3), some (vI v4), some (vI v4), some (vI 0)] [] hp := (Cd_inst rfl rfl rfl hg).trans ((Rr_blk (Cd d) 111 [4, 33] 38 0 _ [] hp).trans rfl)
set_option maxRecDepth 100000 in
theorem c111_4 (d : Nat) (v0 v1 v2 v3 v5 v6 : Int) (o4 : Option AV) (hp : HP) : Rr (Cd d) 111 4 [some (vA v0), some (vI v1), some (vI v2), some (vI v3), o4, some (vI v5), some (vI v6)] [] hp =
  if v6 < v3 then
    (gF hp 9 0 v0).bind fun x1 =>
    (gA hp 0 x1 v1).bind fun x2 =>
    ((Cd d 169 [vI x2, vI v6] hp).bind toI).bind fun q3 =>
    if q3.1 = 0 then
      Rr (Cd d) 111 33 [some (vA v0), some (vI v1), some (vI v2), some (vI v3), o4, some (vI v5), some (vI v6)] [] q3.2
    else
      ((Cd d 165 [vI v2, vI v6] q3.2).bind toI).bind fun q4 =>
      (gF q4.2 9 1 v0).bind fun x5 =>
      (gA q4.2 0 x5 (w32 (w32 (v1 * 7) + v6))).bind fun x6 =>
      (gA q4.2 0 3 (w32 (w32 (q4.1 * 3) + x6))).bind fun x7 =>
      Rr (Cd d) 111 33 [some (vA v0), some (vI v1), some (vI v2), some (vI v3), o4, some (vI (iand v5 x7)), some (vI v6)] [] q4.2
  else
    some ([vI v5], hp) := (Rr_blk (Cd d) 111 [4, 33] 38 4 _ _ hp).trans rfl
set_option maxRecDepth 100000 in
theorem c111_33 (d : Nat) (v0 v1 v2 v3 v5 v6 : Int) (o4 : Option AV) (hp : HP) : Rr (Cd d) 111 33 [some (vA v0), some (vI v1), some (vI v2), some (vI v3), o4, some (vI v5), some (vI v6)] [] hp =
  Rr (Cd d) 111 4 [some (vA v0), some (vI v1), some (vI v2), some (vI v3), o4, some (vI v5), some (vI (w32 (v6 + 1)))] [] hp := (Rr_blk (Cd d) 111 [4, 33] 38 33 _ _ hp).trans rfl
set_option maxRecDepth 100000 in
theorem c112 (d : Nat) (v0 : Int) (hp : HP) {n : Nat} (hg : gS hp v0 = some (10, n)) : Cd (d + 1) 112 [vA v0] hp =
  if 0 < v0 ∧ wid [] ≤ 8 then
    (pF (mk hp 103 4) 10 0 v0 ((hp.1.length : Int))).bind fun h1 =>
    (pF (mk h1 104 8) 10 1 v0 ((h1.1.length : Int))).bind fun h2 =>
    ((Cd d 106 [vA ((h2.1.length : Int))] (mk h2 9 2)).bind toV).bind fun q3 =>
    (pF q3 10 2 v0 ((h2.1.length : Int))).bind fun h4 =>
    ((Cd d 0 [vA ((h4.1.length : Int))] (mk h4 0 3)).bind toV).bind fun q5 =>
    (pF q5 10 3 v0 ((h4.1.length : Int))).bind fun h6 =>
    ((Cd d 34 [vA ((h6.1.length : Int))] (mk h6 3 5)).bind toV).bind fun q7 =>
    (pF q7 10 4 v0 ((h6.1.length : Int))).bind fun h8 =>
    ((Cd d 90 [vA ((h8.1.length : Int))] (mk h8 7 3)).bind toV).bind fun q9 =>
    (pF q9 10 5 v0 ((h8.1.length : Int))).bind fun h10 =>
    Rr (Cd d) 112 32 [some (vA v0), some (vI 0)] [] h10
  else none := (Cd_inst rfl rfl rfl hg).trans ((Rr_blk (Cd d) 112 [32, 48] 64 0 _ [] hp).trans rfl)
set_option maxRecDepth 100000 in
theorem c112_32 (d : Nat) (v0 v1 : Int) (hp : HP) : Rr (Cd d) 112 32 [some (vA v0), some (vI v1)] [] hp =
  (gF hp 10 0 v0).bind fun x1 =>
  (gL hp x1).bind fun x2 =>
  if v1 < x2 then
    (gF hp 10 0 v0).bind fun x3 =>
    ((Cd d 6 [vA ((hp.1.length : Int))] (mk hp 1 10)).bind toV).bind fun q4 =>
    (pR q4 x3 v1 ((hp.1.length : Int))).bind fun h5 =>
    Rr (Cd d) 112 32 [some (vA v0), some (vI (w32 (v1 + 1)))] [] h5
  else
    Rr (Cd d) 112 48 [some (vA v0), some (vI 0)] [] hp := (Rr_blk (Cd d) 112 [32, 48] 64 32 _ _ hp).trans rfl
set_option maxRecDepth 100000 in
theorem c112_48 (d : Nat) (v0 v1 : Int) (hp : HP) : Rr (Cd d) 112 48 [some (vA v0), some (vI v1)] [] hp =
  (gF hp 10 1 v0).bind fun x1 =>
  (gL hp x1).bind fun x2 =>
  if v1 < x2 then
    (gF hp 10 1 v0).bind fun x3 =>
    ((Cd d 104 [vA ((hp.1.length : Int))] (mk hp 8 4)).bind toV).bind fun q4 =>
    (pR q4 x3 v1 ((hp.1.length : Int))).bind fun h5 =>
    Rr (Cd d) 112 48 [some (vA v0), some (vI (w32 (v1 + 1)))] [] h5
  else
    some ([], hp) := (Rr_blk (Cd d) 112 [32, 48] 64 48 _ _ hp).trans rfl
set_option maxRecDepth 100000 in
theorem c113 (d : Nat) (v0 v1 : Int) (hp : HP) {n : Nat} (hg : gS hp v0 = some (10, n)) : Cd (d + 1) 113 [vA v0, vI v1] hp =
  if v1 < 0 then
    Rr (Cd d) 113 11 [some (vA v0), some (vI v1)] [] hp
  else
    (gF hp 10 6 v0).bind fun x1 =>
    if v1 < x1 then
      (gF hp 10 0 v0).bind fun x2 =>
      (gR hp x2 v1).bind fun x3 =>
      Rr (Cd d) 113 12 [some (vA v0), some (vI v1)] [vA x3] hp
    else
      Rr (Cd d) 113 11 [some (vA v0), some (vI v1)] [] hp := (Cd_inst rfl rfl rfl hg).trans ((Rr_blk (Cd d) 113 [11, 12] 14 0 _ [] hp).trans rfl)
set_option maxRecDepth 100000 in
theorem c113_11 (d : Nat) (o0 o1 : Option AV) (hp : HP) : Rr (Cd d) 113 11 [o0, o1] [] hp =
  Rr (Cd d) 113 12 [o0, o1] [vA ((-1))] hp := (Rr_blk (Cd d) 113 [11, 12] 14 11 _ _ hp).trans rfl
set_option maxRecDepth 100000 in
theorem c113_12 (d : Nat) (s0 : Int) (o0 o1 : Option AV) (hp : HP) : Rr (Cd d) 113 12 [o0, o1] [vA s0] hp =
  if s0 = 0 then none else some ([vA s0], hp) := (Rr_blk (Cd d) 113 [11, 12] 14 12 _ _ hp).trans rfl
set_option maxRecDepth 100000 in
theorem c114 (d : Nat) (v0 v1 : Int) (hp : HP) {n : Nat} (hg : gS hp v0 = some (10, n)) : Cd (d + 1) 114 [vA v0, vI v1] hp =
  if v1 < 0 then
    Rr (Cd d) 114 11 [some (vA v0), some (vI v1)] [] hp
  else
    (gF hp 10 7 v0).bind fun x1 =>
    if v1 < x1 then
      (gF hp 10 1 v0).bind fun x2 =>
      (gR hp x2 v1).bind fun x3 =>
      Rr (Cd d) 114 12 [some (vA v0), some (vI v1)] [vA x3] hp
    else
      Rr (Cd d) 114 11 [some (vA v0), some (vI v1)] [] hp := (Cd_inst rfl rfl rfl hg).trans ((Rr_blk (Cd d) 114 [11, 12] 14 0 _ [] hp).trans rfl)
set_option maxRecDepth 100000 in
theorem c114_11 (d : Nat) (o0 o1 : Option AV) (hp : HP) : Rr (Cd d) 114 11 [o0, o1] [] hp =
  Rr (Cd d) 114 12 [o0, o1] [vA ((-1))] hp := (Rr_blk (Cd d) 114 [11, 12] 14 11 _ _ hp).trans rfl
set_option maxRecDepth 100000 in
theorem c114_12 (d : Nat) (s0 : Int) (o0 o1 : Option AV) (hp : HP) : Rr (Cd d) 114 12 [o0, o1] [vA s0] hp =
  if s0 = 0 then none else some ([vA s0], hp) := (Rr_blk (Cd d) 114 [11, 12] 14 12 _ _ hp).trans rfl
set_option maxRecDepth 100000 in
theorem c115 (d : Nat) (v0 v1 : Int) (hp : HP) {n : Nat} (hg : gS hp v0 = some (10, n)) : Cd (d + 1) 115 [vA v0, vA v1] hp =
  (gF hp 10 6 v1).bind fun x1 =>
  (pF hp 10 6 v0 x1).bind fun h2 =>
  Rr (Cd d) 115 6 [some (vA v0), some (vA v1), some (vI 0)] [] h2 := (Cd_inst rfl rfl rfl hg).trans ((Rr_blk (Cd d) 115 [6, 27] 64 0 _ [] hp).trans rfl)
set_option maxRecDepth 100000 in
theorem c115_6 (d : Nat) (v0 v1 v2 : Int) (hp : HP) : Rr (Cd d) 115 6 [some (vA v0), some (vA v1), some (vI v2)] [] hp =
  (gF hp 10 6 v0).bind fun x1 =>
  if v2 < x1 then
    (gF hp 10 0 v0).bind fun x4 =>
    (gR hp x4 v2).bind fun x5 =>
    (gF hp 10 0 v1).bind fun x6 =>
    (gR hp x6 v2).bind fun x7 =>
    ((Cd d 8 [vA x5, vA x7] hp).bind toV).bind fun q8 =>
    Rr (Cd d) 115 6 [some (vA v0), some (vA v1), some (vI (w32 (v2 + 1)))] [] q8
  else
    (gF hp 10 7 v1).bind fun x2 =>
    (pF hp 10 7 v0 x2).bind fun h3 =>
    Rr (Cd d) 115 27 [some (vA v0), some (vA v1), some (vI 0)] [] h3 := (Rr_blk (Cd d) 115 [6, 27] 64 6 _ _ hp).trans rfl
set_option maxRecDepth 100000 in
theorem c115_27 (d : Nat) (v0 v1 v2 : Int) (hp : HP) : Rr (Cd d) 115 27 [some (vA v0), some (vA v1), some (vI v2)] [] hp =
  (gF hp 10 7 v0).bind fun x1 =>
  if v2 < x1 then
    (gF hp 10 1 v0).bind fun x14 =>
    (gR hp x14 v2).bind fun x15 =>
    (gF hp 10 1 v1).bind fun x16 =>
    (gR hp x16 v2).bind fun x17 =>
    ((Cd d 105 [vA x15, vA x17] hp).bind toV).bind fun q18 =>
    Rr (Cd d) 115 27 [some (vA v0), some (vA v1), some (vI (w32 (v2 + 1)))] [] q18
  else
    (gF hp 10 2 v0).bind fun x2 =>
    (gF hp 10 2 v1).bind fun x3 =>
    ((Cd d 108 [vA x2, vA x3] hp).bind toV).bind fun q4 =>
    (gF q4 10 3 v0).bind fun x5 =>
    (gF q4 10 3 v1).bind fun x6 =>
    ((Cd d 2 [vA x5, vA x6] q4).bind toV).bind fun q7 =>
    (gF q7 10 4 v0).bind fun x8 =>
    (gF q7 10 4 v1).bind fun x9 =>
    ((Cd d 37 [vA x8, vA x9] q7).bind toV).bind fun q10 =>
    (gF q10 10 5 v0).bind fun x11 =>
    (gF q10 10 5 v1).bind fun x12 =>
    ((Cd d 92 [vA x11, vA x12] q10).bind toV).bind fun q13 =>
    some ([], q13) := (Rr_blk (Cd d) 115 [6, 27] 64 27 _ _ hp).trans rfl
