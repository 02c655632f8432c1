/-! the methods as equations, written by a program -/
set_option maxRecDepth 100000 in
theorem c23 (d : Nat) (v0 : Int) (hp : HP) {n : Nat} (hg : gS hp v0 = some (2, n)) : Cd (d + 1) 23 [vA v0] hp =
  if 0 < v0 ∧ wid [] ≤ 8 then
    (pF (mk hp 100 300) 2 0 v0 ((hp.1.length : Int))).bind fun h1 =>
    (pF (mk h1 100 300) 2 1 v0 ((h1.1.length : Int))).bind fun h2 =>
    (pF (mk h2 101 300) 2 2 v0 ((h2.1.length : Int))).bind fun h3 =>
    some ([], h3)
  else none := (Cd_inst rfl rfl rfl hg).trans ((Rr_blk (Cd d) 23 [] 16 0 _ [] hp).trans rfl)
set_option maxRecDepth 100000 in
theorem c24 (d : Nat) (v0 : Int) (hp : HP) : Cd (d + 1) 24 [vI v0] hp =
  if v0 = 60 then
    Rr (Cd d) 24 18 [some (vI v0)] [] hp
  else
    if v0 = 4 then
      Rr (Cd d) 24 18 [some (vI v0)] [] hp
    else
      if v0 = 62 then
        Rr (Cd d) 24 18 [some (vI v0)] [] hp
      else
        if v0 = 5 then
          Rr (Cd d) 24 18 [some (vI v0)] [] hp
        else
          if v0 = 61 then
            Rr (Cd d) 24 18 [some (vI v0)] [] hp
          else
            if v0 = 35 then
              Rr (Cd d) 24 18 [some (vI v0)] [] hp
            else
              Rr (Cd d) 24 21 [some (vI v0)] [vI 0] hp := (Rr_blk (Cd d) 24 [18, 21] 23 0 _ [] hp).trans rfl
set_option maxRecDepth 100000 in
theorem c24_18 (d : Nat) (o0 : Option AV) (hp : HP) : Rr (Cd d) 24 18 [o0] [] hp =
  Rr (Cd d) 24 21 [o0] [vI 1] hp := (Rr_blk (Cd d) 24 [18, 21] 23 18 _ _ hp).trans rfl
set_option maxRecDepth 100000 in
theorem c24_21 (d : Nat) (s0 : Int) (o0 : Option AV) (hp : HP) : Rr (Cd d) 24 21 [o0] [vI s0] hp =
  if s0 = 0 ∨ s0 = 1 then some ([vI s0], hp) else none := (Rr_blk (Cd d) 24 [18, 21] 23 21 _ _ hp).trans rfl
set_option maxRecDepth 100000 in
theorem c25 (d : Nat) (v0 : Int) (hp : HP) {n : Nat} (hg : gS hp v0 = some (2, n)) : Cd (d + 1) 25 [vA v0] hp =
  (pF hp 2 3 v0 0).bind fun h1 =>
  some ([], h1) := (Cd_inst rfl rfl rfl hg).trans ((Rr_blk (Cd d) 25 [] 5 0 _ [] hp).trans rfl)
set_option maxRecDepth 100000 in
theorem c26 (d : Nat) (v0 v1 v2 : Int) (hp : HP) {n : Nat} (hg : gS hp v0 = some (2, n)) : Cd (d + 1) 26 [vA v0, vI v1, vI v2] hp =
  (gF hp 2 3 v0).bind fun x1 =>
  if x1 < 300 then
    (gF hp 2 0 v0).bind fun x2 =>
    (gF hp 2 3 v0).bind fun x3 =>
    (pA hp 0 x2 x3 v1).bind fun h4 =>
    (gF h4 2 1 v0).bind fun x5 =>
    (gF h4 2 3 v0).bind fun x6 =>
    (pA h4 0 x5 x6 v2).bind fun h7 =>
    (gF h7 2 3 v0).bind fun x8 =>
    (pF h7 2 3 v0 (w32 (x8 + 1))).bind fun h9 =>
    Rr (Cd d) 26 22 [some (vA v0), some (vI v1), some (vI v2)] [] h9
  else
    Rr (Cd d) 26 22 [some (vA v0), some (vI v1), some (vI v2)] [] hp := (Cd_inst rfl rfl rfl hg).trans ((Rr_blk (Cd d) 26 [22] 24 0 _ [] hp).trans rfl)
set_option maxRecDepth 100000 in
theorem c26_22 (d : Nat) (o0 o1 o2 : Option AV) (hp : HP) : Rr (Cd d) 26 22 [o0, o1, o2] [] hp =
  some ([], hp) := (Rr_blk (Cd d) 26 [22] 24 22 _ _ hp).trans rfl
set_option maxRecDepth 100000 in
theorem c27 (d : Nat) (v0 v1 : Int) (hp : HP) {n : Nat} (hg : gS hp v0 = some (2, n)) : Cd (d + 1) 27 [vA v0, vA v1] hp =
  Rr (Cd d) 27 2 [some (vA v0), some (vA v1), some (vI 0)] [] hp := (Cd_inst rfl rfl rfl hg).trans ((Rr_blk (Cd d) 27 [2, 16] 21 0 _ [] hp).trans rfl)
set_option maxRecDepth 100000 in
theorem c27_2 (d : Nat) (v0 v1 v2 : Int) (hp : HP) : Rr (Cd d) 27 2 [some (vA v0), some (vA v1), some (vI v2)] [] hp =
  (gL hp v1).bind fun x1 =>
  if v2 < x1 then
    (gF hp 2 3 v0).bind fun x2 =>
    if x2 = 0 then
      Rr (Cd d) 27 16 [some (vA v0), some (vA v1), some (vI v2)] [vI 511, vI v2, vA v1] hp
    else
      ((Cd d 28 [vA v0, vI v2] hp).bind toI).bind fun q3 =>
      Rr (Cd d) 27 16 [some (vA v0), some (vA v1), some (vI v2)] [vI q3.1, vI v2, vA v1] q3.2
  else
    some ([], hp) := (Rr_blk (Cd d) 27 [2, 16] 21 2 _ _ hp).trans rfl
set_option maxRecDepth 100000 in
theorem c27_16 (d : Nat) (v0 v1 v2 s0 s1 s2 : Int) (hp : HP) : Rr (Cd d) 27 16 [some (vA v0), some (vA v1), some (vI v2)] [vI s2, vI s1, vA s0] hp =
  (pA hp 0 s0 s1 s2).bind fun h1 =>
  Rr (Cd d) 27 2 [some (vA v0), some (vA v1), some (vI (w32 (v2 + 1)))] [] h1 := (Rr_blk (Cd d) 27 [2, 16] 21 16 _ _ hp).trans rfl
set_option maxRecDepth 100000 in
theorem c28 (d : Nat) (v0 v1 : Int) (hp : HP) {n : Nat} (hg : gS hp v0 = some (2, n)) : Cd (d + 1) 28 [vA v0, vI v1] hp =
  (pF hp 2 6 v0 (idiv v1 7)).bind fun h1 =>
  (pF h1 2 7 v0 (irem v1 7)).bind fun h2 =>
  Rr (Cd d) 28 14 [some (vA v0), some (vI v1), some (vI 0), some (vI 0)] [] h2 := (Cd_inst rfl rfl rfl hg).trans ((Rr_blk (Cd d) 28 [14, 36] 41 0 _ [] hp).trans rfl)
set_option maxRecDepth 100000 in
theorem c28_14 (d : Nat) (v0 v2 v3 : Int) (o1 : Option AV) (hp : HP) : Rr (Cd d) 28 14 [some (vA v0), o1, some (vI v2), some (vI v3)] [] hp =
  if v3 < 9 then
    (pF hp 2 4 v0 (idiv v3 3)).bind fun h1 =>
    (pF h1 2 5 v0 (irem v3 3)).bind fun h2 =>
    ((Cd d 29 [vA v0] h2).bind toI).bind fun q3 =>
    if q3.1 = 0 then
      Rr (Cd d) 28 36 [some (vA v0), o1, some (vI v2), some (vI v3)] [] q3.2
    else
      Rr (Cd d) 28 36 [some (vA v0), o1, some (vI (ior v2 (ishl 1 v3))), some (vI v3)] [] q3.2
  else
    some ([vI v2], hp) := (Rr_blk (Cd d) 28 [14, 36] 41 14 _ _ hp).trans rfl
set_option maxRecDepth 100000 in
theorem c28_36 (d : Nat) (v0 v2 v3 : Int) (o1 : Option AV) (hp : HP) : Rr (Cd d) 28 36 [some (vA v0), o1, some (vI v2), some (vI v3)] [] hp =
  Rr (Cd d) 28 14 [some (vA v0), o1, some (vI v2), some (vI (w32 (v3 + 1)))] [] hp := (Rr_blk (Cd d) 28 [14, 36] 41 36 _ _ hp).trans rfl
set_option maxRecDepth 100000 in
theorem c29 (d : Nat) (v0 : Int) (hp : HP) {n : Nat} (hg : gS hp v0 = some (2, n)) : Cd (d + 1) 29 [vA v0] hp =
  Rr (Cd d) 29 4 [some (vA v0), some (vI 0), some (vI 0), none] [] hp := (Cd_inst rfl rfl rfl hg).trans ((Rr_blk (Cd d) 29 [4, 19, 45, 88, 101, 102] 104 0 _ [] hp).trans rfl)
set_option maxRecDepth 100000 in
theorem c29_4 (d : Nat) (v0 v1 v2 : Int) (o3 : Option AV) (hp : HP) : Rr (Cd d) 29 4 [some (vA v0), some (vI v1), some (vI v2), o3] [] hp =
  (gF hp 2 3 v0).bind fun x1 =>
  if v2 < x1 then
    (gF hp 2 0 v0).bind fun x4 =>
    (gA hp 0 x4 v2).bind fun x5 =>
    if x5 = 6 then
      Rr (Cd d) 29 19 [some (vA v0), some (vI v1), some (vI v2), some (vI x5)] [] hp
    else
      if x5 = 7 then
        Rr (Cd d) 29 19 [some (vA v0), some (vI v1), some (vI v2), some (vI x5)] [] hp
      else
        ((Cd d 30 [vI x5] hp).bind toI).bind fun q6 =>
        if q6.1 = 0 then
          if 1 < v1 then
            (gF q6.2 2 2 v0).bind fun x7 =>
            (gF q6.2 2 2 v0).bind fun x8 =>
            (gA q6.2 1 x8 (w32 (w32 (v1 + (-1)) - 1))).bind fun x9 =>
            (gF q6.2 2 2 v0).bind fun x10 =>
            (gA q6.2 1 x10 (w32 (v1 + (-1)))).bind fun x11 =>
            ((Cd d 32 [vI x5, vL x9, vL x11] q6.2).bind toL).bind fun q12 =>
            (pA q12.2 1 x7 (w32 (w32 (v1 + (-1)) - 1)) q12.1).bind fun h13 =>
            Rr (Cd d) 29 88 [some (vA v0), some (vI (w32 (v1 + (-1)))), some (vI v2), some (vI x5)] [] h13
          else
            Rr (Cd d) 29 88 [some (vA v0), some (vI v1), some (vI v2), some (vI x5)] [] q6.2
        else
          if v1 < 300 then
            (gF q6.2 2 2 v0).bind fun x14 =>
            (gF q6.2 2 1 v0).bind fun x15 =>
            (gA q6.2 0 x15 v2).bind fun x16 =>
            ((Cd d 31 [vA v0, vI x5, vI x16] q6.2).bind toL).bind fun q17 =>
            (pA q17.2 1 x14 v1 q17.1).bind fun h18 =>
            Rr (Cd d) 29 88 [some (vA v0), some (vI (w32 (v1 + 1))), some (vI v2), some (vI x5)] [] h18
          else
            Rr (Cd d) 29 88 [some (vA v0), some (vI v1), some (vI v2), some (vI x5)] [] q6.2
  else
    if 0 < v1 then
      (gF hp 2 2 v0).bind fun x2 =>
      (gA hp 1 x2 0).bind fun x3 =>
      if lcmp x3 0 = 0 then
        Rr (Cd d) 29 101 [some (vA v0), some (vI v1), some (vI v2), o3] [] hp
      else
        Rr (Cd d) 29 102 [some (vA v0), some (vI v1), some (vI v2), o3] [vI 1] hp
    else
      Rr (Cd d) 29 101 [some (vA v0), some (vI v1), some (vI v2), o3] [] hp := (Rr_blk (Cd d) 29 [4, 19, 45, 88, 101, 102] 104 4 _ _ hp).trans rfl
set_option maxRecDepth 100000 in
theorem c29_19 (d : Nat) (v0 v1 v2 v3 : Int) (hp : HP) : Rr (Cd d) 29 19 [some (vA v0), some (vI v1), some (vI v2), some (vI v3)] [] hp =
  if 0 < v1 then
    (gF hp 2 2 v0).bind fun x1 =>
    if v3 = 6 then
      (gF hp 2 2 v0).bind fun x4 =>
      (gA hp 1 x4 (w32 (v1 - 1))).bind fun x5 =>
      Rr (Cd d) 29 45 [some (vA v0), some (vI v1), some (vI v2), some (vI v3)] [vL (w64 (-x5)), vI (w32 (v1 - 1)), vA x1] hp
    else
      (gF hp 2 2 v0).bind fun x2 =>
      (gA hp 1 x2 (w32 (v1 - 1))).bind fun x3 =>
      Rr (Cd d) 29 45 [some (vA v0), some (vI v1), some (vI v2), some (vI v3)] [vL (w64 (1 - x3)), vI (w32 (v1 - 1)), vA x1] hp
  else
    Rr (Cd d) 29 88 [some (vA v0), some (vI v1), some (vI v2), some (vI v3)] [] hp := (Rr_blk (Cd d) 29 [4, 19, 45, 88, 101, 102] 104 19 _ _ hp).trans rfl
set_option maxRecDepth 100000 in
theorem c29_45 (d : Nat) (v0 v1 v2 s0 s1 s2 : Int) (o3 : Option AV) (hp : HP) : Rr (Cd d) 29 45 [some (vA v0), some (vI v1), some (vI v2), o3] [vL s2, vI s1, vA s0] hp =
  (pA hp 1 s0 s1 s2).bind fun h1 =>
  Rr (Cd d) 29 88 [some (vA v0), some (vI v1), some (vI v2), o3] [] h1 := (Rr_blk (Cd d) 29 [4, 19, 45, 88, 101, 102] 104 45 _ _ hp).trans rfl
set_option maxRecDepth 100000 in
theorem c29_88 (d : Nat) (v0 v1 v2 : Int) (o3 : Option AV) (hp : HP) : Rr (Cd d) 29 88 [some (vA v0), some (vI v1), some (vI v2), o3] [] hp =
  Rr (Cd d) 29 4 [some (vA v0), some (vI v1), some (vI (w32 (v2 + 1))), o3] [] hp := (Rr_blk (Cd d) 29 [4, 19, 45, 88, 101, 102] 104 88 _ _ hp).trans rfl
set_option maxRecDepth 100000 in
theorem c29_101 (d : Nat) (o0 o1 o2 o3 : Option AV) (hp : HP) : Rr (Cd d) 29 101 [o0, o1, o2, o3] [] hp =
  Rr (Cd d) 29 102 [o0, o1, o2, o3] [vI 0] hp := (Rr_blk (Cd d) 29 [4, 19, 45, 88, 101, 102] 104 101 _ _ hp).trans rfl
set_option maxRecDepth 100000 in
theorem c29_102 (d : Nat) (s0 : Int) (o0 o1 o2 o3 : Option AV) (hp : HP) : Rr (Cd d) 29 102 [o0, o1, o2, o3] [vI s0] hp =
  if s0 = 0 ∨ s0 = 1 then some ([vI s0], hp) else none := (Rr_blk (Cd d) 29 [4, 19, 45, 88, 101, 102] 104 102 _ _ hp).trans rfl
set_option maxRecDepth 100000 in
theorem c30 (d : Nat) (v0 : Int) (hp : HP) : Cd (d + 1) 30 [vI v0] hp =
  if v0 = 3 then
    Rr (Cd d) 30 15 [some (vI v0)] [] hp
  else
    if v0 = 97 then
      Rr (Cd d) 30 15 [some (vI v0)] [] hp
    else
      if v0 = 98 then
        Rr (Cd d) 30 15 [some (vI v0)] [] hp
      else
        if v0 = 120 then
          Rr (Cd d) 30 15 [some (vI v0)] [] hp
        else
          if v0 = 121 then
            Rr (Cd d) 30 15 [some (vI v0)] [] hp
          else
            Rr (Cd d) 30 18 [some (vI v0)] [vI 0] hp := (Rr_blk (Cd d) 30 [15, 18] 20 0 _ [] hp).trans rfl
set_option maxRecDepth 100000 in
theorem c30_15 (d : Nat) (o0 : Option AV) (hp : HP) : Rr (Cd d) 30 15 [o0] [] hp =
  Rr (Cd d) 30 18 [o0] [vI 1] hp := (Rr_blk (Cd d) 30 [15, 18] 20 15 _ _ hp).trans rfl
set_option maxRecDepth 100000 in
theorem c30_18 (d : Nat) (s0 : Int) (o0 : Option AV) (hp : HP) : Rr (Cd d) 30 18 [o0] [vI s0] hp =
  if s0 = 0 ∨ s0 = 1 then some ([vI s0], hp) else none := (Rr_blk (Cd d) 30 [15, 18] 20 18 _ _ hp).trans rfl
set_option maxRecDepth 100000 in
theorem c31 (d : Nat) (v0 v1 v2 : Int) (hp : HP) {n : Nat} (hg : gS hp v0 = some (2, n)) : Cd (d + 1) 31 [vA v0, vI v1, vI v2] hp =
  if v1 = 97 then
    (gF hp 2 4 v0).bind fun x1 =>
    some ([vL x1], hp)
  else
  if v1 = 98 then
    (gF hp 2 5 v0).bind fun x2 =>
    some ([vL x2], hp)
  else
  if v1 = 120 then
    (gF hp 2 6 v0).bind fun x3 =>
    some ([vL x3], hp)
  else
  if v1 = 121 then
    (gF hp 2 7 v0).bind fun x4 =>
    some ([vL x4], hp)
  else
  some ([vL v2], hp) := (Cd_inst rfl rfl rfl hg).trans ((Rr_blk (Cd d) 31 [] 22 0 _ [] hp).trans rfl)
set_option maxRecDepth 100000 in
theorem c32 (d : Nat) (v0 v1 v3 : Int) (hp : HP) : Cd (d + 1) 32 [vI v0, vL v1, vL v3] hp =
  if v0 = 4 then
    if 0 < lcmp v1 v3 then
      Rr (Cd d) 32 34 [some (vI v0), some (vL v1), none, some (vL v3), none] [vI 0] hp
    else
      Rr (Cd d) 32 34 [some (vI v0), some (vL v1), none, some (vL v3), none] [vI 1] hp
  else
  if v0 = 5 then
    if lcmp v1 v3 < 0 then
      Rr (Cd d) 32 54 [some (vI v0), some (vL v1), none, some (vL v3), none] [vI 0] hp
    else
      Rr (Cd d) 32 54 [some (vI v0), some (vL v1), none, some (vL v3), none] [vI 1] hp
  else
  if v0 = 8 then
    some ([vL (lland v1 v3)], hp)
  else
  if v0 = 35 then
    if lcmp v1 v3 = 0 then
      Rr (Cd d) 32 74 [some (vI v0), some (vL v1), none, some (vL v3), none] [vI 0] hp
    else
      Rr (Cd d) 32 74 [some (vI v0), some (vL v1), none, some (vL v3), none] [vI 1] hp
  else
  if v0 = 42 then
    ((Cd d 33 [vL (w64 (v1 * v3))] hp).bind toL).bind fun q1 =>
    some ([vL q1.1], q1.2)
  else
  if v0 = 43 then
    ((Cd d 33 [vL (w64 (v1 + v3))] hp).bind toL).bind fun q2 =>
    some ([vL q2.1], q2.2)
  else
  if v0 = 45 then
    ((Cd d 33 [vL (w64 (v1 - v3))] hp).bind toL).bind fun q3 =>
    some ([vL q3.1], q3.2)
  else
  if v0 = 60 then
    if lcmp v1 v3 < 0 then
      Rr (Cd d) 32 24 [some (vI v0), some (vL v1), none, some (vL v3), none] [vI 1] hp
    else
      Rr (Cd d) 32 24 [some (vI v0), some (vL v1), none, some (vL v3), none] [vI 0] hp
  else
  if v0 = 61 then
    if lcmp v1 v3 = 0 then
      Rr (Cd d) 32 64 [some (vI v0), some (vL v1), none, some (vL v3), none] [vI 1] hp
    else
      Rr (Cd d) 32 64 [some (vI v0), some (vL v1), none, some (vL v3), none] [vI 0] hp
  else
  if v0 = 62 then
    if 0 < lcmp v1 v3 then
      Rr (Cd d) 32 44 [some (vI v0), some (vL v1), none, some (vL v3), none] [vI 1] hp
    else
      Rr (Cd d) 32 44 [some (vI v0), some (vL v1), none, some (vL v3), none] [vI 0] hp
  else
  some ([vL (llor v1 v3)], hp) := (Rr_blk (Cd d) 32 [24, 34, 44, 54, 64, 74] 86 0 _ [] hp).trans rfl
set_option maxRecDepth 100000 in
theorem c32_24 (d : Nat) (s0 : Int) (o0 o1 o2 o3 o4 : Option AV) (hp : HP) : Rr (Cd d) 32 24 [o0, o1, o2, o3, o4] [vI s0] hp =
  ((Cd d 159 [vI s0] hp).bind toI).bind fun q1 =>
  some ([vL q1.1], q1.2) := (Rr_blk (Cd d) 32 [24, 34, 44, 54, 64, 74] 86 24 _ _ hp).trans rfl
set_option maxRecDepth 100000 in
theorem c32_34 (d : Nat) (s0 : Int) (o0 o1 o2 o3 o4 : Option AV) (hp : HP) : Rr (Cd d) 32 34 [o0, o1, o2, o3, o4] [vI s0] hp =
  ((Cd d 159 [vI s0] hp).bind toI).bind fun q1 =>
  some ([vL q1.1], q1.2) := (Rr_blk (Cd d) 32 [24, 34, 44, 54, 64, 74] 86 34 _ _ hp).trans rfl
set_option maxRecDepth 100000 in
theorem c32_44 (d : Nat) (s0 : Int) (o0 o1 o2 o3 o4 : Option AV) (hp : HP) : Rr (Cd d) 32 44 [o0, o1, o2, o3, o4] [vI s0] hp =
  ((Cd d 159 [vI s0] hp).bind toI).bind fun q1 =>
  some ([vL q1.1], q1.2) := (Rr_blk (Cd d) 32 [24, 34, 44, 54, 64, 74] 86 44 _ _ hp).trans rfl
set_option maxRecDepth 100000 in
theorem c32_54 (d : Nat) (s0 : Int) (o0 o1 o2 o3 o4 : Option AV) (hp : HP) : Rr (Cd d) 32 54 [o0, o1, o2, o3, o4] [vI s0] hp =
  ((Cd d 159 [vI s0] hp).bind toI).bind fun q1 =>
  some ([vL q1.1], q1.2) := (Rr_blk (Cd d) 32 [24, 34, 44, 54, 64, 74] 86 54 _ _ hp).trans rfl
set_option maxRecDepth 100000 in
theorem c32_64 (d : Nat) (s0 : Int) (o0 o1 o2 o3 o4 : Option AV) (hp : HP) : Rr (Cd d) 32 64 [o0, o1, o2, o3, o4] [vI s0] hp =
  ((Cd d 159 [vI s0] hp).bind toI).bind fun q1 =>
  some ([vL q1.1], q1.2) := (Rr_blk (Cd d) 32 [24, 34, 44, 54, 64, 74] 86 64 _ _ hp).trans rfl
set_option maxRecDepth 100000 in
theorem c32_74 (d : Nat) (s0 : Int) (o0 o1 o2 o3 o4 : Option AV) (hp : HP) : Rr (Cd d) 32 74 [o0, o1, o2, o3, o4] [vI s0] hp =
  ((Cd d 159 [vI s0] hp).bind toI).bind fun q1 =>
  some ([vL q1.1], q1.2) := (Rr_blk (Cd d) 32 [24, 34, 44, 54, 64, 74] 86 74 _ _ hp).trans rfl
set_option maxRecDepth 100000 in
theorem c33 (d : Nat) (v0 : Int) (hp : HP) : Cd (d + 1) 33 [vL v0] hp =
  ((Cd d 289 [vL 1000000000, vL v0] hp).bind toL).bind fun q1 =>
  ((Cd d 287 [vL ((-1000000000)), vL q1.1] q1.2).bind toL).bind fun q2 =>
  some ([vL q2.1], q2.2) := (Rr_blk (Cd d) 33 [] 7 0 _ [] hp).trans rfl
set_option maxRecDepth 100000 in
theorem c34 (d : Nat) (v0 : Int) (hp : HP) {n : Nat} (hg : gS hp v0 = some (3, n)) : Cd (d + 1) 34 [vA v0] hp =
  if 0 < v0 ∧ wid [] ≤ 8 then
    (pF hp 3 0 v0 1).bind fun h1 =>
    (pF h1 3 3 v0 3).bind fun h2 =>
    (pF h2 3 4 v0 1).bind fun h3 =>
    some ([], h3)
  else none := (Cd_inst rfl rfl rfl hg).trans ((Rr_blk (Cd d) 34 [] 13 0 _ [] hp).trans rfl)
set_option maxRecDepth 100000 in
theorem c35 (d : Nat) (v0 : Int) (hp : HP) : Cd (d + 1) 35 [vI v0] hp =
  if v0 < 0 then
    Rr (Cd d) 35 7 [some (vI v0)] [] hp
  else
    if 63 < v0 then
      Rr (Cd d) 35 7 [some (vI v0)] [] hp
    else
      Rr (Cd d) 35 8 [some (vI v0)] [vI 1] hp := (Rr_blk (Cd d) 35 [7, 8] 10 0 _ [] hp).trans rfl
set_option maxRecDepth 100000 in
theorem c35_7 (d : Nat) (o0 : Option AV) (hp : HP) : Rr (Cd d) 35 7 [o0] [] hp =
  Rr (Cd d) 35 8 [o0] [vI 0] hp := (Rr_blk (Cd d) 35 [7, 8] 10 7 _ _ hp).trans rfl
set_option maxRecDepth 100000 in
theorem c35_8 (d : Nat) (s0 : Int) (o0 : Option AV) (hp : HP) : Rr (Cd d) 35 8 [o0] [vI s0] hp =
  if s0 = 0 ∨ s0 = 1 then some ([vI s0], hp) else none := (Rr_blk (Cd d) 35 [7, 8] 10 8 _ _ hp).trans rfl
set_option maxRecDepth 100000 in
theorem c36 (d : Nat) (v0 v1 v2 v3 v4 v5 : Int) (hp : HP) {n : Nat} (hg : gS hp v0 = some (3, n)) : Cd (d + 1) 36 [vA v0, vI v1, vI v2, vI v3, vI v4, vI v5] hp =
  ((Cd d 35 [vI v1] hp).bind toI).bind fun q1 =>
  if q1.1 = 0 then
    Rr (Cd d) 36 9 [some (vA v0), some (vI v1), some (vI v2), some (vI v3), some (vI v4), some (vI v5)] [] q1.2
  else
    ((Cd d 35 [vI v2] q1.2).bind toI).bind fun q2 =>
    if q2.1 = 0 then
      Rr (Cd d) 36 9 [some (vA v0), some (vI v1), some (vI v2), some (vI v3), some (vI v4), some (vI v5)] [] q2.2
    else
      ((Cd d 35 [vI v3] q2.2).bind toI).bind fun q3 =>
      if q3.1 = 0 then
        Rr (Cd d) 36 9 [some (vA v0), some (vI v1), some (vI v2), some (vI v3), some (vI v4), some (vI v5)] [] q3.2
      else
        if v4 < 1 then
          Rr (Cd d) 36 23 [some (vA v0), some (vI v1), some (vI v2), some (vI v3), some (vI v4), some (vI v5)] [] q3.2
        else
          if 64 < v4 then
            Rr (Cd d) 36 23 [some (vA v0), some (vI v1), some (vI v2), some (vI v3), some (vI v4), some (vI v5)] [] q3.2
          else
            if v5 < 1 then
              Rr (Cd d) 36 23 [some (vA v0), some (vI v1), some (vI v2), some (vI v3), some (vI v4), some (vI v5)] [] q3.2
            else
              if 32 < v5 then
                Rr (Cd d) 36 23 [some (vA v0), some (vI v1), some (vI v2), some (vI v3), some (vI v4), some (vI v5)] [] q3.2
              else
                (pF q3.2 3 0 v0 v1).bind fun h4 =>
                (pF h4 3 1 v0 v2).bind fun h5 =>
                (pF h5 3 2 v0 v3).bind fun h6 =>
                (pF h6 3 3 v0 v4).bind fun h7 =>
                (pF h7 3 4 v0 v5).bind fun h8 =>
                some ([vI 1], h8) := (Cd_inst rfl rfl rfl hg).trans ((Rr_blk (Cd d) 36 [9, 23] 43 0 _ [] hp).trans rfl)
set_option maxRecDepth 100000 in
theorem c36_9 (d : Nat) (o0 o1 o2 o3 o4 o5 : Option AV) (hp : HP) : Rr (Cd d) 36 9 [o0, o1, o2, o3, o4, o5] [] hp =
  some ([vI 0], hp) := (Rr_blk (Cd d) 36 [9, 23] 43 9 _ _ hp).trans rfl
set_option maxRecDepth 100000 in
theorem c36_23 (d : Nat) (o0 o1 o2 o3 o4 o5 : Option AV) (hp : HP) : Rr (Cd d) 36 23 [o0, o1, o2, o3, o4, o5] [] hp =
  some ([vI 0], hp) := (Rr_blk (Cd d) 36 [9, 23] 43 23 _ _ hp).trans rfl
set_option maxRecDepth 100000 in
theorem c37 (d : Nat) (v0 v1 : Int) (hp : HP) {n : Nat} (hg : gS hp v0 = some (3, n)) : Cd (d + 1) 37 [vA v0, vA v1] hp =
  (gF hp 3 0 v1).bind fun x1 =>
  (pF hp 3 0 v0 x1).bind fun h2 =>
  (gF h2 3 1 v1).bind fun x3 =>
  (pF h2 3 1 v0 x3).bind fun h4 =>
  (gF h4 3 2 v1).bind fun x5 =>
  (pF h4 3 2 v0 x5).bind fun h6 =>
  (gF h6 3 3 v1).bind fun x7 =>
  (pF h6 3 3 v0 x7).bind fun h8 =>
  (gF h8 3 4 v1).bind fun x9 =>
  (pF h8 3 4 v0 x9).bind fun h10 =>
  some ([], h10) := (Cd_inst rfl rfl rfl hg).trans ((Rr_blk (Cd d) 37 [] 22 0 _ [] hp).trans rfl)
set_option maxRecDepth 100000 in
theorem c38 (d : Nat) (v0 v1 v2 : Int) (hp : HP) {n : Nat} (hg : gS hp v0 = some (3, n)) : Cd (d + 1) 38 [vA v0, vI v1, vI v2] hp =
  (gF hp 3 3 v0).bind fun x1 =>
  if x1 < 1 then
    Rr (Cd d) 38 25 [some (vA v0), some (vI v1), some (vI v2)] [vI ((-1))] hp
  else
    (gF hp 3 0 v0).bind fun x2 =>
    (gF hp 3 1 v0).bind fun x3 =>
    (gF hp 3 2 v0).bind fun x4 =>
    (gF hp 3 3 v0).bind fun x5 =>
    if x5 = 0 then none else
    Rr (Cd d) 38 25 [some (vA v0), some (vI v1), some (vI v2)] [vI (irem (w32 (w32 (w32 (x2 * v1) + (w32 (x3 * v2))) + (w32 ((w32 (x4 * v1)) * v2)))) x5)] hp := (Cd_inst rfl rfl rfl hg).trans ((Rr_blk (Cd d) 38 [25] 27 0 _ [] hp).trans rfl)
set_option maxRecDepth 100000 in
theorem c38_25 (d : Nat) (s0 : Int) (o0 o1 o2 : Option AV) (hp : HP) : Rr (Cd d) 38 25 [o0, o1, o2] [vI s0] hp =
  some ([vI s0], hp) := (Rr_blk (Cd d) 38 [25] 27 25 _ _ hp).trans rfl
set_option maxRecDepth 100000 in
theorem c39 (d : Nat) (v0 v1 : Int) (hp : HP) {n : Nat} (hg : gS hp v0 = some (3, n)) : Cd (d + 1) 39 [vA v0, vI v1] hp =
  Rr (Cd d) 39 2 [some (vA v0), some (vI v1), some (vI 0), none, none, none, none] [] hp := (Cd_inst rfl rfl rfl hg).trans ((Rr_blk (Cd d) 39 [2, 7, 18, 39] 48 0 _ [] hp).trans rfl)
set_option maxRecDepth 100000 in
theorem c39_2 (d : Nat) (v0 v1 v2 : Int) (o3 o4 o5 o6 : Option AV) (hp : HP) : Rr (Cd d) 39 2 [some (vA v0), some (vI v1), some (vI v2), o3, o4, o5, o6] [] hp =
  if v2 < 3 then
    Rr (Cd d) 39 7 [some (vA v0), some (vI v1), some (vI v2), some (vI 0), o4, o5, o6] [] hp
  else
    some ([vI ((-1))], hp) := (Rr_blk (Cd d) 39 [2, 7, 18, 39] 48 2 _ _ hp).trans rfl
set_option maxRecDepth 100000 in
theorem c39_7 (d : Nat) (v0 v1 v2 v3 : Int) (o4 o5 o6 : Option AV) (hp : HP) : Rr (Cd d) 39 7 [some (vA v0), some (vI v1), some (vI v2), some (vI v3), o4, o5, o6] [] hp =
  (gF hp 3 4 v0).bind fun x1 =>
  if v3 < x1 then
    ((Cd d 38 [vA v0, vI v2, vI v3] hp).bind toI).bind fun q2 =>
    Rr (Cd d) 39 18 [some (vA v0), some (vI v1), some (vI v2), some (vI v3), some (vI q2.1), some (vI 0), o6] [] q2.2
  else
    Rr (Cd d) 39 2 [some (vA v0), some (vI v1), some (vI (w32 (v2 + 1))), some (vI v3), o4, o5, o6] [] hp := (Rr_blk (Cd d) 39 [2, 7, 18, 39] 48 7 _ _ hp).trans rfl
set_option maxRecDepth 100000 in
theorem c39_18 (d : Nat) (v0 v1 v2 v3 v4 v5 : Int) (o6 : Option AV) (hp : HP) : Rr (Cd d) 39 18 [some (vA v0), some (vI v1), some (vI v2), some (vI v3), some (vI v4), some (vI v5), o6] [] hp =
  if v5 < 3 then
    ((Cd d 41 [vA v0, vI v5, vI v4] hp).bind toI).bind fun q1 =>
    if v5 = v2 then
      Rr (Cd d) 39 39 [some (vA v0), some (vI v1), some (vI v2), some (vI v3), some (vI v4), some (vI v5), some (vI q1.1)] [] q1.2
    else
      if q1.1 = (-1) then
        Rr (Cd d) 39 39 [some (vA v0), some (vI v1), some (vI v2), some (vI v3), some (vI v4), some (vI v5), some (vI q1.1)] [] q1.2
      else
        ((Cd d 40 [vI v1, vI v2, vI v3, vI v5, vI q1.1] q1.2).bind toI).bind fun q2 =>
        some ([vI q2.1], q2.2)
  else
    Rr (Cd d) 39 7 [some (vA v0), some (vI v1), some (vI v2), some (vI (w32 (v3 + 1))), some (vI v4), some (vI v5), o6] [] hp := (Rr_blk (Cd d) 39 [2, 7, 18, 39] 48 18 _ _ hp).trans rfl
set_option maxRecDepth 100000 in
theorem c39_39 (d : Nat) (v0 v1 v2 v3 v4 v5 : Int) (o6 : Option AV) (hp : HP) : Rr (Cd d) 39 39 [some (vA v0), some (vI v1), some (vI v2), some (vI v3), some (vI v4), some (vI v5), o6] [] hp =
  Rr (Cd d) 39 18 [some (vA v0), some (vI v1), some (vI v2), some (vI v3), some (vI v4), some (vI (w32 (v5 + 1))), o6] [] hp := (Rr_blk (Cd d) 39 [2, 7, 18, 39] 48 39 _ _ hp).trans rfl
set_option maxRecDepth 100000 in
theorem c40 (d : Nat) (v0 v1 v2 v3 v4 : Int) (hp : HP) : Cd (d + 1) 40 [vI v0, vI v1, vI v2, vI v3, vI v4] hp =
  if v0 = 0 then
    some ([vI v1], hp)
  else
  if v0 = 1 then
    some ([vI v2], hp)
  else
  if v0 = 2 then
    some ([vI v3], hp)
  else
  some ([vI v4], hp) := (Rr_blk (Cd d) 40 [] 11 0 _ [] hp).trans rfl
set_option maxRecDepth 100000 in
theorem c41 (d : Nat) (v0 v1 v2 : Int) (hp : HP) {n : Nat} (hg : gS hp v0 = some (3, n)) : Cd (d + 1) 41 [vA v0, vI v1, vI v2] hp =
  Rr (Cd d) 41 2 [some (vA v0), some (vI v1), some (vI v2), some (vI 0)] [] hp := (Cd_inst rfl rfl rfl hg).trans ((Rr_blk (Cd d) 41 [2] 19 0 _ [] hp).trans rfl)
set_option maxRecDepth 100000 in
theorem c41_2 (d : Nat) (v0 v1 v2 v3 : Int) (hp : HP) : Rr (Cd d) 41 2 [some (vA v0), some (vI v1), some (vI v2), some (vI v3)] [] hp =
  (gF hp 3 4 v0).bind fun x1 =>
  if v3 < x1 then
    ((Cd d 38 [vA v0, vI v1, vI v3] hp).bind toI).bind fun q2 =>
    if q2.1 = v2 then
      some ([vI v3], q2.2)
    else
      Rr (Cd d) 41 2 [some (vA v0), some (vI v1), some (vI v2), some (vI (w32 (v3 + 1)))] [] q2.2
  else
    some ([vI ((-1))], hp) := (Rr_blk (Cd d) 41 [2] 19 2 _ _ hp).trans rfl
set_option maxRecDepth 100000 in
theorem c42 (d : Nat) (v0 v1 v2 : Int) (hp : HP) {n : Nat} (hg : gS hp v0 = some (3, n)) : Cd (d + 1) 42 [vA v0, vI v1, vI v2] hp =
  Rr (Cd d) 42 4 [some (vA v0), some (vI v1), some (vI v2), some (vI 0), some (vI 0)] [] hp := (Cd_inst rfl rfl rfl hg).trans ((Rr_blk (Cd d) 42 [4] 27 0 _ [] hp).trans rfl)
set_option maxRecDepth 100000 in
theorem c42_4 (d : Nat) (v0 v1 v2 v3 v4 : Int) (hp : HP) : Rr (Cd d) 42 4 [some (vA v0), some (vI v1), some (vI v2), some (vI v3), some (vI v4)] [] hp =
  (gF hp 3 3 v0).bind fun x1 =>
  if v4 < x1 then
    ((Cd d 43 [vA v0, vI v1, vI v4] hp).bind toI).bind fun q2 =>
    ((Cd d 43 [vA v0, vI v2, vI v4] q2.2).bind toI).bind fun q3 =>
    ((Cd d 286 [vI 0, vI (w32 (q2.1 - q3.1))] q3.2).bind toI).bind fun q4 =>
    Rr (Cd d) 42 4 [some (vA v0), some (vI v1), some (vI v2), some (vI (w32 (v3 + q4.1))), some (vI (w32 (v4 + 1)))] [] q4.2
  else
    some ([vI v3], hp) := (Rr_blk (Cd d) 42 [4] 27 4 _ _ hp).trans rfl
set_option maxRecDepth 100000 in
theorem c43 (d : Nat) (v0 v1 v2 : Int) (hp : HP) {n : Nat} (hg : gS hp v0 = some (3, n)) : Cd (d + 1) 43 [vA v0, vI v1, vI v2] hp =
  Rr (Cd d) 43 4 [some (vA v0), some (vI v1), some (vI v2), some (vI 0), some (vI 0)] [] hp := (Cd_inst rfl rfl rfl hg).trans ((Rr_blk (Cd d) 43 [4, 18] 26 0 _ [] hp).trans rfl)
set_option maxRecDepth 100000 in
theorem c43_4 (d : Nat) (v0 v1 v2 v3 v4 : Int) (hp : HP) : Rr (Cd d) 43 4 [some (vA v0), some (vI v1), some (vI v2), some (vI v3), some (vI v4)] [] hp =
  (gF hp 3 4 v0).bind fun x1 =>
  if v4 < x1 then
    ((Cd d 38 [vA v0, vI v1, vI v4] hp).bind toI).bind fun q2 =>
    if q2.1 = v2 then
      Rr (Cd d) 43 18 [some (vA v0), some (vI v1), some (vI v2), some (vI v3), some (vI v4)] [vI 1, vI v3] q2.2
    else
      Rr (Cd d) 43 18 [some (vA v0), some (vI v1), some (vI v2), some (vI v3), some (vI v4)] [vI 0, vI v3] q2.2
  else
    some ([vI v3], hp) := (Rr_blk (Cd d) 43 [4, 18] 26 4 _ _ hp).trans rfl
set_option maxRecDepth 100000 in
theorem c43_18 (d : Nat) (v0 v1 v2 v4 s0 s1 : Int) (o3 : Option AV) (hp : HP) : Rr (Cd d) 43 18 [some (vA v0), some (vI v1), some (vI v2), o3, some (vI v4)] [vI s1, vI s0] hp =
  ((Cd d 159 [vI s1] hp).bind toI).bind fun q1 =>
  Rr (Cd d) 43 4 [some (vA v0), some (vI v1), some (vI v2), some (vI (w32 (s0 + q1.1))), some (vI (w32 (v4 + 1)))] [] q1.2 := (Rr_blk (Cd d) 43 [4, 18] 26 18 _ _ hp).trans rfl
