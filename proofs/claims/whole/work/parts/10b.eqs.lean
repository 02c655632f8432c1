/-! the methods as equations, written by a program -/
set_option maxRecDepth 100000 in
theorem c0 (d : Nat) (v0 : Int) (hp : HP) {n : Nat} (hg : gS hp v0 = some (0, n)) : Cd (d + 1) 0 [vA v0] hp =
  if 0 < v0 ∧ wid [] ≤ 8 then
    (pF hp 0 0 v0 ((-1))).bind fun h1 =>
    some ([], h1)
  else none := (Cd_inst rfl rfl rfl hg).trans ((Rr_blk (Cd d) 0 [] 7 0 _ [] hp).trans rfl)
set_option maxRecDepth 100000 in
theorem c1 (d : Nat) (v0 v1 v2 : Int) (hp : HP) {n : Nat} (hg : gS hp v0 = some (0, n)) : Cd (d + 1) 1 [vA v0, vI v1, vI v2] hp =
  (pF hp 0 0 v0 v1).bind fun h1 =>
  (pF h1 0 1 v0 v2).bind fun h2 =>
  (pF h2 0 2 v0 0).bind fun h3 =>
  some ([], h3) := (Cd_inst rfl rfl rfl hg).trans ((Rr_blk (Cd d) 1 [] 11 0 _ [] hp).trans rfl)
set_option maxRecDepth 100000 in
theorem c2 (d : Nat) (v0 v1 : Int) (hp : HP) {n : Nat} (hg : gS hp v0 = some (0, n)) : Cd (d + 1) 2 [vA v0, vA v1] hp =
  (gF hp 0 0 v1).bind fun x1 =>
  (pF hp 0 0 v0 x1).bind fun h2 =>
  (gF h2 0 1 v1).bind fun x3 =>
  (pF h2 0 1 v0 x3).bind fun h4 =>
  (gF h4 0 2 v1).bind fun x5 =>
  (pF h4 0 2 v0 x5).bind fun h6 =>
  some ([], h6) := (Cd_inst rfl rfl rfl hg).trans ((Rr_blk (Cd d) 2 [] 14 0 _ [] hp).trans rfl)
set_option maxRecDepth 100000 in
theorem c3 (d : Nat) (v0 v1 v2 : Int) (hp : HP) {n : Nat} (hg : gS hp v0 = some (0, n)) : Cd (d + 1) 3 [vA v0, vI v1, vI v2] hp =
  (gF hp 0 2 v0).bind fun x1 =>
  (pF hp 0 2 v0 (ior x1 (ior (ishl 1 v1) (ishl 1 v2)))).bind fun h2 =>
  (gF h2 0 2 v0).bind fun x3 =>
  ((Cd d 284 [vI x3] h2).bind toI).bind fun q4 =>
  some ([vI q4.1], q4.2) := (Cd_inst rfl rfl rfl hg).trans ((Rr_blk (Cd d) 3 [] 17 0 _ [] hp).trans rfl)
set_option maxRecDepth 100000 in
theorem c4 (d : Nat) (v0 v1 : Int) (hp : HP) {n : Nat} (hg : gS hp v0 = some (0, n)) : Cd (d + 1) 4 [vA v0, vI v1] hp =
  (gF hp 0 2 v0).bind fun x1 =>
  if x1 = w32 (ishl 1 v1 - 1) then
    Rr (Cd d) 4 11 [some (vA v0), some (vI v1)] [vI 1] hp
  else
    Rr (Cd d) 4 11 [some (vA v0), some (vI v1)] [vI 0] hp := (Cd_inst rfl rfl rfl hg).trans ((Rr_blk (Cd d) 4 [11] 13 0 _ [] hp).trans rfl)
set_option maxRecDepth 100000 in
theorem c4_11 (d : Nat) (s0 : Int) (o0 o1 : Option AV) (hp : HP) : Rr (Cd d) 4 11 [o0, o1] [vI s0] hp =
  if s0 = 0 ∨ s0 = 1 then some ([vI s0], hp) else none := (Rr_blk (Cd d) 4 [11] 13 11 _ _ hp).trans rfl
set_option maxRecDepth 100000 in
theorem c5 (d : Nat) (v0 v1 : Int) (hp : HP) {n : Nat} (hg : gS hp v0 = some (0, n)) : Cd (d + 1) 5 [vA v0, vI v1] hp =
  (gF hp 0 2 v0).bind fun x1 =>
  ((Cd d 169 [vI x1, vI v1] hp).bind toI).bind fun q2 =>
  if q2.1 = 0 then
    Rr (Cd d) 5 11 [some (vA v0), some (vI v1)] [vI ((-1))] q2.2
  else
    (gF q2.2 0 1 v0).bind fun x3 =>
    ((Cd d 165 [vI x3, vI v1] q2.2).bind toI).bind fun q4 =>
    Rr (Cd d) 5 11 [some (vA v0), some (vI v1)] [vI q4.1] q4.2 := (Cd_inst rfl rfl rfl hg).trans ((Rr_blk (Cd d) 5 [11] 13 0 _ [] hp).trans rfl)
set_option maxRecDepth 100000 in
theorem c5_11 (d : Nat) (s0 : Int) (o0 o1 : Option AV) (hp : HP) : Rr (Cd d) 5 11 [o0, o1] [vI s0] hp =
  some ([vI s0], hp) := (Rr_blk (Cd d) 5 [11] 13 11 _ _ hp).trans rfl
set_option maxRecDepth 100000 in
theorem c6 (d : Nat) (v0 : Int) (hp : HP) {n : Nat} (hg : gS hp v0 = some (1, n)) : Cd (d + 1) 6 [vA v0] hp =
  if 0 < v0 ∧ wid [] ≤ 8 then
    (pF (mk hp 100 15) 1 0 v0 ((hp.1.length : Int))).bind fun h1 =>
    (pF (mk h1 100 15) 1 1 v0 ((h1.1.length : Int))).bind fun h2 =>
    (pF (mk h2 100 7) 1 2 v0 ((h2.1.length : Int))).bind fun h3 =>
    (pF (mk h3 100 7) 1 3 v0 ((h3.1.length : Int))).bind fun h4 =>
    some ([], h4)
  else none := (Cd_inst rfl rfl rfl hg).trans ((Rr_blk (Cd d) 6 [] 20 0 _ [] hp).trans rfl)
set_option maxRecDepth 100000 in
theorem c7 (d : Nat) (v0 v1 : Int) (hp : HP) {n : Nat} (hg : gS hp v0 = some (1, n)) : Cd (d + 1) 7 [vA v0, vI v1] hp =
  (pF hp 1 4 v0 v1).bind fun h1 =>
  (pF h1 1 5 v0 0).bind fun h2 =>
  (pF h2 1 9 v0 0).bind fun h3 =>
  Rr (Cd d) 7 11 [some (vA v0), some (vI v1), some (vI 0)] [] h3 := (Cd_inst rfl rfl rfl hg).trans ((Rr_blk (Cd d) 7 [11] 23 0 _ [] hp).trans rfl)
set_option maxRecDepth 100000 in
theorem c7_11 (d : Nat) (v0 v2 : Int) (o1 : Option AV) (hp : HP) : Rr (Cd d) 7 11 [some (vA v0), o1, some (vI v2)] [] hp =
  if v2 < 7 then
    (gF hp 1 2 v0).bind fun x1 =>
    (pA hp 0 x1 v2 0).bind fun h2 =>
    Rr (Cd d) 7 11 [some (vA v0), o1, some (vI (w32 (v2 + 1)))] [] h2
  else
    some ([], hp) := (Rr_blk (Cd d) 7 [11] 23 11 _ _ hp).trans rfl
set_option maxRecDepth 100000 in
theorem c8 (d : Nat) (v0 v1 : Int) (hp : HP) {n : Nat} (hg : gS hp v0 = some (1, n)) : Cd (d + 1) 8 [vA v0, vA v1] hp =
  (gF hp 1 4 v1).bind fun x1 =>
  (pF hp 1 4 v0 x1).bind fun h2 =>
  (gF h2 1 5 v1).bind fun x3 =>
  (pF h2 1 5 v0 x3).bind fun h4 =>
  (pF h4 1 9 v0 0).bind fun h5 =>
  (gF h5 1 0 v1).bind fun x6 =>
  (gF h5 1 0 v0).bind fun x7 =>
  (acp h5 x6 0 x7 0 15).bind fun h8 =>
  (gF h8 1 1 v1).bind fun x9 =>
  (gF h8 1 1 v0).bind fun x10 =>
  (acp h8 x9 0 x10 0 15).bind fun h11 =>
  (gF h11 1 2 v1).bind fun x12 =>
  (gF h11 1 2 v0).bind fun x13 =>
  (acp h11 x12 0 x13 0 7).bind fun h14 =>
  some ([], h14) := (Cd_inst rfl rfl rfl hg).trans ((Rr_blk (Cd d) 8 [] 37 0 _ [] hp).trans rfl)
set_option maxRecDepth 100000 in
theorem c9 (d : Nat) (v0 v1 v2 : Int) (hp : HP) {n : Nat} (hg : gS hp v0 = some (1, n)) : Cd (d + 1) 9 [vA v0, vI v1, vI v2] hp =
  if v1 < 0 then
    Rr (Cd d) 9 15 [some (vA v0), some (vI v1), some (vI v2)] [] hp
  else
    (gF hp 1 4 v0).bind fun x1 =>
    if v1 < x1 then
      if v2 < 0 then
        Rr (Cd d) 9 15 [some (vA v0), some (vI v1), some (vI v2)] [] hp
      else
        (gF hp 1 4 v0).bind fun x2 =>
        if v2 < x2 then
          if v1 = v2 then
            Rr (Cd d) 9 15 [some (vA v0), some (vI v1), some (vI v2)] [] hp
          else
            (gF hp 1 5 v0).bind fun x3 =>
            if x3 < 15 then
              (gF hp 1 2 v0).bind fun x4 =>
              (gA hp 0 x4 v1).bind fun x5 =>
              ((Cd d 169 [vI x5, vI v2] hp).bind toI).bind fun q6 =>
              if q6.1 = 0 then
                Rr (Cd d) 9 31 [some (vA v0), some (vI v1), some (vI v2)] [vI 1] q6.2
              else
                Rr (Cd d) 9 30 [some (vA v0), some (vI v1), some (vI v2)] [] q6.2
            else
              Rr (Cd d) 9 30 [some (vA v0), some (vI v1), some (vI v2)] [] hp
        else
          Rr (Cd d) 9 15 [some (vA v0), some (vI v1), some (vI v2)] [] hp
    else
      Rr (Cd d) 9 15 [some (vA v0), some (vI v1), some (vI v2)] [] hp := (Cd_inst rfl rfl rfl hg).trans ((Rr_blk (Cd d) 9 [15, 30, 31] 33 0 _ [] hp).trans rfl)
set_option maxRecDepth 100000 in
theorem c9_15 (d : Nat) (o0 o1 o2 : Option AV) (hp : HP) : Rr (Cd d) 9 15 [o0, o1, o2] [] hp =
  some ([vI 0], hp) := (Rr_blk (Cd d) 9 [15, 30, 31] 33 15 _ _ hp).trans rfl
set_option maxRecDepth 100000 in
theorem c9_30 (d : Nat) (o0 o1 o2 : Option AV) (hp : HP) : Rr (Cd d) 9 30 [o0, o1, o2] [] hp =
  Rr (Cd d) 9 31 [o0, o1, o2] [vI 0] hp := (Rr_blk (Cd d) 9 [15, 30, 31] 33 30 _ _ hp).trans rfl
set_option maxRecDepth 100000 in
theorem c9_31 (d : Nat) (s0 : Int) (o0 o1 o2 : Option AV) (hp : HP) : Rr (Cd d) 9 31 [o0, o1, o2] [vI s0] hp =
  if s0 = 0 ∨ s0 = 1 then some ([vI s0], hp) else none := (Rr_blk (Cd d) 9 [15, 30, 31] 33 31 _ _ hp).trans rfl
set_option maxRecDepth 100000 in
theorem c10 (d : Nat) (v0 v1 v2 : Int) (hp : HP) {n : Nat} (hg : gS hp v0 = some (1, n)) : Cd (d + 1) 10 [vA v0, vI v1, vI v2] hp =
  (gF hp 1 0 v0).bind fun x1 =>
  (gF hp 1 5 v0).bind fun x2 =>
  (pA hp 0 x1 x2 v1).bind fun h3 =>
  (gF h3 1 1 v0).bind fun x4 =>
  (gF h3 1 5 v0).bind fun x5 =>
  (pA h3 0 x4 x5 v2).bind fun h6 =>
  (gF h6 1 2 v0).bind fun x7 =>
  (gA h6 0 x7 v1).bind fun x8 =>
  (pA h6 0 x7 v1 (ior x8 (ishl 1 v2))).bind fun h9 =>
  (gF h9 1 2 v0).bind fun x10 =>
  (gA h9 0 x10 v2).bind fun x11 =>
  (pA h9 0 x10 v2 (ior x11 (ishl 1 v1))).bind fun h12 =>
  (gF h12 1 5 v0).bind fun x13 =>
  (pF h12 1 5 v0 (w32 (x13 + 1))).bind fun h14 =>
  (pF h14 1 9 v0 0).bind fun h15 =>
  some ([], h15) := (Cd_inst rfl rfl rfl hg).trans ((Rr_blk (Cd d) 10 [] 43 0 _ [] hp).trans rfl)
set_option maxRecDepth 100000 in
theorem c11 (d : Nat) (v0 v1 : Int) (hp : HP) {n : Nat} (hg : gS hp v0 = some (1, n)) : Cd (d + 1) 11 [vA v0, vI v1] hp =
  if v1 < 0 then
    Rr (Cd d) 11 9 [some (vA v0), some (vI v1)] [] hp
  else
    (gF hp 1 4 v0).bind fun x1 =>
    ((Cd d 163 [vI x1] hp).bind toI).bind fun q2 =>
    if v1 < q2.1 then
      Rr (Cd d) 11 10 [some (vA v0), some (vI v1)] [vI 1] q2.2
    else
      Rr (Cd d) 11 9 [some (vA v0), some (vI v1)] [] q2.2 := (Cd_inst rfl rfl rfl hg).trans ((Rr_blk (Cd d) 11 [9, 10] 12 0 _ [] hp).trans rfl)
set_option maxRecDepth 100000 in
theorem c11_9 (d : Nat) (o0 o1 : Option AV) (hp : HP) : Rr (Cd d) 11 9 [o0, o1] [] hp =
  Rr (Cd d) 11 10 [o0, o1] [vI 0] hp := (Rr_blk (Cd d) 11 [9, 10] 12 9 _ _ hp).trans rfl
set_option maxRecDepth 100000 in
theorem c11_10 (d : Nat) (s0 : Int) (o0 o1 : Option AV) (hp : HP) : Rr (Cd d) 11 10 [o0, o1] [vI s0] hp =
  if s0 = 0 ∨ s0 = 1 then some ([vI s0], hp) else none := (Rr_blk (Cd d) 11 [9, 10] 12 10 _ _ hp).trans rfl
set_option maxRecDepth 100000 in
theorem c12 (d : Nat) (v0 v1 : Int) (hp : HP) {n : Nat} (hg : gS hp v0 = some (1, n)) : Cd (d + 1) 12 [vA v0, vI v1] hp =
  Rr (Cd d) 12 2 [some (vA v0), some (vI v1), some (vI 0)] [] hp := (Cd_inst rfl rfl rfl hg).trans ((Rr_blk (Cd d) 12 [2] 26 0 _ [] hp).trans rfl)
set_option maxRecDepth 100000 in
theorem c12_2 (d : Nat) (v0 v1 v2 : Int) (hp : HP) : Rr (Cd d) 12 2 [some (vA v0), some (vI v1), some (vI v2)] [] hp =
  (gF hp 1 5 v0).bind fun x1 =>
  if v2 < x1 then
    (gF hp 1 0 v0).bind fun x2 =>
    (gA hp 0 x2 v2).bind fun x3 =>
    ((Cd d 165 [vI v1, vI x3] hp).bind toI).bind fun q4 =>
    (gF q4.2 1 1 v0).bind fun x5 =>
    (gA q4.2 0 x5 v2).bind fun x6 =>
    ((Cd d 165 [vI v1, vI x6] q4.2).bind toI).bind fun q7 =>
    if q4.1 = q7.1 then
      some ([vI 0], q7.2)
    else
      Rr (Cd d) 12 2 [some (vA v0), some (vI v1), some (vI (w32 (v2 + 1)))] [] q7.2
  else
    some ([vI 1], hp) := (Rr_blk (Cd d) 12 [2] 26 2 _ _ hp).trans rfl
set_option maxRecDepth 100000 in
theorem c13 (d : Nat) (v0 : Int) (hp : HP) {n : Nat} (hg : gS hp v0 = some (1, n)) : Cd (d + 1) 13 [vA v0] hp =
  (gF hp 1 9 v0).bind fun x1 =>
  if x1 = 0 then
    (gF hp 1 6 v0).bind fun x2 =>
    if x2 = 0 then none else if x2 < 0 then
      Rr (Cd d) 13 10 [some (vA v0), none, none, none] [] hp
    else
      (gF hp 1 7 v0).bind fun x3 =>
      if x3 = 0 then none else if x3 < 0 then
        Rr (Cd d) 13 10 [some (vA v0), none, none, none] [] hp
      else
        Rr (Cd d) 13 18 [some (vA v0), none, none, none] [] hp
  else
    some ([], hp) := (Cd_inst rfl rfl rfl hg).trans ((Rr_blk (Cd d) 13 [10, 18, 29, 59] 66 0 _ [] hp).trans rfl)
set_option maxRecDepth 100000 in
theorem c13_10 (d : Nat) (v0 : Int) (o1 o2 o3 : Option AV) (hp : HP) : Rr (Cd d) 13 10 [some (vA v0), o1, o2, o3] [] hp =
  (pF (mk hp 100 2187) 1 6 v0 ((hp.1.length : Int))).bind fun h1 =>
  (pF (mk h1 100 2187) 1 7 v0 ((h1.1.length : Int))).bind fun h2 =>
  Rr (Cd d) 13 18 [some (vA v0), o1, o2, o3] [] h2 := (Rr_blk (Cd d) 13 [10, 18, 29, 59] 66 10 _ _ hp).trans rfl
set_option maxRecDepth 100000 in
theorem c13_18 (d : Nat) (v0 : Int) (o1 o2 o3 : Option AV) (hp : HP) : Rr (Cd d) 13 18 [some (vA v0), o1, o2, o3] [] hp =
  (pF hp 1 8 v0 0).bind fun h1 =>
  (gF h1 1 4 v0).bind fun x2 =>
  ((Cd d 163 [vI x2] h1).bind toI).bind fun q3 =>
  ((Cd d 288 [vI q3.1, vI 2187] q3.2).bind toI).bind fun q4 =>
  Rr (Cd d) 13 29 [some (vA v0), some (vI q4.1), some (vI 0), o3] [] q4.2 := (Rr_blk (Cd d) 13 [10, 18, 29, 59] 66 18 _ _ hp).trans rfl
set_option maxRecDepth 100000 in
theorem c13_29 (d : Nat) (v0 v1 v2 : Int) (o3 : Option AV) (hp : HP) : Rr (Cd d) 13 29 [some (vA v0), some (vI v1), some (vI v2), o3] [] hp =
  if v2 < v1 then
    (gF hp 1 4 v0).bind fun x2 =>
    ((Cd d 164 [vI v2, vI x2] hp).bind toI).bind fun q3 =>
    ((Cd d 12 [vA v0, vI q3.1] q3.2).bind toI).bind fun q4 =>
    if q4.1 = 0 then
      Rr (Cd d) 13 59 [some (vA v0), some (vI v1), some (vI v2), some (vI q3.1)] [] q4.2
    else
      (gF q4.2 1 6 v0).bind fun x5 =>
      (gF q4.2 1 8 v0).bind fun x6 =>
      (pA q4.2 0 x5 x6 v2).bind fun h7 =>
      (gF h7 1 7 v0).bind fun x8 =>
      (gF h7 1 8 v0).bind fun x9 =>
      (pA h7 0 x8 x9 q3.1).bind fun h10 =>
      (gF h10 1 8 v0).bind fun x11 =>
      (pF h10 1 8 v0 (w32 (x11 + 1))).bind fun h12 =>
      Rr (Cd d) 13 59 [some (vA v0), some (vI v1), some (vI v2), some (vI q3.1)] [] h12
  else
    (pF hp 1 9 v0 1).bind fun h1 =>
    some ([], h1) := (Rr_blk (Cd d) 13 [10, 18, 29, 59] 66 29 _ _ hp).trans rfl
set_option maxRecDepth 100000 in
theorem c13_59 (d : Nat) (v0 v1 v2 : Int) (o3 : Option AV) (hp : HP) : Rr (Cd d) 13 59 [some (vA v0), some (vI v1), some (vI v2), o3] [] hp =
  Rr (Cd d) 13 29 [some (vA v0), some (vI v1), some (vI (w32 (v2 + 1))), o3] [] hp := (Rr_blk (Cd d) 13 [10, 18, 29, 59] 66 59 _ _ hp).trans rfl
set_option maxRecDepth 100000 in
theorem c14 (d : Nat) (v0 v1 : Int) (hp : HP) {n : Nat} (hg : gS hp v0 = some (1, n)) : Cd (d + 1) 14 [vA v0, vI v1] hp =
  (gF hp 1 9 v0).bind fun x1 =>
  if x1 = 0 then
    Rr (Cd d) 14 14 [some (vA v0), some (vI v1)] [] hp
  else
    if v1 < 0 then
      Rr (Cd d) 14 14 [some (vA v0), some (vI v1)] [] hp
    else
      (gF hp 1 8 v0).bind fun x2 =>
      if v1 < x2 then
        (gF hp 1 6 v0).bind fun x3 =>
        (gA hp 0 x3 v1).bind fun x4 =>
        Rr (Cd d) 14 15 [some (vA v0), some (vI v1)] [vI x4] hp
      else
        Rr (Cd d) 14 14 [some (vA v0), some (vI v1)] [] hp := (Cd_inst rfl rfl rfl hg).trans ((Rr_blk (Cd d) 14 [14, 15] 17 0 _ [] hp).trans rfl)
set_option maxRecDepth 100000 in
theorem c14_14 (d : Nat) (o0 o1 : Option AV) (hp : HP) : Rr (Cd d) 14 14 [o0, o1] [] hp =
  Rr (Cd d) 14 15 [o0, o1] [vI ((-1))] hp := (Rr_blk (Cd d) 14 [14, 15] 17 14 _ _ hp).trans rfl
set_option maxRecDepth 100000 in
theorem c14_15 (d : Nat) (s0 : Int) (o0 o1 : Option AV) (hp : HP) : Rr (Cd d) 14 15 [o0, o1] [vI s0] hp =
  some ([vI s0], hp) := (Rr_blk (Cd d) 14 [14, 15] 17 15 _ _ hp).trans rfl
set_option maxRecDepth 100000 in
theorem c15 (d : Nat) (v0 v1 : Int) (hp : HP) {n : Nat} (hg : gS hp v0 = some (1, n)) : Cd (d + 1) 15 [vA v0, vI v1] hp =
  (gF hp 1 9 v0).bind fun x1 =>
  if x1 = 0 then
    Rr (Cd d) 15 14 [some (vA v0), some (vI v1)] [] hp
  else
    if v1 < 0 then
      Rr (Cd d) 15 14 [some (vA v0), some (vI v1)] [] hp
    else
      (gF hp 1 8 v0).bind fun x2 =>
      if v1 < x2 then
        (gF hp 1 7 v0).bind fun x3 =>
        (gA hp 0 x3 v1).bind fun x4 =>
        Rr (Cd d) 15 15 [some (vA v0), some (vI v1)] [vI x4] hp
      else
        Rr (Cd d) 15 14 [some (vA v0), some (vI v1)] [] hp := (Cd_inst rfl rfl rfl hg).trans ((Rr_blk (Cd d) 15 [14, 15] 17 0 _ [] hp).trans rfl)
set_option maxRecDepth 100000 in
theorem c15_14 (d : Nat) (o0 o1 : Option AV) (hp : HP) : Rr (Cd d) 15 14 [o0, o1] [] hp =
  Rr (Cd d) 15 15 [o0, o1] [vI ((-1))] hp := (Rr_blk (Cd d) 15 [14, 15] 17 14 _ _ hp).trans rfl
set_option maxRecDepth 100000 in
theorem c15_15 (d : Nat) (s0 : Int) (o0 o1 : Option AV) (hp : HP) : Rr (Cd d) 15 15 [o0, o1] [vI s0] hp =
  some ([vI s0], hp) := (Rr_blk (Cd d) 15 [14, 15] 17 15 _ _ hp).trans rfl
set_option maxRecDepth 100000 in
theorem c16 (d : Nat) (v0 v1 v2 v3 : Int) (hp : HP) {n : Nat} (hg : gS hp v0 = some (1, n)) : Cd (d + 1) 16 [vA v0, vI v1, vI v2, vI v3] hp =
  (gF hp 1 0 v0).bind fun x1 =>
  (gA hp 0 x1 v1).bind fun x2 =>
  (gF hp 1 1 v0).bind fun x3 =>
  (gA hp 0 x3 v1).bind fun x4 =>
  ((Cd d 166 [vI v2, vI x2, vI x4] hp).bind toI).bind fun q5 =>
  Rr (Cd d) 16 15 [some (vA v0), some (vI v1), some (vI v2), some (vI v3), some (vI q5.1), some (vI 0), some (vI 0)] [] q5.2 := (Cd_inst rfl rfl rfl hg).trans ((Rr_blk (Cd d) 16 [15, 30] 35 0 _ [] hp).trans rfl)
set_option maxRecDepth 100000 in
theorem c16_15 (d : Nat) (v3 v4 v5 v6 : Int) (o0 o1 o2 : Option AV) (hp : HP) : Rr (Cd d) 16 15 [o0, o1, o2, some (vI v3), some (vI v4), some (vI v5), some (vI v6)] [] hp =
  if v6 < 6 then
    ((Cd d 169 [vI v3, vI v6] hp).bind toI).bind fun q1 =>
    if q1.1 = 0 then
      Rr (Cd d) 16 30 [o0, o1, o2, some (vI v3), some (vI v4), some (vI v5), some (vI v6)] [] q1.2
    else
      ((Cd d 168 [vI v4, vI v6] q1.2).bind toI).bind fun q2 =>
      Rr (Cd d) 16 30 [o0, o1, o2, some (vI v3), some (vI v4), some (vI (ior v5 (ishl 1 q2.1))), some (vI v6)] [] q2.2
  else
    some ([vI v5], hp) := (Rr_blk (Cd d) 16 [15, 30] 35 15 _ _ hp).trans rfl
set_option maxRecDepth 100000 in
theorem c16_30 (d : Nat) (v3 v4 v5 v6 : Int) (o0 o1 o2 : Option AV) (hp : HP) : Rr (Cd d) 16 30 [o0, o1, o2, some (vI v3), some (vI v4), some (vI v5), some (vI v6)] [] hp =
  Rr (Cd d) 16 15 [o0, o1, o2, some (vI v3), some (vI v4), some (vI v5), some (vI (w32 (v6 + 1)))] [] hp := (Rr_blk (Cd d) 16 [15, 30] 35 30 _ _ hp).trans rfl
set_option maxRecDepth 100000 in
theorem c17 (d : Nat) (v0 : Int) (hp : HP) {n : Nat} (hg : gS hp v0 = some (1, n)) : Cd (d + 1) 17 [vA v0] hp =
  (gF hp 1 4 v0).bind fun x1 =>
  if x1 < 3 then
    Rr (Cd d) 17 12 [some (vA v0)] [vI 0] hp
  else
    ((Cd d 18 [vA v0, vI 0, vI 1] hp).bind toI).bind fun q2 =>
    Rr (Cd d) 17 12 [some (vA v0)] [vI (idiv q2.1 2)] q2.2 := (Cd_inst rfl rfl rfl hg).trans ((Rr_blk (Cd d) 17 [12] 14 0 _ [] hp).trans rfl)
set_option maxRecDepth 100000 in
theorem c17_12 (d : Nat) (s0 : Int) (o0 : Option AV) (hp : HP) : Rr (Cd d) 17 12 [o0] [vI s0] hp =
  some ([vI s0], hp) := (Rr_blk (Cd d) 17 [12] 14 12 _ _ hp).trans rfl
set_option maxRecDepth 100000 in
theorem c18 (d : Nat) (v0 v1 v2 : Int) (hp : HP) {n : Nat} (hg : gS hp v0 = some (1, n)) : Cd (d + 1) 18 [vA v0, vI v1, vI v2] hp =
  (gF hp 1 4 v0).bind fun x1 =>
  if v2 = w32 (ishl 1 x1 - 1) then
    (gF hp 1 2 v0).bind fun x2 =>
    (gA hp 0 x2 v1).bind fun x3 =>
    some ([vI (iand x3 1)], hp)
  else
    Rr (Cd d) 18 19 [some (vA v0), some (vI v1), some (vI v2), some (vI 0), some (vI 1)] [] hp := (Cd_inst rfl rfl rfl hg).trans ((Rr_blk (Cd d) 18 [19, 45] 50 0 _ [] hp).trans rfl)
set_option maxRecDepth 100000 in
theorem c18_19 (d : Nat) (v0 v1 v2 v3 v4 : Int) (hp : HP) : Rr (Cd d) 18 19 [some (vA v0), some (vI v1), some (vI v2), some (vI v3), some (vI v4)] [] hp =
  (gF hp 1 4 v0).bind fun x1 =>
  if v4 < x1 then
    (gF hp 1 2 v0).bind fun x2 =>
    (gA hp 0 x2 v1).bind fun x3 =>
    ((Cd d 169 [vI x3, vI v4] hp).bind toI).bind fun q4 =>
    if q4.1 = 0 then
      Rr (Cd d) 18 45 [some (vA v0), some (vI v1), some (vI v2), some (vI v3), some (vI v4)] [] q4.2
    else
      ((Cd d 169 [vI v2, vI v4] q4.2).bind toI).bind fun q5 =>
      if q5.1 = 0 then
        ((Cd d 18 [vA v0, vI v4, vI (ior v2 (ishl 1 v4))] q5.2).bind toI).bind fun q6 =>
        Rr (Cd d) 18 45 [some (vA v0), some (vI v1), some (vI v2), some (vI (w32 (v3 + q6.1))), some (vI v4)] [] q6.2
      else
        Rr (Cd d) 18 45 [some (vA v0), some (vI v1), some (vI v2), some (vI v3), some (vI v4)] [] q5.2
  else
    some ([vI v3], hp) := (Rr_blk (Cd d) 18 [19, 45] 50 19 _ _ hp).trans rfl
set_option maxRecDepth 100000 in
theorem c18_45 (d : Nat) (v0 v1 v2 v3 v4 : Int) (hp : HP) : Rr (Cd d) 18 45 [some (vA v0), some (vI v1), some (vI v2), some (vI v3), some (vI v4)] [] hp =
  Rr (Cd d) 18 19 [some (vA v0), some (vI v1), some (vI v2), some (vI v3), some (vI (w32 (v4 + 1)))] [] hp := (Rr_blk (Cd d) 18 [19, 45] 50 45 _ _ hp).trans rfl
set_option maxRecDepth 100000 in
theorem c19 (d : Nat) (v0 : Int) (hp : HP) {n : Nat} (hg : gS hp v0 = some (1, n)) : Cd (d + 1) 19 [vA v0] hp =
  Rr (Cd d) 19 4 [some (vA v0), some (vI 1), some (vI 2)] [] hp := (Cd_inst rfl rfl rfl hg).trans ((Rr_blk (Cd d) 19 [4] 17 0 _ [] hp).trans rfl)
set_option maxRecDepth 100000 in
theorem c19_4 (d : Nat) (v0 v1 v2 : Int) (hp : HP) : Rr (Cd d) 19 4 [some (vA v0), some (vI v1), some (vI v2)] [] hp =
  (gF hp 1 4 v0).bind fun x1 =>
  if x1 < v2 then
    some ([vI v1], hp)
  else
    Rr (Cd d) 19 4 [some (vA v0), some (vI (w32 (v1 * v2))), some (vI (w32 (v2 + 1)))] [] hp := (Rr_blk (Cd d) 19 [4] 17 4 _ _ hp).trans rfl
set_option maxRecDepth 100000 in
theorem c20 (d : Nat) (v0 v1 : Int) (hp : HP) {n : Nat} (hg : gS hp v0 = some (1, n)) : Cd (d + 1) 20 [vA v0, vA v1] hp =
  (gF hp 1 4 v0).bind fun x1 =>
  (gF hp 1 4 v1).bind fun x2 =>
  if x1 = x2 then
    (gF hp 1 5 v0).bind fun x3 =>
    (gF hp 1 5 v1).bind fun x4 =>
    if x3 = x4 then
      ((Cd d 21 [vA v0, vA v1, vI 0, vI 0] hp).bind toI).bind fun q5 =>
      some ([vI q5.1], q5.2)
    else
      Rr (Cd d) 20 10 [some (vA v0), some (vA v1)] [] hp
  else
    Rr (Cd d) 20 10 [some (vA v0), some (vA v1)] [] hp := (Cd_inst rfl rfl rfl hg).trans ((Rr_blk (Cd d) 20 [10] 19 0 _ [] hp).trans rfl)
set_option maxRecDepth 100000 in
theorem c20_10 (d : Nat) (o0 o1 : Option AV) (hp : HP) : Rr (Cd d) 20 10 [o0, o1] [] hp =
  some ([vI 0], hp) := (Rr_blk (Cd d) 20 [10] 19 10 _ _ hp).trans rfl
set_option maxRecDepth 100000 in
theorem c21 (d : Nat) (v0 v1 v2 v3 : Int) (hp : HP) {n : Nat} (hg : gS hp v0 = some (1, n)) : Cd (d + 1) 21 [vA v0, vA v1, vI v2, vI v3] hp =
  (gF hp 1 4 v0).bind fun x1 =>
  if v2 < x1 then
    Rr (Cd d) 21 10 [some (vA v0), some (vA v1), some (vI v2), some (vI v3), some (vI 0), some (vI 0)] [] hp
  else
    some ([vI 1], hp) := (Cd_inst rfl rfl rfl hg).trans ((Rr_blk (Cd d) 21 [10, 43] 48 0 _ [] hp).trans rfl)
set_option maxRecDepth 100000 in
theorem c21_10 (d : Nat) (v0 v1 v2 v3 v4 v5 : Int) (hp : HP) : Rr (Cd d) 21 10 [some (vA v0), some (vA v1), some (vI v2), some (vI v3), some (vI v4), some (vI v5)] [] hp =
  (gF hp 1 4 v0).bind fun x1 =>
  if v5 < x1 then
    ((Cd d 169 [vI v3, vI v5] hp).bind toI).bind fun q2 =>
    if q2.1 = 0 then
      ((Cd d 22 [vA v0, vA v1, vI v2, vI v5] q2.2).bind toI).bind fun q3 =>
      if q3.1 = 0 then
        Rr (Cd d) 21 43 [some (vA v0), some (vA v1), some (vI v2), some (vI v3), some (vI v4), some (vI v5)] [] q3.2
      else
        (gF q3.2 1 3 v0).bind fun x4 =>
        (pA q3.2 0 x4 v2 v5).bind fun h5 =>
        ((Cd d 21 [vA v0, vA v1, vI (w32 (v2 + 1)), vI (ior v3 (ishl 1 v5))] h5).bind toI).bind fun q6 =>
        Rr (Cd d) 21 43 [some (vA v0), some (vA v1), some (vI v2), some (vI v3), some (vI (w32 (v4 + q6.1))), some (vI v5)] [] q6.2
    else
      Rr (Cd d) 21 43 [some (vA v0), some (vA v1), some (vI v2), some (vI v3), some (vI v4), some (vI v5)] [] q2.2
  else
    some ([vI v4], hp) := (Rr_blk (Cd d) 21 [10, 43] 48 10 _ _ hp).trans rfl
set_option maxRecDepth 100000 in
theorem c21_43 (d : Nat) (v0 v1 v2 v3 v4 v5 : Int) (hp : HP) : Rr (Cd d) 21 43 [some (vA v0), some (vA v1), some (vI v2), some (vI v3), some (vI v4), some (vI v5)] [] hp =
  Rr (Cd d) 21 10 [some (vA v0), some (vA v1), some (vI v2), some (vI v3), some (vI v4), some (vI (w32 (v5 + 1)))] [] hp := (Rr_blk (Cd d) 21 [10, 43] 48 43 _ _ hp).trans rfl
set_option maxRecDepth 100000 in
theorem c22 (d : Nat) (v0 v1 v2 v3 : Int) (hp : HP) {n : Nat} (hg : gS hp v0 = some (1, n)) : Cd (d + 1) 22 [vA v0, vA v1, vI v2, vI v3] hp =
  Rr (Cd d) 22 2 [some (vA v0), some (vA v1), some (vI v2), some (vI v3), some (vI 0)] [] hp := (Cd_inst rfl rfl rfl hg).trans ((Rr_blk (Cd d) 22 [2] 28 0 _ [] hp).trans rfl)
set_option maxRecDepth 100000 in
theorem c22_2 (d : Nat) (v0 v1 v2 v3 v4 : Int) (hp : HP) : Rr (Cd d) 22 2 [some (vA v0), some (vA v1), some (vI v2), some (vI v3), some (vI v4)] [] hp =
  if v4 < v2 then
    (gF hp 1 2 v0).bind fun x1 =>
    (gA hp 0 x1 v2).bind fun x2 =>
    ((Cd d 169 [vI x2, vI v4] hp).bind toI).bind fun q3 =>
    (gF q3.2 1 2 v1).bind fun x4 =>
    (gA q3.2 0 x4 v3).bind fun x5 =>
    (gF q3.2 1 3 v0).bind fun x6 =>
    (gA q3.2 0 x6 v4).bind fun x7 =>
    ((Cd d 169 [vI x5, vI x7] q3.2).bind toI).bind fun q8 =>
    if q3.1 = q8.1 then
      Rr (Cd d) 22 2 [some (vA v0), some (vA v1), some (vI v2), some (vI v3), some (vI (w32 (v4 + 1)))] [] q8.2
    else
      some ([vI 0], q8.2)
  else
    some ([vI 1], hp) := (Rr_blk (Cd d) 22 [2] 28 2 _ _ hp).trans rfl
