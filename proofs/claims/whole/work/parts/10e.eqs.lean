/-! the methods as equations, written by a program -/
set_option maxRecDepth 100000 in
theorem c62 (d : Nat) (v0 : Int) (hp : HP) {n : Nat} (hg : gS hp v0 = some (5, n)) : Cd (d + 1) 62 [vA v0] hp =
  if 0 < v0 ∧ wid [] ≤ 8 then
    (pF (mk hp 100 120) 5 0 v0 ((hp.1.length : Int))).bind fun h1 =>
    some ([], h1)
  else none := (Cd_inst rfl rfl rfl hg).trans ((Rr_blk (Cd d) 62 [] 8 0 _ [] hp).trans rfl)
set_option maxRecDepth 100000 in
theorem c63 (d : Nat) (v0 v1 : Int) (hp : HP) {n : Nat} (hg : gS hp v0 = some (5, n)) : Cd (d + 1) 63 [vA v0, vI v1] hp =
  (pF hp 5 1 v0 0).bind fun h1 =>
  Rr (Cd d) 63 5 [some (vA v0), some (vI v1), some (vI v1)] [] h1 := (Cd_inst rfl rfl rfl hg).trans ((Rr_blk (Cd d) 63 [5, 30] 32 0 _ [] hp).trans rfl)
set_option maxRecDepth 100000 in
theorem c63_5 (d : Nat) (v0 v2 : Int) (o1 : Option AV) (hp : HP) : Rr (Cd d) 63 5 [some (vA v0), o1, some (vI v2)] [] hp =
  if 0 < v2 then
    (gF hp 5 1 v0).bind fun x1 =>
    if x1 < 120 then
      (gF hp 5 0 v0).bind fun x2 =>
      (gF hp 5 1 v0).bind fun x3 =>
      (pA hp 0 x2 x3 (irem v2 1000000)).bind fun h4 =>
      (gF h4 5 1 v0).bind fun x5 =>
      (pF h4 5 1 v0 (w32 (x5 + 1))).bind fun h6 =>
      Rr (Cd d) 63 5 [some (vA v0), o1, some (vI (idiv v2 1000000))] [] h6
    else
      Rr (Cd d) 63 30 [some (vA v0), o1, some (vI v2)] [] hp
  else
    Rr (Cd d) 63 30 [some (vA v0), o1, some (vI v2)] [] hp := (Rr_blk (Cd d) 63 [5, 30] 32 5 _ _ hp).trans rfl
set_option maxRecDepth 100000 in
theorem c63_30 (d : Nat) (o0 o1 o2 : Option AV) (hp : HP) : Rr (Cd d) 63 30 [o0, o1, o2] [] hp =
  some ([], hp) := (Rr_blk (Cd d) 63 [5, 30] 32 30 _ _ hp).trans rfl
set_option maxRecDepth 100000 in
theorem c64 (d : Nat) (v0 v1 : Int) (hp : HP) {n : Nat} (hg : gS hp v0 = some (5, n)) : Cd (d + 1) 64 [vA v0, vI v1] hp =
  Rr (Cd d) 64 4 [some (vA v0), some (vI v1), some (vI 0), some (vI 0), none] [] hp := (Cd_inst rfl rfl rfl hg).trans ((Rr_blk (Cd d) 64 [4, 48, 66] 68 0 _ [] hp).trans rfl)
set_option maxRecDepth 100000 in
theorem c64_4 (d : Nat) (v0 v1 v2 v3 : Int) (o4 : Option AV) (hp : HP) : Rr (Cd d) 64 4 [some (vA v0), some (vI v1), some (vI v2), some (vI v3), o4] [] hp =
  (gF hp 5 1 v0).bind fun x1 =>
  if v3 < x1 then
    (gF hp 5 0 v0).bind fun x8 =>
    (gA hp 0 x8 v3).bind fun x9 =>
    (gF hp 5 0 v0).bind fun x10 =>
    (pA hp 0 x10 v3 (irem (w32 (w32 (x9 * v1) + v2)) 1000000)).bind fun h11 =>
    Rr (Cd d) 64 4 [some (vA v0), some (vI v1), some (vI (idiv (w32 (w32 (x9 * v1) + v2)) 1000000)), some (vI (w32 (v3 + 1))), some (vI (w32 (w32 (x9 * v1) + v2)))] [] h11
  else
    if 0 < v2 then
      (gF hp 5 1 v0).bind fun x2 =>
      if x2 < 120 then
        (gF hp 5 0 v0).bind fun x3 =>
        (gF hp 5 1 v0).bind fun x4 =>
        (pA hp 0 x3 x4 v2).bind fun h5 =>
        (gF h5 5 1 v0).bind fun x6 =>
        (pF h5 5 1 v0 (w32 (x6 + 1))).bind fun h7 =>
        Rr (Cd d) 64 48 [some (vA v0), some (vI v1), some (vI v2), some (vI v3), o4] [] h7
      else
        Rr (Cd d) 64 48 [some (vA v0), some (vI v1), some (vI v2), some (vI v3), o4] [] hp
    else
      Rr (Cd d) 64 48 [some (vA v0), some (vI v1), some (vI v2), some (vI v3), o4] [] hp := (Rr_blk (Cd d) 64 [4, 48, 66] 68 4 _ _ hp).trans rfl
set_option maxRecDepth 100000 in
theorem c64_48 (d : Nat) (v0 : Int) (o1 o2 o3 o4 : Option AV) (hp : HP) : Rr (Cd d) 64 48 [some (vA v0), o1, o2, o3, o4] [] hp =
  (gF hp 5 1 v0).bind fun x1 =>
  if 0 < x1 then
    (gF hp 5 0 v0).bind fun x2 =>
    (gF hp 5 1 v0).bind fun x3 =>
    (gA hp 0 x2 (w32 (x3 - 1))).bind fun x4 =>
    if x4 = 0 then
      (gF hp 5 1 v0).bind fun x5 =>
      (pF hp 5 1 v0 (w32 (x5 - 1))).bind fun h6 =>
      Rr (Cd d) 64 48 [some (vA v0), o1, o2, o3, o4] [] h6
    else
      Rr (Cd d) 64 66 [some (vA v0), o1, o2, o3, o4] [] hp
  else
    Rr (Cd d) 64 66 [some (vA v0), o1, o2, o3, o4] [] hp := (Rr_blk (Cd d) 64 [4, 48, 66] 68 48 _ _ hp).trans rfl
set_option maxRecDepth 100000 in
theorem c64_66 (d : Nat) (o0 o1 o2 o3 o4 : Option AV) (hp : HP) : Rr (Cd d) 64 66 [o0, o1, o2, o3, o4] [] hp =
  some ([], hp) := (Rr_blk (Cd d) 64 [4, 48, 66] 68 66 _ _ hp).trans rfl
set_option maxRecDepth 100000 in
theorem c65 (d : Nat) (v0 v1 : Int) (hp : HP) {n : Nat} (hg : gS hp v0 = some (5, n)) : Cd (d + 1) 65 [vA v0, vA v1] hp =
  (gF hp 5 1 v0).bind fun x1 =>
  (gF hp 5 1 v1).bind fun x2 =>
  if x1 = x2 then
    (gF hp 5 1 v0).bind fun x3 =>
    Rr (Cd d) 65 19 [some (vA v0), some (vA v1), some (vI (w32 (x3 - 1)))] [] hp
  else
    (gF hp 5 1 v0).bind fun x4 =>
    (gF hp 5 1 v1).bind fun x5 =>
    if x5 < x4 then
      Rr (Cd d) 65 13 [some (vA v0), some (vA v1), none] [vI 1] hp
    else
      Rr (Cd d) 65 13 [some (vA v0), some (vA v1), none] [vI 0] hp := (Cd_inst rfl rfl rfl hg).trans ((Rr_blk (Cd d) 65 [13, 19, 42] 48 0 _ [] hp).trans rfl)
set_option maxRecDepth 100000 in
theorem c65_13 (d : Nat) (s0 : Int) (o0 o1 o2 : Option AV) (hp : HP) : Rr (Cd d) 65 13 [o0, o1, o2] [vI s0] hp =
  if s0 = 0 ∨ s0 = 1 then some ([vI s0], hp) else none := (Rr_blk (Cd d) 65 [13, 19, 42] 48 13 _ _ hp).trans rfl
set_option maxRecDepth 100000 in
theorem c65_19 (d : Nat) (v0 v1 v2 : Int) (hp : HP) : Rr (Cd d) 65 19 [some (vA v0), some (vA v1), some (vI v2)] [] hp =
  if v2 < 0 then
    some ([vI 0], hp)
  else
    (gF hp 5 0 v0).bind fun x1 =>
    (gA hp 0 x1 v2).bind fun x2 =>
    (gF hp 5 0 v1).bind fun x3 =>
    (gA hp 0 x3 v2).bind fun x4 =>
    if x2 = x4 then
      Rr (Cd d) 65 19 [some (vA v0), some (vA v1), some (vI (w32 (v2 + (-1))))] [] hp
    else
      (gF hp 5 0 v0).bind fun x5 =>
      (gA hp 0 x5 v2).bind fun x6 =>
      (gF hp 5 0 v1).bind fun x7 =>
      (gA hp 0 x7 v2).bind fun x8 =>
      if x8 < x6 then
        Rr (Cd d) 65 42 [some (vA v0), some (vA v1), some (vI v2)] [vI 1] hp
      else
        Rr (Cd d) 65 42 [some (vA v0), some (vA v1), some (vI v2)] [vI 0] hp := (Rr_blk (Cd d) 65 [13, 19, 42] 48 19 _ _ hp).trans rfl
set_option maxRecDepth 100000 in
theorem c65_42 (d : Nat) (s0 : Int) (o0 o1 o2 : Option AV) (hp : HP) : Rr (Cd d) 65 42 [o0, o1, o2] [vI s0] hp =
  if s0 = 0 ∨ s0 = 1 then some ([vI s0], hp) else none := (Rr_blk (Cd d) 65 [13, 19, 42] 48 42 _ _ hp).trans rfl
set_option maxRecDepth 100000 in
theorem c66 (d : Nat) (v0 : Int) (hp : HP) {n : Nat} (hg : gS hp v0 = some (6, n)) : Cd (d + 1) 66 [vA v0] hp =
  if 0 < v0 ∧ wid [] ≤ 8 then
    (pF (mk hp 100 300) 6 0 v0 ((hp.1.length : Int))).bind fun h1 =>
    (pF (mk h1 100 301) 6 1 v0 ((h1.1.length : Int))).bind fun h2 =>
    (pF (mk h2 100 301) 6 2 v0 ((h2.1.length : Int))).bind fun h3 =>
    (pF (mk h3 100 301) 6 3 v0 ((h3.1.length : Int))).bind fun h4 =>
    ((Cd d 23 [vA ((h4.1.length : Int))] (mk h4 2 8)).bind toV).bind fun q5 =>
    (pF q5 6 4 v0 ((h4.1.length : Int))).bind fun h6 =>
    (pF h6 6 6 v0 ((-1))).bind fun h7 =>
    (pF h7 6 7 v0 ((-1))).bind fun h8 =>
    some ([], h8)
  else none := (Cd_inst rfl rfl rfl hg).trans ((Rr_blk (Cd d) 66 [] 31 0 _ [] hp).trans rfl)
set_option maxRecDepth 100000 in
theorem c67 (d : Nat) (v0 v1 : Int) (hp : HP) {n : Nat} (hg : gS hp v0 = some (6, n)) : Cd (d + 1) 67 [vA v0, vI v1] hp =
  Rr (Cd d) 67 2 [some (vA v0), some (vI v1), some (vI 24)] [] hp := (Cd_inst rfl rfl rfl hg).trans ((Rr_blk (Cd d) 67 [2, 24] 28 0 _ [] hp).trans rfl)
set_option maxRecDepth 100000 in
theorem c67_2 (d : Nat) (v0 v1 v2 : Int) (hp : HP) : Rr (Cd d) 67 2 [some (vA v0), some (vI v1), some (vI v2)] [] hp =
  if v2 < 0 then
    some ([], hp)
  else
    (gF hp 6 5 v0).bind fun x1 =>
    if x1 < 300 then
      (gF hp 6 0 v0).bind fun x2 =>
      (gF hp 6 5 v0).bind fun x3 =>
      (pA hp 0 x2 x3 (iand (ishr v1 v2) 255)).bind fun h4 =>
      (gF h4 6 5 v0).bind fun x5 =>
      (pF h4 6 5 v0 (w32 (x5 + 1))).bind fun h6 =>
      Rr (Cd d) 67 24 [some (vA v0), some (vI v1), some (vI v2)] [] h6
    else
      Rr (Cd d) 67 24 [some (vA v0), some (vI v1), some (vI v2)] [] hp := (Rr_blk (Cd d) 67 [2, 24] 28 2 _ _ hp).trans rfl
set_option maxRecDepth 100000 in
theorem c67_24 (d : Nat) (v0 v1 v2 : Int) (hp : HP) : Rr (Cd d) 67 24 [some (vA v0), some (vI v1), some (vI v2)] [] hp =
  Rr (Cd d) 67 2 [some (vA v0), some (vI v1), some (vI (w32 (v2 + (-8))))] [] hp := (Rr_blk (Cd d) 67 [2, 24] 28 24 _ _ hp).trans rfl
set_option maxRecDepth 100000 in
theorem c68 (d : Nat) (v0 v1 : Int) (hp : HP) {n : Nat} (hg : gS hp v0 = some (6, n)) : Cd (d + 1) 68 [vA v0, vA v1] hp =
  (gF hp 6 11 v0).bind fun x1 =>
  (pF hp 8 1 v1 x1).bind fun h2 =>
  (gF h2 6 13 v0).bind fun x3 =>
  if x3 = 0 ∨ x3 = 1 then
    (pF h2 8 3 v1 x3).bind fun h4 =>
    (gF h4 6 12 v0).bind fun x5 =>
    (pF h4 8 2 v1 x5).bind fun h6 =>
    (gF h6 6 4 v0).bind fun x7 =>
    (gF h6 8 0 v1).bind fun x8 =>
    ((Cd d 27 [vA x7, vA x8] h6).bind toV).bind fun q9 =>
    some ([], q9)
  else none := (Cd_inst rfl rfl rfl hg).trans ((Rr_blk (Cd d) 68 [] 19 0 _ [] hp).trans rfl)
set_option maxRecDepth 100000 in
theorem c69 (d : Nat) (v0 : Int) (hp : HP) {n : Nat} (hg : gS hp v0 = some (6, n)) : Cd (d + 1) 69 [vA v0] hp =
  (pF hp 6 6 v0 0).bind fun h1 =>
  (pF h1 6 7 v0 ((-1))).bind fun h2 =>
  (pF h2 6 10 v0 0).bind fun h3 =>
  (pF h3 6 11 v0 1).bind fun h4 =>
  (pF h4 6 13 v0 0).bind fun h5 =>
  (pF h5 6 12 v0 0).bind fun h6 =>
  (gF h6 6 4 v0).bind fun x7 =>
  ((Cd d 25 [vA x7] h6).bind toV).bind fun q8 =>
  ((Cd d 82 [vA v0] q8).bind toV).bind fun q9 =>
  Rr (Cd d) 69 25 [some (vA v0), some (vI 0)] [] q9 := (Cd_inst rfl rfl rfl hg).trans ((Rr_blk (Cd d) 69 [25, 41] 44 0 _ [] hp).trans rfl)
set_option maxRecDepth 100000 in
theorem c69_25 (d : Nat) (v0 v1 : Int) (hp : HP) : Rr (Cd d) 69 25 [some (vA v0), some (vI v1)] [] hp =
  if v1 < 300 then
    (gF hp 6 1 v0).bind fun x1 =>
    (gF hp 6 9 v0).bind fun x2 =>
    (gA hp 0 x1 x2).bind fun x3 =>
    if x3 = 0 then
      Rr (Cd d) 69 41 [some (vA v0), some (vI v1)] [] hp
    else
      ((Cd d 72 [vA v0] hp).bind toI).bind fun q4 =>
      if q4.1 = 0 then
        some ([vI 0], q4.2)
      else
        Rr (Cd d) 69 25 [some (vA v0), some (vI (w32 (v1 + 1)))] [] q4.2
  else
    Rr (Cd d) 69 41 [some (vA v0), some (vI v1)] [] hp := (Rr_blk (Cd d) 69 [25, 41] 44 25 _ _ hp).trans rfl
set_option maxRecDepth 100000 in
theorem c69_41 (d : Nat) (o0 o1 : Option AV) (hp : HP) : Rr (Cd d) 69 41 [o0, o1] [] hp =
  some ([vI 1], hp) := (Rr_blk (Cd d) 69 [25, 41] 44 41 _ _ hp).trans rfl
set_option maxRecDepth 100000 in
theorem c70 (d : Nat) (v0 v1 : Int) (hp : HP) {n : Nat} (hg : gS hp v0 = some (6, n)) : Cd (d + 1) 70 [vA v0, vI v1] hp =
  (pF hp 6 6 v0 v1).bind fun h1 =>
  (gF h1 6 2 v0).bind fun x2 =>
  (gF h1 6 9 v0).bind fun x3 =>
  (gA h1 0 x2 x3).bind fun x4 =>
  (pF h1 6 7 v0 x4).bind fun h5 =>
  some ([vI 0], h5) := (Cd_inst rfl rfl rfl hg).trans ((Rr_blk (Cd d) 70 [] 13 0 _ [] hp).trans rfl)
set_option maxRecDepth 100000 in
theorem c71 (d : Nat) (v0 : Int) (hp : HP) {n : Nat} (hg : gS hp v0 = some (6, n)) : Cd (d + 1) 71 [vA v0] hp =
  (gF hp 6 9 v0).bind fun x1 =>
  (gF hp 6 8 v0).bind fun x2 =>
  if x1 < x2 then
    (gF hp 6 9 v0).bind fun x3 =>
    (pF hp 6 9 v0 (w32 (x3 + 1))).bind fun h4 =>
    Rr (Cd d) 71 11 [some (vA v0)] [] h4
  else
    Rr (Cd d) 71 11 [some (vA v0)] [] hp := (Cd_inst rfl rfl rfl hg).trans ((Rr_blk (Cd d) 71 [11] 13 0 _ [] hp).trans rfl)
set_option maxRecDepth 100000 in
theorem c71_11 (d : Nat) (o0 : Option AV) (hp : HP) : Rr (Cd d) 71 11 [o0] [] hp =
  some ([], hp) := (Rr_blk (Cd d) 71 [11] 13 11 _ _ hp).trans rfl
set_option maxRecDepth 100000 in
theorem c72 (d : Nat) (v0 : Int) (hp : HP) {n : Nat} (hg : gS hp v0 = some (6, n)) : Cd (d + 1) 72 [vA v0] hp =
  (gF hp 6 1 v0).bind fun x1 =>
  (gF hp 6 9 v0).bind fun x2 =>
  (gA hp 0 x1 x2).bind fun x3 =>
  if x3 < 10 then
    Rr (Cd d) 72 12 [some (vA v0), some (vI x3), none] [] hp
  else
    if 13 < x3 then
      Rr (Cd d) 72 12 [some (vA v0), some (vI x3), none] [] hp
    else
      (gF hp 6 10 v0).bind fun x4 =>
      ((Cd d 169 [vI x4, vI x3] hp).bind toI).bind fun q5 =>
      if q5.1 = 0 then
        (gF q5.2 6 10 v0).bind fun x6 =>
        (pF q5.2 6 10 v0 (ior x6 (ishl 1 x3))).bind fun h7 =>
        ((Cd d 71 [vA v0] h7).bind toV).bind fun q8 =>
        if x3 = 10 then
          ((Cd d 73 [vA v0] q8).bind toI).bind fun q9 =>
          Rr (Cd d) 72 54 [some (vA v0), some (vI x3), some (vI q9.1)] [] q9.2
        else
        if x3 = 11 then
          (pF q8 6 13 v0 1).bind fun h10 =>
          Rr (Cd d) 72 54 [some (vA v0), some (vI x3), some (vI 1)] [] h10
        else
        if x3 = 12 then
          ((Cd d 74 [vA v0] q8).bind toI).bind fun q11 =>
          Rr (Cd d) 72 54 [some (vA v0), some (vI x3), some (vI q11.1)] [] q11.2
        else
        if x3 = 13 then
          ((Cd d 75 [vA v0] q8).bind toI).bind fun q12 =>
          Rr (Cd d) 72 54 [some (vA v0), some (vI x3), some (vI q12.1)] [] q12.2
        else
        (pF q8 6 13 v0 1).bind fun h13 =>
        Rr (Cd d) 72 54 [some (vA v0), some (vI x3), some (vI 1)] [] h13
      else
        ((Cd d 70 [vA v0, vI 4] q5.2).bind toI).bind fun q14 =>
        if q14.1 = 0 ∨ q14.1 = 1 then some ([vI q14.1], q14.2) else none := (Cd_inst rfl rfl rfl hg).trans ((Rr_blk (Cd d) 72 [12, 54] 74 0 _ [] hp).trans rfl)
set_option maxRecDepth 100000 in
theorem c72_12 (d : Nat) (v0 : Int) (o1 o2 : Option AV) (hp : HP) : Rr (Cd d) 72 12 [some (vA v0), o1, o2] [] hp =
  ((Cd d 70 [vA v0, vI 1] hp).bind toI).bind fun q1 =>
  if q1.1 = 0 ∨ q1.1 = 1 then some ([vI q1.1], q1.2) else none := (Rr_blk (Cd d) 72 [12, 54] 74 12 _ _ hp).trans rfl
set_option maxRecDepth 100000 in
theorem c72_54 (d : Nat) (v0 v2 : Int) (o1 : Option AV) (hp : HP) : Rr (Cd d) 72 54 [some (vA v0), o1, some (vI v2)] [] hp =
  if v2 = 0 then
    some ([vI 0], hp)
  else
    (gF hp 6 1 v0).bind fun x1 =>
    (gF hp 6 9 v0).bind fun x2 =>
    (gA hp 0 x1 x2).bind fun x3 =>
    if x3 = 59 then
      ((Cd d 71 [vA v0] hp).bind toV).bind fun q4 =>
      some ([vI 1], q4)
    else
      ((Cd d 70 [vA v0, vI 1] hp).bind toI).bind fun q5 =>
      if q5.1 = 0 ∨ q5.1 = 1 then some ([vI q5.1], q5.2) else none := (Rr_blk (Cd d) 72 [12, 54] 74 54 _ _ hp).trans rfl
set_option maxRecDepth 100000 in
theorem c73 (d : Nat) (v0 : Int) (hp : HP) {n : Nat} (hg : gS hp v0 = some (6, n)) : Cd (d + 1) 73 [vA v0] hp =
  (gF hp 6 1 v0).bind fun x1 =>
  (gF hp 6 9 v0).bind fun x2 =>
  (gA hp 0 x1 x2).bind fun x3 =>
  if x3 = 3 then
    (gF hp 6 3 v0).bind fun x4 =>
    (gF hp 6 9 v0).bind fun x5 =>
    (gA hp 0 x4 x5).bind fun x6 =>
    if x6 = 1 then
      Rr (Cd d) 73 33 [some (vA v0), some (vI x6)] [] hp
    else
      if x6 = 2 then
        Rr (Cd d) 73 33 [some (vA v0), some (vI x6)] [] hp
      else
        if x6 = 3 then
          Rr (Cd d) 73 33 [some (vA v0), some (vI x6)] [] hp
        else
          if x6 = 6 then
            Rr (Cd d) 73 33 [some (vA v0), some (vI x6)] [] hp
          else
            ((Cd d 70 [vA v0, vI 2] hp).bind toI).bind fun q7 =>
            if q7.1 = 0 ∨ q7.1 = 1 then some ([vI q7.1], q7.2) else none
  else
    ((Cd d 70 [vA v0, vI 1] hp).bind toI).bind fun q8 =>
    if q8.1 = 0 ∨ q8.1 = 1 then some ([vI q8.1], q8.2) else none := (Cd_inst rfl rfl rfl hg).trans ((Rr_blk (Cd d) 73 [33] 41 0 _ [] hp).trans rfl)
set_option maxRecDepth 100000 in
theorem c73_33 (d : Nat) (v0 v1 : Int) (hp : HP) : Rr (Cd d) 73 33 [some (vA v0), some (vI v1)] [] hp =
  (pF hp 6 11 v0 v1).bind fun h1 =>
  ((Cd d 71 [vA v0] h1).bind toV).bind fun q2 =>
  some ([vI 1], q2) := (Rr_blk (Cd d) 73 [33] 41 33 _ _ hp).trans rfl
set_option maxRecDepth 100000 in
theorem c74 (d : Nat) (v0 : Int) (hp : HP) {n : Nat} (hg : gS hp v0 = some (6, n)) : Cd (d + 1) 74 [vA v0] hp =
  (gF hp 6 1 v0).bind fun x1 =>
  (gF hp 6 9 v0).bind fun x2 =>
  (gA hp 0 x1 x2).bind fun x3 =>
  if x3 < 14 then
    Rr (Cd d) 74 12 [some (vA v0), some (vI x3)] [] hp
  else
    if 16 < x3 then
      Rr (Cd d) 74 12 [some (vA v0), some (vI x3)] [] hp
    else
      (pF hp 6 12 v0 (w32 (x3 - 14))).bind fun h4 =>
      ((Cd d 71 [vA v0] h4).bind toV).bind fun q5 =>
      some ([vI 1], q5) := (Cd_inst rfl rfl rfl hg).trans ((Rr_blk (Cd d) 74 [12] 26 0 _ [] hp).trans rfl)
set_option maxRecDepth 100000 in
theorem c74_12 (d : Nat) (v0 : Int) (o1 : Option AV) (hp : HP) : Rr (Cd d) 74 12 [some (vA v0), o1] [] hp =
  ((Cd d 70 [vA v0, vI 1] hp).bind toI).bind fun q1 =>
  if q1.1 = 0 ∨ q1.1 = 1 then some ([vI q1.1], q1.2) else none := (Rr_blk (Cd d) 74 [12] 26 12 _ _ hp).trans rfl
set_option maxRecDepth 100000 in
theorem c75 (d : Nat) (v0 : Int) (hp : HP) {n : Nat} (hg : gS hp v0 = some (6, n)) : Cd (d + 1) 75 [vA v0] hp =
  ((Cd d 76 [vA v0] hp).bind toI).bind fun q1 =>
  if q1.1 = 0 then
    some ([vI 0], q1.2)
  else
    Rr (Cd d) 75 7 [some (vA v0), some (vI 0)] [] q1.2 := (Cd_inst rfl rfl rfl hg).trans ((Rr_blk (Cd d) 75 [7, 31] 34 0 _ [] hp).trans rfl)
set_option maxRecDepth 100000 in
theorem c75_7 (d : Nat) (v0 v1 : Int) (hp : HP) : Rr (Cd d) 75 7 [some (vA v0), some (vI v1)] [] hp =
  if v1 < 300 then
    (gF hp 6 1 v0).bind fun x1 =>
    (gF hp 6 9 v0).bind fun x2 =>
    (gA hp 0 x1 x2).bind fun x3 =>
    if x3 = 9 then
      ((Cd d 71 [vA v0] hp).bind toV).bind fun q4 =>
      ((Cd d 76 [vA v0] q4).bind toI).bind fun q5 =>
      if q5.1 = 0 then
        some ([vI 0], q5.2)
      else
        (gF q5.2 6 4 v0).bind fun x6 =>
        ((Cd d 26 [vA x6, vI 9, vI 0] q5.2).bind toV).bind fun q7 =>
        Rr (Cd d) 75 7 [some (vA v0), some (vI (w32 (v1 + 1)))] [] q7
    else
      Rr (Cd d) 75 31 [some (vA v0), some (vI v1)] [] hp
  else
    Rr (Cd d) 75 31 [some (vA v0), some (vI v1)] [] hp := (Rr_blk (Cd d) 75 [7, 31] 34 7 _ _ hp).trans rfl
set_option maxRecDepth 100000 in
theorem c75_31 (d : Nat) (o0 o1 : Option AV) (hp : HP) : Rr (Cd d) 75 31 [o0, o1] [] hp =
  some ([vI 1], hp) := (Rr_blk (Cd d) 75 [7, 31] 34 31 _ _ hp).trans rfl
set_option maxRecDepth 100000 in
theorem c76 (d : Nat) (v0 : Int) (hp : HP) {n : Nat} (hg : gS hp v0 = some (6, n)) : Cd (d + 1) 76 [vA v0] hp =
  ((Cd d 77 [vA v0, vI 0] hp).bind toI).bind fun q1 =>
  if q1.1 = 0 then
    some ([vI 0], q1.2)
  else
    Rr (Cd d) 76 8 [some (vA v0), some (vI 0)] [] q1.2 := (Cd_inst rfl rfl rfl hg).trans ((Rr_blk (Cd d) 76 [8, 33] 36 0 _ [] hp).trans rfl)
set_option maxRecDepth 100000 in
theorem c76_8 (d : Nat) (v0 v1 : Int) (hp : HP) : Rr (Cd d) 76 8 [some (vA v0), some (vI v1)] [] hp =
  if v1 < 300 then
    (gF hp 6 1 v0).bind fun x1 =>
    (gF hp 6 9 v0).bind fun x2 =>
    (gA hp 0 x1 x2).bind fun x3 =>
    if x3 = 8 then
      ((Cd d 71 [vA v0] hp).bind toV).bind fun q4 =>
      ((Cd d 77 [vA v0, vI 0] q4).bind toI).bind fun q5 =>
      if q5.1 = 0 then
        some ([vI 0], q5.2)
      else
        (gF q5.2 6 4 v0).bind fun x6 =>
        ((Cd d 26 [vA x6, vI 8, vI 0] q5.2).bind toV).bind fun q7 =>
        Rr (Cd d) 76 8 [some (vA v0), some (vI (w32 (v1 + 1)))] [] q7
    else
      Rr (Cd d) 76 33 [some (vA v0), some (vI v1)] [] hp
  else
    Rr (Cd d) 76 33 [some (vA v0), some (vI v1)] [] hp := (Rr_blk (Cd d) 76 [8, 33] 36 8 _ _ hp).trans rfl
set_option maxRecDepth 100000 in
theorem c76_33 (d : Nat) (o0 o1 : Option AV) (hp : HP) : Rr (Cd d) 76 33 [o0, o1] [] hp =
  some ([vI 1], hp) := (Rr_blk (Cd d) 76 [8, 33] 36 33 _ _ hp).trans rfl
set_option maxRecDepth 100000 in
theorem c77 (d : Nat) (v0 v1 : Int) (hp : HP) {n : Nat} (hg : gS hp v0 = some (6, n)) : Cd (d + 1) 77 [vA v0, vI v1] hp =
  (gF hp 6 1 v0).bind fun x1 =>
  (gF hp 6 9 v0).bind fun x2 =>
  (gA hp 0 x1 x2).bind fun x3 =>
  if x3 = 7 then
    if v1 < 8 then
      ((Cd d 71 [vA v0] hp).bind toV).bind fun q14 =>
      ((Cd d 77 [vA v0, vI (w32 (v1 + 1))] q14).bind toI).bind fun q15 =>
      if q15.1 = 0 then
        some ([vI 0], q15.2)
      else
        (gF q15.2 6 4 v0).bind fun x16 =>
        ((Cd d 26 [vA x16, vI 7, vI 0] q15.2).bind toV).bind fun q17 =>
        some ([vI 1], q17)
    else
      ((Cd d 70 [vA v0, vI 3] hp).bind toI).bind fun q18 =>
      if q18.1 = 0 ∨ q18.1 = 1 then some ([vI q18.1], q18.2) else none
  else
    ((Cd d 78 [vA v0, vI v1] hp).bind toI).bind fun q4 =>
    if q4.1 = 0 then
      some ([vI 0], q4.2)
    else
      (gF q4.2 6 1 v0).bind fun x5 =>
      (gF q4.2 6 9 v0).bind fun x6 =>
      (gA q4.2 0 x5 x6).bind fun x7 =>
      ((Cd d 24 [vI x7] q4.2).bind toI).bind fun q8 =>
      if q8.1 = 0 then
        ((Cd d 70 [vA v0, vI 1] q8.2).bind toI).bind fun q13 =>
        if q13.1 = 0 ∨ q13.1 = 1 then some ([vI q13.1], q13.2) else none
      else
        ((Cd d 71 [vA v0] q8.2).bind toV).bind fun q9 =>
        ((Cd d 78 [vA v0, vI v1] q9).bind toI).bind fun q10 =>
        if q10.1 = 0 then
          some ([vI 0], q10.2)
        else
          (gF q10.2 6 4 v0).bind fun x11 =>
          ((Cd d 26 [vA x11, vI x7, vI 0] q10.2).bind toV).bind fun q12 =>
          some ([vI 1], q12) := (Cd_inst rfl rfl rfl hg).trans ((Rr_blk (Cd d) 77 [] 66 0 _ [] hp).trans rfl)
set_option maxRecDepth 100000 in
theorem c78 (d : Nat) (v0 v1 : Int) (hp : HP) {n : Nat} (hg : gS hp v0 = some (6, n)) : Cd (d + 1) 78 [vA v0, vI v1] hp =
  ((Cd d 79 [vA v0, vI v1] hp).bind toI).bind fun q1 =>
  if q1.1 = 0 then
    some ([vI 0], q1.2)
  else
    Rr (Cd d) 78 8 [some (vA v0), some (vI v1), some (vI 0), none] [] q1.2 := (Cd_inst rfl rfl rfl hg).trans ((Rr_blk (Cd d) 78 [8, 25, 46] 49 0 _ [] hp).trans rfl)
set_option maxRecDepth 100000 in
theorem c78_8 (d : Nat) (v0 v1 v2 : Int) (o3 : Option AV) (hp : HP) : Rr (Cd d) 78 8 [some (vA v0), some (vI v1), some (vI v2), o3] [] hp =
  if v2 < 300 then
    (gF hp 6 1 v0).bind fun x1 =>
    (gF hp 6 9 v0).bind fun x2 =>
    (gA hp 0 x1 x2).bind fun x3 =>
    if x3 = 43 then
      Rr (Cd d) 78 25 [some (vA v0), some (vI v1), some (vI v2), o3] [] hp
    else
      (gF hp 6 1 v0).bind fun x4 =>
      (gF hp 6 9 v0).bind fun x5 =>
      (gA hp 0 x4 x5).bind fun x6 =>
      if x6 = 45 then
        Rr (Cd d) 78 25 [some (vA v0), some (vI v1), some (vI v2), o3] [] hp
      else
        Rr (Cd d) 78 46 [some (vA v0), some (vI v1), some (vI v2), o3] [] hp
  else
    Rr (Cd d) 78 46 [some (vA v0), some (vI v1), some (vI v2), o3] [] hp := (Rr_blk (Cd d) 78 [8, 25, 46] 49 8 _ _ hp).trans rfl
set_option maxRecDepth 100000 in
theorem c78_25 (d : Nat) (v0 v1 v2 : Int) (o3 : Option AV) (hp : HP) : Rr (Cd d) 78 25 [some (vA v0), some (vI v1), some (vI v2), o3] [] hp =
  (gF hp 6 1 v0).bind fun x1 =>
  (gF hp 6 9 v0).bind fun x2 =>
  (gA hp 0 x1 x2).bind fun x3 =>
  ((Cd d 71 [vA v0] hp).bind toV).bind fun q4 =>
  ((Cd d 79 [vA v0, vI v1] q4).bind toI).bind fun q5 =>
  if q5.1 = 0 then
    some ([vI 0], q5.2)
  else
    (gF q5.2 6 4 v0).bind fun x6 =>
    ((Cd d 26 [vA x6, vI x3, vI 0] q5.2).bind toV).bind fun q7 =>
    Rr (Cd d) 78 8 [some (vA v0), some (vI v1), some (vI (w32 (v2 + 1))), some (vI x3)] [] q7 := (Rr_blk (Cd d) 78 [8, 25, 46] 49 25 _ _ hp).trans rfl
set_option maxRecDepth 100000 in
theorem c78_46 (d : Nat) (o0 o1 o2 o3 : Option AV) (hp : HP) : Rr (Cd d) 78 46 [o0, o1, o2, o3] [] hp =
  some ([vI 1], hp) := (Rr_blk (Cd d) 78 [8, 25, 46] 49 46 _ _ hp).trans rfl
set_option maxRecDepth 100000 in
theorem c79 (d : Nat) (v0 v1 : Int) (hp : HP) {n : Nat} (hg : gS hp v0 = some (6, n)) : Cd (d + 1) 79 [vA v0, vI v1] hp =
  ((Cd d 80 [vA v0, vI v1] hp).bind toI).bind fun q1 =>
  if q1.1 = 0 then
    some ([vI 0], q1.2)
  else
    Rr (Cd d) 79 8 [some (vA v0), some (vI v1), some (vI 0)] [] q1.2 := (Cd_inst rfl rfl rfl hg).trans ((Rr_blk (Cd d) 79 [8, 33] 36 0 _ [] hp).trans rfl)
set_option maxRecDepth 100000 in
theorem c79_8 (d : Nat) (v0 v1 v2 : Int) (hp : HP) : Rr (Cd d) 79 8 [some (vA v0), some (vI v1), some (vI v2)] [] hp =
  if v2 < 300 then
    (gF hp 6 1 v0).bind fun x1 =>
    (gF hp 6 9 v0).bind fun x2 =>
    (gA hp 0 x1 x2).bind fun x3 =>
    if x3 = 42 then
      ((Cd d 71 [vA v0] hp).bind toV).bind fun q4 =>
      ((Cd d 80 [vA v0, vI v1] q4).bind toI).bind fun q5 =>
      if q5.1 = 0 then
        some ([vI 0], q5.2)
      else
        (gF q5.2 6 4 v0).bind fun x6 =>
        ((Cd d 26 [vA x6, vI 42, vI 0] q5.2).bind toV).bind fun q7 =>
        Rr (Cd d) 79 8 [some (vA v0), some (vI v1), some (vI (w32 (v2 + 1)))] [] q7
    else
      Rr (Cd d) 79 33 [some (vA v0), some (vI v1), some (vI v2)] [] hp
  else
    Rr (Cd d) 79 33 [some (vA v0), some (vI v1), some (vI v2)] [] hp := (Rr_blk (Cd d) 79 [8, 33] 36 8 _ _ hp).trans rfl
set_option maxRecDepth 100000 in
theorem c79_33 (d : Nat) (o0 o1 o2 : Option AV) (hp : HP) : Rr (Cd d) 79 33 [o0, o1, o2] [] hp =
  some ([vI 1], hp) := (Rr_blk (Cd d) 79 [8, 33] 36 33 _ _ hp).trans rfl
set_option maxRecDepth 100000 in
theorem c80 (d : Nat) (v0 v1 : Int) (hp : HP) {n : Nat} (hg : gS hp v0 = some (6, n)) : Cd (d + 1) 80 [vA v0, vI v1] hp =
  (gF hp 6 1 v0).bind fun x1 =>
  (gF hp 6 9 v0).bind fun x2 =>
  (gA hp 0 x1 x2).bind fun x3 =>
  if x3 = 40 then
    Rr (Cd d) 80 12 [some (vA v0), some (vI v1), some (vI x3)] [] hp
  else
    if x3 = 45 then
      Rr (Cd d) 80 12 [some (vA v0), some (vI v1), some (vI x3)] [] hp
    else
      ((Cd d 30 [vI x3] hp).bind toI).bind fun q4 =>
      if q4.1 = 0 then
        ((Cd d 70 [vA v0, vI 1] q4.2).bind toI).bind fun q9 =>
        if q9.1 = 0 ∨ q9.1 = 1 then some ([vI q9.1], q9.2) else none
      else
        if x3 = 3 then
          (gF q4.2 6 3 v0).bind fun x5 =>
          (gF q4.2 6 9 v0).bind fun x6 =>
          (gA q4.2 0 x5 x6).bind fun x7 =>
          if 9999 < x7 then
            ((Cd d 70 [vA v0, vI 2] q4.2).bind toI).bind fun q8 =>
            if q8.1 = 0 ∨ q8.1 = 1 then some ([vI q8.1], q8.2) else none
          else
            Rr (Cd d) 80 37 [some (vA v0), some (vI v1), some (vI x3)] [] q4.2
        else
          Rr (Cd d) 80 37 [some (vA v0), some (vI v1), some (vI x3)] [] q4.2 := (Cd_inst rfl rfl rfl hg).trans ((Rr_blk (Cd d) 80 [12, 37] 51 0 _ [] hp).trans rfl)
set_option maxRecDepth 100000 in
theorem c80_12 (d : Nat) (v0 v1 : Int) (o2 : Option AV) (hp : HP) : Rr (Cd d) 80 12 [some (vA v0), some (vI v1), o2] [] hp =
  ((Cd d 81 [vA v0, vI v1] hp).bind toI).bind fun q1 =>
  if q1.1 = 0 ∨ q1.1 = 1 then some ([vI q1.1], q1.2) else none := (Rr_blk (Cd d) 80 [12, 37] 51 12 _ _ hp).trans rfl
set_option maxRecDepth 100000 in
theorem c80_37 (d : Nat) (v0 v2 : Int) (o1 : Option AV) (hp : HP) : Rr (Cd d) 80 37 [some (vA v0), o1, some (vI v2)] [] hp =
  (gF hp 6 4 v0).bind fun x1 =>
  (gF hp 6 3 v0).bind fun x2 =>
  (gF hp 6 9 v0).bind fun x3 =>
  (gA hp 0 x2 x3).bind fun x4 =>
  ((Cd d 26 [vA x1, vI v2, vI x4] hp).bind toV).bind fun q5 =>
  ((Cd d 71 [vA v0] q5).bind toV).bind fun q6 =>
  some ([vI 1], q6) := (Rr_blk (Cd d) 80 [12, 37] 51 37 _ _ hp).trans rfl
set_option maxRecDepth 100000 in
theorem c81 (d : Nat) (v0 v1 : Int) (hp : HP) {n : Nat} (hg : gS hp v0 = some (6, n)) : Cd (d + 1) 81 [vA v0, vI v1] hp =
  if v1 < 8 then
    (gF hp 6 1 v0).bind fun x1 =>
    (gF hp 6 9 v0).bind fun x2 =>
    (gA hp 0 x1 x2).bind fun x3 =>
    if x3 = 45 then
      Rr (Cd d) 81 17 [some (vA v0), some (vI v1), none] [vI 1] hp
    else
      Rr (Cd d) 81 17 [some (vA v0), some (vI v1), none] [vI 0] hp
  else
    ((Cd d 70 [vA v0, vI 3] hp).bind toI).bind fun q4 =>
    if q4.1 = 0 ∨ q4.1 = 1 then some ([vI q4.1], q4.2) else none := (Cd_inst rfl rfl rfl hg).trans ((Rr_blk (Cd d) 81 [17] 61 0 _ [] hp).trans rfl)
set_option maxRecDepth 100000 in
theorem c81_17 (d : Nat) (v0 v1 s0 : Int) (o2 : Option AV) (hp : HP) : Rr (Cd d) 81 17 [some (vA v0), some (vI v1), o2] [vI s0] hp =
  ((Cd d 71 [vA v0] hp).bind toV).bind fun q1 =>
  if s0 = 0 then
    ((Cd d 78 [vA v0, vI (w32 (v1 + 1))] q1).bind toI).bind fun q2 =>
    if q2.1 = 0 then
      some ([vI 0], q2.2)
    else
      (gF q2.2 6 1 v0).bind fun x3 =>
      (gF q2.2 6 9 v0).bind fun x4 =>
      (gA q2.2 0 x3 x4).bind fun x5 =>
      if x5 = 41 then
        ((Cd d 71 [vA v0] q2.2).bind toV).bind fun q6 =>
        some ([vI 1], q6)
      else
        ((Cd d 70 [vA v0, vI 1] q2.2).bind toI).bind fun q7 =>
        if q7.1 = 0 ∨ q7.1 = 1 then some ([vI q7.1], q7.2) else none
  else
    ((Cd d 80 [vA v0, vI (w32 (v1 + 1))] q1).bind toI).bind fun q8 =>
    if q8.1 = 0 then
      some ([vI 0], q8.2)
    else
      (gF q8.2 6 4 v0).bind fun x9 =>
      ((Cd d 26 [vA x9, vI 6, vI 0] q8.2).bind toV).bind fun q10 =>
      some ([vI 1], q10) := (Rr_blk (Cd d) 81 [17] 61 17 _ _ hp).trans rfl
set_option maxRecDepth 100000 in
theorem c82 (d : Nat) (v0 : Int) (hp : HP) {n : Nat} (hg : gS hp v0 = some (6, n)) : Cd (d + 1) 82 [vA v0] hp =
  (pF hp 6 8 v0 0).bind fun h1 =>
  (pF h1 6 9 v0 0).bind fun h2 =>
  Rr (Cd d) 82 10 [some (vA v0), some (vI 0), some (vI 0)] [] h2 := (Cd_inst rfl rfl rfl hg).trans ((Rr_blk (Cd d) 82 [10, 29, 53, 55] 70 0 _ [] hp).trans rfl)
set_option maxRecDepth 100000 in
theorem c82_10 (d : Nat) (v0 v1 v2 : Int) (hp : HP) : Rr (Cd d) 82 10 [some (vA v0), some (vI v1), some (vI v2)] [] hp =
  if v2 < 300 then
    (gF hp 6 5 v0).bind fun x1 =>
    if v1 < x1 then
      (gF hp 6 0 v0).bind fun x2 =>
      (gA hp 0 x2 v1).bind fun x3 =>
      if x3 = 32 then
        Rr (Cd d) 82 29 [some (vA v0), some (vI v1), some (vI v2)] [] hp
      else
        (gF hp 6 0 v0).bind fun x4 =>
        (gA hp 0 x4 v1).bind fun x5 =>
        if x5 = 10 then
          Rr (Cd d) 82 29 [some (vA v0), some (vI v1), some (vI v2)] [] hp
        else
          (gF hp 6 2 v0).bind fun x6 =>
          (gF hp 6 8 v0).bind fun x7 =>
          (pA hp 0 x6 x7 v1).bind fun h8 =>
          (gF h8 6 3 v0).bind fun x9 =>
          (gF h8 6 8 v0).bind fun x10 =>
          (pA h8 0 x9 x10 0).bind fun h11 =>
          ((Cd d 83 [vA v0, vI v1] h11).bind toI).bind fun q12 =>
          (gF q12.2 6 8 v0).bind fun x13 =>
          (pF q12.2 6 8 v0 (w32 (x13 + 1))).bind fun h14 =>
          Rr (Cd d) 82 53 [some (vA v0), some (vI q12.1), some (vI v2)] [] h14
    else
      Rr (Cd d) 82 55 [some (vA v0), some (vI v1), some (vI v2)] [] hp
  else
    Rr (Cd d) 82 55 [some (vA v0), some (vI v1), some (vI v2)] [] hp := (Rr_blk (Cd d) 82 [10, 29, 53, 55] 70 10 _ _ hp).trans rfl
set_option maxRecDepth 100000 in
theorem c82_29 (d : Nat) (v0 v1 v2 : Int) (hp : HP) : Rr (Cd d) 82 29 [some (vA v0), some (vI v1), some (vI v2)] [] hp =
  Rr (Cd d) 82 53 [some (vA v0), some (vI (w32 (v1 + 1))), some (vI v2)] [] hp := (Rr_blk (Cd d) 82 [10, 29, 53, 55] 70 29 _ _ hp).trans rfl
set_option maxRecDepth 100000 in
theorem c82_53 (d : Nat) (v0 v1 v2 : Int) (hp : HP) : Rr (Cd d) 82 53 [some (vA v0), some (vI v1), some (vI v2)] [] hp =
  Rr (Cd d) 82 10 [some (vA v0), some (vI v1), some (vI (w32 (v2 + 1)))] [] hp := (Rr_blk (Cd d) 82 [10, 29, 53, 55] 70 53 _ _ hp).trans rfl
set_option maxRecDepth 100000 in
theorem c82_55 (d : Nat) (v0 : Int) (o1 o2 : Option AV) (hp : HP) : Rr (Cd d) 82 55 [some (vA v0), o1, o2] [] hp =
  (gF hp 6 1 v0).bind fun x1 =>
  (gF hp 6 8 v0).bind fun x2 =>
  (pA hp 0 x1 x2 0).bind fun h3 =>
  (gF h3 6 2 v0).bind fun x4 =>
  (gF h3 6 8 v0).bind fun x5 =>
  (gF h3 6 5 v0).bind fun x6 =>
  (pA h3 0 x4 x5 x6).bind fun h7 =>
  some ([], h7) := (Rr_blk (Cd d) 82 [10, 29, 53, 55] 70 55 _ _ hp).trans rfl
set_option maxRecDepth 100000 in
theorem c83 (d : Nat) (v0 v1 : Int) (hp : HP) {n : Nat} (hg : gS hp v0 = some (6, n)) : Cd (d + 1) 83 [vA v0, vI v1] hp =
  (gF hp 6 0 v0).bind fun x1 =>
  (gA hp 0 x1 v1).bind fun x2 =>
  ((Cd d 88 [vI x2] hp).bind toI).bind fun q3 =>
  if q3.1 = 0 then
    (gF q3.2 6 0 v0).bind fun x4 =>
    (gA q3.2 0 x4 v1).bind fun x5 =>
    ((Cd d 89 [vI x5] q3.2).bind toI).bind fun q6 =>
    if q6.1 = 0 then
      (gF q6.2 6 0 v0).bind fun x7 =>
      (gA q6.2 0 x7 v1).bind fun x8 =>
      if x8 = 60 then
        Rr (Cd d) 83 31 [some (vA v0), some (vI v1), some (vI x8)] [] q6.2
      else
        if x8 = 62 then
          Rr (Cd d) 83 31 [some (vA v0), some (vI v1), some (vI x8)] [] q6.2
        else
          Rr (Cd d) 83 60 [some (vA v0), some (vI v1), some (vI x8)] [] q6.2
    else
      ((Cd d 85 [vA v0, vI v1] q6.2).bind toI).bind fun q9 =>
      some ([vI q9.1], q9.2)
  else
    ((Cd d 84 [vA v0, vI v1] q3.2).bind toI).bind fun q10 =>
    some ([vI q10.1], q10.2) := (Cd_inst rfl rfl rfl hg).trans ((Rr_blk (Cd d) 83 [31, 55, 60, 72] 78 0 _ [] hp).trans rfl)
set_option maxRecDepth 100000 in
theorem c83_31 (d : Nat) (v0 v1 v2 : Int) (hp : HP) : Rr (Cd d) 83 31 [some (vA v0), some (vI v1), some (vI v2)] [] hp =
  (gF hp 6 5 v0).bind fun x1 =>
  if w32 (v1 + 1) < x1 then
    (gF hp 6 0 v0).bind fun x2 =>
    (gA hp 0 x2 (w32 (v1 + 1))).bind fun x3 =>
    if x3 = 61 then
      (gF hp 6 1 v0).bind fun x4 =>
      (gF hp 6 8 v0).bind fun x5 =>
      if v2 = 60 then
        Rr (Cd d) 83 55 [some (vA v0), some (vI v1), some (vI v2)] [vI 4, vI x5, vA x4] hp
      else
        Rr (Cd d) 83 55 [some (vA v0), some (vI v1), some (vI v2)] [vI 5, vI x5, vA x4] hp
    else
      Rr (Cd d) 83 60 [some (vA v0), some (vI v1), some (vI v2)] [] hp
  else
    Rr (Cd d) 83 60 [some (vA v0), some (vI v1), some (vI v2)] [] hp := (Rr_blk (Cd d) 83 [31, 55, 60, 72] 78 31 _ _ hp).trans rfl
set_option maxRecDepth 100000 in
theorem c83_55 (d : Nat) (v1 s0 s1 s2 : Int) (o0 o2 : Option AV) (hp : HP) : Rr (Cd d) 83 55 [o0, some (vI v1), o2] [vI s2, vI s1, vA s0] hp =
  (pA hp 0 s0 s1 s2).bind fun h1 =>
  some ([vI (w32 (v1 + 2))], h1) := (Rr_blk (Cd d) 83 [31, 55, 60, 72] 78 55 _ _ hp).trans rfl
set_option maxRecDepth 100000 in
theorem c83_60 (d : Nat) (v0 v1 v2 : Int) (hp : HP) : Rr (Cd d) 83 60 [some (vA v0), some (vI v1), some (vI v2)] [] hp =
  (gF hp 6 1 v0).bind fun x1 =>
  (gF hp 6 8 v0).bind fun x2 =>
  ((Cd d 292 [vA 27, vI (i2c v2)] hp).bind toI).bind fun q3 =>
  if q3.1 < 0 then
    Rr (Cd d) 83 72 [some (vA v0), some (vI v1), some (vI v2)] [vI 1, vI x2, vA x1] q3.2
  else
    Rr (Cd d) 83 72 [some (vA v0), some (vI v1), some (vI v2)] [vI v2, vI x2, vA x1] q3.2 := (Rr_blk (Cd d) 83 [31, 55, 60, 72] 78 60 _ _ hp).trans rfl
set_option maxRecDepth 100000 in
theorem c83_72 (d : Nat) (v1 s0 s1 s2 : Int) (o0 o2 : Option AV) (hp : HP) : Rr (Cd d) 83 72 [o0, some (vI v1), o2] [vI s2, vI s1, vA s0] hp =
  (pA hp 0 s0 s1 s2).bind fun h1 =>
  some ([vI (w32 (v1 + 1))], h1) := (Rr_blk (Cd d) 83 [31, 55, 60, 72] 78 72 _ _ hp).trans rfl
set_option maxRecDepth 100000 in
theorem c84 (d : Nat) (v0 v1 : Int) (hp : HP) {n : Nat} (hg : gS hp v0 = some (6, n)) : Cd (d + 1) 84 [vA v0, vI v1] hp =
  Rr (Cd d) 84 2 [some (vA v0), some (vI v1), some (vI v1)] [] hp := (Cd_inst rfl rfl rfl hg).trans ((Rr_blk (Cd d) 84 [2, 14] 26 0 _ [] hp).trans rfl)
set_option maxRecDepth 100000 in
theorem c84_2 (d : Nat) (v0 v1 v2 : Int) (hp : HP) : Rr (Cd d) 84 2 [some (vA v0), some (vI v1), some (vI v2)] [] hp =
  (gF hp 6 5 v0).bind fun x1 =>
  if v2 < x1 then
    (gF hp 6 0 v0).bind fun x2 =>
    (gA hp 0 x2 v2).bind fun x3 =>
    ((Cd d 88 [vI x3] hp).bind toI).bind fun q4 =>
    if q4.1 = 0 then
      Rr (Cd d) 84 14 [some (vA v0), some (vI v1), some (vI v2)] [] q4.2
    else
      Rr (Cd d) 84 2 [some (vA v0), some (vI v1), some (vI (w32 (v2 + 1)))] [] q4.2
  else
    Rr (Cd d) 84 14 [some (vA v0), some (vI v1), some (vI v2)] [] hp := (Rr_blk (Cd d) 84 [2, 14] 26 2 _ _ hp).trans rfl
set_option maxRecDepth 100000 in
theorem c84_14 (d : Nat) (v0 v1 v2 : Int) (hp : HP) : Rr (Cd d) 84 14 [some (vA v0), some (vI v1), some (vI v2)] [] hp =
  (gF hp 6 1 v0).bind fun x1 =>
  (gF hp 6 8 v0).bind fun x2 =>
  ((Cd d 86 [vA v0, vI v1, vI v2] hp).bind toI).bind fun q3 =>
  (pA q3.2 0 x1 x2 q3.1).bind fun h4 =>
  some ([vI v2], h4) := (Rr_blk (Cd d) 84 [2, 14] 26 14 _ _ hp).trans rfl
set_option maxRecDepth 100000 in
theorem c85 (d : Nat) (v0 v1 : Int) (hp : HP) {n : Nat} (hg : gS hp v0 = some (6, n)) : Cd (d + 1) 85 [vA v0, vI v1] hp =
  Rr (Cd d) 85 4 [some (vA v0), some (vI v1), some (vI v1), some (vI 0)] [] hp := (Cd_inst rfl rfl rfl hg).trans ((Rr_blk (Cd d) 85 [4, 29] 44 0 _ [] hp).trans rfl)
set_option maxRecDepth 100000 in
theorem c85_4 (d : Nat) (v0 v2 v3 : Int) (o1 : Option AV) (hp : HP) : Rr (Cd d) 85 4 [some (vA v0), o1, some (vI v2), some (vI v3)] [] hp =
  (gF hp 6 5 v0).bind fun x1 =>
  if v2 < x1 then
    (gF hp 6 0 v0).bind fun x2 =>
    (gA hp 0 x2 v2).bind fun x3 =>
    ((Cd d 89 [vI x3] hp).bind toI).bind fun q4 =>
    if q4.1 = 0 then
      Rr (Cd d) 85 29 [some (vA v0), o1, some (vI v2), some (vI v3)] [] q4.2
    else
      (gF q4.2 6 0 v0).bind fun x5 =>
      (gA q4.2 0 x5 v2).bind fun x6 =>
      ((Cd d 288 [vI (w32 (w32 (w32 (v3 * 10) + x6) - 48)), vI 10000] q4.2).bind toI).bind fun q7 =>
      Rr (Cd d) 85 4 [some (vA v0), o1, some (vI (w32 (v2 + 1))), some (vI q7.1)] [] q7.2
  else
    Rr (Cd d) 85 29 [some (vA v0), o1, some (vI v2), some (vI v3)] [] hp := (Rr_blk (Cd d) 85 [4, 29] 44 4 _ _ hp).trans rfl
set_option maxRecDepth 100000 in
theorem c85_29 (d : Nat) (v0 v2 v3 : Int) (o1 : Option AV) (hp : HP) : Rr (Cd d) 85 29 [some (vA v0), o1, some (vI v2), some (vI v3)] [] hp =
  (gF hp 6 1 v0).bind fun x1 =>
  (gF hp 6 8 v0).bind fun x2 =>
  (pA hp 0 x1 x2 3).bind fun h3 =>
  (gF h3 6 3 v0).bind fun x4 =>
  (gF h3 6 8 v0).bind fun x5 =>
  (pA h3 0 x4 x5 v3).bind fun h6 =>
  some ([vI v2], h6) := (Rr_blk (Cd d) 85 [4, 29] 44 29 _ _ hp).trans rfl
set_option maxRecDepth 100000 in
theorem c86 (d : Nat) (v0 v1 v2 : Int) (hp : HP) {n : Nat} (hg : gS hp v0 = some (6, n)) : Cd (d + 1) 86 [vA v0, vI v1, vI v2] hp =
  if w32 (v2 - v1) = 1 then
    (gF hp 6 0 v0).bind fun x11 =>
    (gA hp 0 x11 v1).bind fun x12 =>
    ((Cd d 292 [vA 5, vI (i2c x12)] hp).bind toI).bind fun q13 =>
    if q13.1 < 0 then
      Rr (Cd d) 86 19 [some (vA v0), some (vI v1), some (vI v2)] [vI 1] q13.2
    else
      (gF q13.2 6 0 v0).bind fun x14 =>
      (gA q13.2 0 x14 v1).bind fun x15 =>
      Rr (Cd d) 86 19 [some (vA v0), some (vI v1), some (vI v2)] [vI x15] q13.2
  else
    ((Cd d 87 [vA v0, vI v1, vI v2, vA 7] hp).bind toI).bind fun q1 =>
    if q1.1 = 0 then
      ((Cd d 87 [vA v0, vI v1, vI v2, vA 9] q1.2).bind toI).bind fun q2 =>
      if q2.1 = 0 then
        ((Cd d 87 [vA v0, vI v1, vI v2, vA 11] q2.2).bind toI).bind fun q3 =>
        if q3.1 = 0 then
          ((Cd d 87 [vA v0, vI v1, vI v2, vA 13] q3.2).bind toI).bind fun q4 =>
          if q4.1 = 0 then
            ((Cd d 87 [vA v0, vI v1, vI v2, vA 15] q4.2).bind toI).bind fun q5 =>
            if q5.1 = 0 then
              ((Cd d 87 [vA v0, vI v1, vI v2, vA 17] q5.2).bind toI).bind fun q6 =>
              if q6.1 = 0 then
                ((Cd d 87 [vA v0, vI v1, vI v2, vA 19] q6.2).bind toI).bind fun q7 =>
                if q7.1 = 0 then
                  ((Cd d 87 [vA v0, vI v1, vI v2, vA 21] q7.2).bind toI).bind fun q8 =>
                  if q8.1 = 0 then
                    ((Cd d 87 [vA v0, vI v1, vI v2, vA 23] q8.2).bind toI).bind fun q9 =>
                    if q9.1 = 0 then
                      ((Cd d 87 [vA v0, vI v1, vI v2, vA 25] q9.2).bind toI).bind fun q10 =>
                      if q10.1 = 0 then
                        Rr (Cd d) 86 101 [some (vA v0), some (vI v1), some (vI v2)] [vI 1] q10.2
                      else
                        Rr (Cd d) 86 101 [some (vA v0), some (vI v1), some (vI v2)] [vI 16] q10.2
                    else
                      some ([vI 15], q9.2)
                  else
                    some ([vI 14], q8.2)
                else
                  some ([vI 13], q7.2)
              else
                some ([vI 12], q6.2)
            else
              some ([vI 11], q5.2)
          else
            some ([vI 10], q4.2)
        else
          some ([vI 7], q3.2)
      else
        some ([vI 8], q2.2)
    else
      some ([vI 9], q1.2) := (Cd_inst rfl rfl rfl hg).trans ((Rr_blk (Cd d) 86 [19, 101] 103 0 _ [] hp).trans rfl)
set_option maxRecDepth 100000 in
theorem c86_19 (d : Nat) (s0 : Int) (o0 o1 o2 : Option AV) (hp : HP) : Rr (Cd d) 86 19 [o0, o1, o2] [vI s0] hp =
  some ([vI s0], hp) := (Rr_blk (Cd d) 86 [19, 101] 103 19 _ _ hp).trans rfl
set_option maxRecDepth 100000 in
theorem c86_101 (d : Nat) (s0 : Int) (o0 o1 o2 : Option AV) (hp : HP) : Rr (Cd d) 86 101 [o0, o1, o2] [vI s0] hp =
  some ([vI s0], hp) := (Rr_blk (Cd d) 86 [19, 101] 103 101 _ _ hp).trans rfl
set_option maxRecDepth 100000 in
theorem c87 (d : Nat) (v0 v1 v2 v3 : Int) (hp : HP) {n : Nat} (hg : gS hp v0 = some (6, n)) : Cd (d + 1) 87 [vA v0, vI v1, vI v2, vA v3] hp =
  ((Cd d 290 [vA v3] hp).bind toI).bind fun q1 =>
  if w32 (v2 - v1) = q1.1 then
    Rr (Cd d) 87 10 [some (vA v0), some (vI v1), some (vI v2), some (vA v3), some (vI 0)] [] q1.2
  else
    some ([vI 0], q1.2) := (Cd_inst rfl rfl rfl hg).trans ((Rr_blk (Cd d) 87 [10] 31 0 _ [] hp).trans rfl)
set_option maxRecDepth 100000 in
theorem c87_10 (d : Nat) (v0 v1 v3 v4 : Int) (o2 : Option AV) (hp : HP) : Rr (Cd d) 87 10 [some (vA v0), some (vI v1), o2, some (vA v3), some (vI v4)] [] hp =
  ((Cd d 290 [vA v3] hp).bind toI).bind fun q1 =>
  if v4 < q1.1 then
    (gF q1.2 6 0 v0).bind fun x2 =>
    (gA q1.2 0 x2 (w32 (v1 + v4))).bind fun x3 =>
    ((Cd d 291 [vA v3, vI v4] q1.2).bind toI).bind fun q4 =>
    if x3 = q4.1 then
      Rr (Cd d) 87 10 [some (vA v0), some (vI v1), o2, some (vA v3), some (vI (w32 (v4 + 1)))] [] q4.2
    else
      some ([vI 0], q4.2)
  else
    some ([vI 1], q1.2) := (Rr_blk (Cd d) 87 [10] 31 10 _ _ hp).trans rfl
set_option maxRecDepth 100000 in
theorem c88 (d : Nat) (v0 : Int) (hp : HP) : Cd (d + 1) 88 [vI v0] hp =
  if v0 < 97 then
    Rr (Cd d) 88 6 [some (vI v0)] [] hp
  else
    if 122 < v0 then
      Rr (Cd d) 88 6 [some (vI v0)] [] hp
    else
      Rr (Cd d) 88 12 [some (vI v0)] [] hp := (Rr_blk (Cd d) 88 [6, 12, 14, 15] 17 0 _ [] hp).trans rfl
set_option maxRecDepth 100000 in
theorem c88_6 (d : Nat) (v0 : Int) (hp : HP) : Rr (Cd d) 88 6 [some (vI v0)] [] hp =
  if v0 < 65 then
    Rr (Cd d) 88 14 [some (vI v0)] [] hp
  else
    if 90 < v0 then
      Rr (Cd d) 88 14 [some (vI v0)] [] hp
    else
      Rr (Cd d) 88 12 [some (vI v0)] [] hp := (Rr_blk (Cd d) 88 [6, 12, 14, 15] 17 6 _ _ hp).trans rfl
set_option maxRecDepth 100000 in
theorem c88_12 (d : Nat) (o0 : Option AV) (hp : HP) : Rr (Cd d) 88 12 [o0] [] hp =
  Rr (Cd d) 88 15 [o0] [vI 1] hp := (Rr_blk (Cd d) 88 [6, 12, 14, 15] 17 12 _ _ hp).trans rfl
set_option maxRecDepth 100000 in
theorem c88_14 (d : Nat) (o0 : Option AV) (hp : HP) : Rr (Cd d) 88 14 [o0] [] hp =
  Rr (Cd d) 88 15 [o0] [vI 0] hp := (Rr_blk (Cd d) 88 [6, 12, 14, 15] 17 14 _ _ hp).trans rfl
set_option maxRecDepth 100000 in
theorem c88_15 (d : Nat) (s0 : Int) (o0 : Option AV) (hp : HP) : Rr (Cd d) 88 15 [o0] [vI s0] hp =
  if s0 = 0 ∨ s0 = 1 then some ([vI s0], hp) else none := (Rr_blk (Cd d) 88 [6, 12, 14, 15] 17 15 _ _ hp).trans rfl
set_option maxRecDepth 100000 in
theorem c89 (d : Nat) (v0 : Int) (hp : HP) : Cd (d + 1) 89 [vI v0] hp =
  if v0 < 48 then
    Rr (Cd d) 89 8 [some (vI v0)] [] hp
  else
    if 57 < v0 then
      Rr (Cd d) 89 8 [some (vI v0)] [] hp
    else
      Rr (Cd d) 89 9 [some (vI v0)] [vI 1] hp := (Rr_blk (Cd d) 89 [8, 9] 11 0 _ [] hp).trans rfl
set_option maxRecDepth 100000 in
theorem c89_8 (d : Nat) (o0 : Option AV) (hp : HP) : Rr (Cd d) 89 8 [o0] [] hp =
  Rr (Cd d) 89 9 [o0] [vI 0] hp := (Rr_blk (Cd d) 89 [8, 9] 11 8 _ _ hp).trans rfl
set_option maxRecDepth 100000 in
theorem c89_9 (d : Nat) (s0 : Int) (o0 : Option AV) (hp : HP) : Rr (Cd d) 89 9 [o0] [vI s0] hp =
  if s0 = 0 ∨ s0 = 1 then some ([vI s0], hp) else none := (Rr_blk (Cd d) 89 [8, 9] 11 9 _ _ hp).trans rfl
