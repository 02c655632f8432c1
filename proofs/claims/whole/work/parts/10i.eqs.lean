/-! the methods as equations, written by a program -/
set_option maxRecDepth 100000 in
theorem c200 (d : Nat) (v0 v1 v2 v3 v4 : Int) (hp : HP) : Cd (d + 1) 200 [vI v0, vI v1, vI v2, vI v3, vI v4] hp =
  ((Cd d 199 [vI v0, vI v1, vI v2] hp).bind toL).bind fun q1 =>
  some ([vL (llor (llshl (llor (llshl q1.1 8) v3) 8) v4)], q1.2) := (Rr_blk (Cd d) 200 [] 16 0 _ [] hp).trans rfl
set_option maxRecDepth 100000 in
theorem c201 (d : Nat) (v0 v1 v2 v3 : Int) (hp : HP) : Cd (d + 1) 201 [vI v0, vI v1, vI v2, vI v3] hp =
  ((Cd d 199 [vI v0, vI v1, vI v2] hp).bind toL).bind fun q1 =>
  some ([vL (llor (llshl q1.1 8) v3)], q1.2) := (Rr_blk (Cd d) 201 [] 11 0 _ [] hp).trans rfl
set_option maxRecDepth 100000 in
theorem c202 (d : Nat) (v0 v1 : Int) (hp : HP) {n : Nat} (hg : gS hp v0 = some (12, n)) : Cd (d + 1) 202 [vA v0, vL v1] hp =
  (gF hp 12 14 v0).bind fun x1 =>
  if x1 = 2 then
    (gF hp 12 16 v0).bind fun x2 =>
    if lcmp x2 v1 = 0 then
      Rr (Cd d) 202 12 [some (vA v0), some (vL v1), none] [vI 1] hp
    else
      Rr (Cd d) 202 11 [some (vA v0), some (vL v1), none] [] hp
  else
    Rr (Cd d) 202 11 [some (vA v0), some (vL v1), none] [] hp := (Cd_inst rfl rfl rfl hg).trans ((Rr_blk (Cd d) 202 [11, 12] 14 0 _ [] hp).trans rfl)
set_option maxRecDepth 100000 in
theorem c202_11 (d : Nat) (o0 o1 o2 : Option AV) (hp : HP) : Rr (Cd d) 202 11 [o0, o1, o2] [] hp =
  Rr (Cd d) 202 12 [o0, o1, o2] [vI 0] hp := (Rr_blk (Cd d) 202 [11, 12] 14 11 _ _ hp).trans rfl
set_option maxRecDepth 100000 in
theorem c202_12 (d : Nat) (s0 : Int) (o0 o1 o2 : Option AV) (hp : HP) : Rr (Cd d) 202 12 [o0, o1, o2] [vI s0] hp =
  if s0 = 0 ∨ s0 = 1 then some ([vI s0], hp) else none := (Rr_blk (Cd d) 202 [11, 12] 14 12 _ _ hp).trans rfl
set_option maxRecDepth 100000 in
theorem c203 (d : Nat) (v0 v1 v2 : Int) (hp : HP) {n : Nat} (hg : gS hp v0 = some (12, n)) : Cd (d + 1) 203 [vA v0, vI v1, vI v2] hp =
  (gF hp 12 2 v0).bind fun x1 =>
  (gF hp 12 17 v0).bind fun x2 =>
  (gF hp 12 19 v0).bind fun x3 =>
  (pA hp 0 x1 (w32 (w32 (x2 + 10) + (w32 (2 * x3)))) v1).bind fun h4 =>
  (gF h4 12 2 v0).bind fun x5 =>
  (gF h4 12 17 v0).bind fun x6 =>
  (gF h4 12 19 v0).bind fun x7 =>
  (pA h4 0 x5 (w32 (w32 (w32 (x6 + 10) + (w32 (2 * x7))) + 1)) v2).bind fun h8 =>
  (gF h8 12 19 v0).bind fun x9 =>
  (pF h8 12 19 v0 (w32 (x9 + 1))).bind fun h10 =>
  some ([], h10) := (Cd_inst rfl rfl rfl hg).trans ((Rr_blk (Cd d) 203 [] 36 0 _ [] hp).trans rfl)
set_option maxRecDepth 100000 in
theorem c204 (d : Nat) (v0 v1 : Int) (hp : HP) {n : Nat} (hg : gS hp v0 = some (12, n)) : Cd (d + 1) 204 [vA v0, vI v1] hp =
  (gF hp 12 21 v0).bind fun x1 =>
  (gF hp 12 22 v0).bind fun x2 =>
  (pA hp 0 x1 x2 v1).bind fun h3 =>
  (gF h3 12 22 v0).bind fun x4 =>
  (pF h3 12 22 v0 (w32 (x4 + 1))).bind fun h5 =>
  some ([], h5) := (Cd_inst rfl rfl rfl hg).trans ((Rr_blk (Cd d) 204 [] 14 0 _ [] hp).trans rfl)
set_option maxRecDepth 100000 in
theorem c205 (d : Nat) (v0 : Int) (hp : HP) {n : Nat} (hg : gS hp v0 = some (12, n)) : Cd (d + 1) 205 [vA v0] hp =
  (pF hp 12 24 v0 1).bind fun h1 =>
  Rr (Cd d) 205 3 [some (vA v0)] [] h1 := (Cd_inst rfl rfl rfl hg).trans ((Rr_blk (Cd d) 205 [3, 32] 34 0 _ [] hp).trans rfl)
set_option maxRecDepth 100000 in
theorem c205_3 (d : Nat) (v0 : Int) (hp : HP) : Rr (Cd d) 205 3 [some (vA v0)] [] hp =
  (gF hp 12 22 v0).bind fun x1 =>
  if 0 < x1 then
    (gF hp 12 21 v0).bind fun x2 =>
    (gF hp 12 22 v0).bind fun x3 =>
    (gA hp 0 x2 (w32 (x3 - 1))).bind fun x4 =>
    if x4 = 2 then
      (gF hp 12 22 v0).bind fun x5 =>
      (pF hp 12 22 v0 (w32 (x5 - 1))).bind fun h6 =>
      (gF h6 12 23 v0).bind fun x7 =>
      (pF h6 12 23 v0 (w32 (x7 - 1))).bind fun h8 =>
      ((Cd d 203 [vA v0, vI 2, vI 0] h8).bind toV).bind fun q9 =>
      Rr (Cd d) 205 3 [some (vA v0)] [] q9
    else
      Rr (Cd d) 205 32 [some (vA v0)] [] hp
  else
    Rr (Cd d) 205 32 [some (vA v0)] [] hp := (Rr_blk (Cd d) 205 [3, 32] 34 3 _ _ hp).trans rfl
set_option maxRecDepth 100000 in
theorem c205_32 (d : Nat) (o0 : Option AV) (hp : HP) : Rr (Cd d) 205 32 [o0] [] hp =
  some ([], hp) := (Rr_blk (Cd d) 205 [3, 32] 34 32 _ _ hp).trans rfl
set_option maxRecDepth 100000 in
theorem c206 (d : Nat) (v0 v1 : Int) (hp : HP) {n : Nat} (hg : gS hp v0 = some (12, n)) : Cd (d + 1) 206 [vA v0, vI v1] hp =
  (gF hp 12 22 v0).bind fun x1 =>
  if 0 < x1 then
    (gF hp 12 21 v0).bind fun x2 =>
    (gF hp 12 22 v0).bind fun x3 =>
    (gA hp 0 x2 (w32 (x3 - 1))).bind fun x4 =>
    if x4 < 40 then
      (gF hp 12 21 v0).bind fun x5 =>
      (gF hp 12 22 v0).bind fun x6 =>
      (gA hp 0 x5 (w32 (x6 - 1))).bind fun x7 =>
      if x7 < v1 then
        Rr (Cd d) 206 36 [some (vA v0), some (vI v1)] [] hp
      else
        (gF hp 12 22 v0).bind fun x8 =>
        (pF hp 12 22 v0 (w32 (x8 - 1))).bind fun h9 =>
        (gF h9 12 21 v0).bind fun x10 =>
        (gF h9 12 22 v0).bind fun x11 =>
        (gA h9 0 x10 x11).bind fun x12 =>
        ((Cd d 203 [vA v0, vI x12, vI 0] h9).bind toV).bind fun q13 =>
        Rr (Cd d) 206 0 [some (vA v0), some (vI v1)] [] q13
    else
      Rr (Cd d) 206 36 [some (vA v0), some (vI v1)] [] hp
  else
    Rr (Cd d) 206 36 [some (vA v0), some (vI v1)] [] hp := (Cd_inst rfl rfl rfl hg).trans ((Rr_blk (Cd d) 206 [0, 36] 38 0 _ [] hp).trans rfl)
set_option maxRecDepth 100000 in
theorem c206_0 (d : Nat) (v0 v1 : Int) (hp : HP) : Rr (Cd d) 206 0 [some (vA v0), some (vI v1)] [] hp =
  (gF hp 12 22 v0).bind fun x1 =>
  if 0 < x1 then
    (gF hp 12 21 v0).bind fun x2 =>
    (gF hp 12 22 v0).bind fun x3 =>
    (gA hp 0 x2 (w32 (x3 - 1))).bind fun x4 =>
    if x4 < 40 then
      (gF hp 12 21 v0).bind fun x5 =>
      (gF hp 12 22 v0).bind fun x6 =>
      (gA hp 0 x5 (w32 (x6 - 1))).bind fun x7 =>
      if x7 < v1 then
        Rr (Cd d) 206 36 [some (vA v0), some (vI v1)] [] hp
      else
        (gF hp 12 22 v0).bind fun x8 =>
        (pF hp 12 22 v0 (w32 (x8 - 1))).bind fun h9 =>
        (gF h9 12 21 v0).bind fun x10 =>
        (gF h9 12 22 v0).bind fun x11 =>
        (gA h9 0 x10 x11).bind fun x12 =>
        ((Cd d 203 [vA v0, vI x12, vI 0] h9).bind toV).bind fun q13 =>
        Rr (Cd d) 206 0 [some (vA v0), some (vI v1)] [] q13
    else
      Rr (Cd d) 206 36 [some (vA v0), some (vI v1)] [] hp
  else
    Rr (Cd d) 206 36 [some (vA v0), some (vI v1)] [] hp := (Rr_blk (Cd d) 206 [0, 36] 38 0 _ _ hp).trans rfl
set_option maxRecDepth 100000 in
theorem c206_36 (d : Nat) (o0 o1 : Option AV) (hp : HP) : Rr (Cd d) 206 36 [o0, o1] [] hp =
  some ([], hp) := (Rr_blk (Cd d) 206 [0, 36] 38 36 _ _ hp).trans rfl
set_option maxRecDepth 100000 in
theorem c207 (d : Nat) (v0 : Int) (hp : HP) {n : Nat} (hg : gS hp v0 = some (12, n)) : Cd (d + 1) 207 [vA v0] hp =
  (gF hp 12 14 v0).bind fun x1 =>
  if x1 = 2 then
    (gF hp 12 16 v0).bind fun x2 =>
    if lcmp x2 97 = 0 then
      Rr (Cd d) 207 35 [some (vA v0)] [vI 0] hp
    else
      (gF hp 12 16 v0).bind fun x3 =>
      if lcmp x3 98 = 0 then
        Rr (Cd d) 207 35 [some (vA v0)] [vI 1] hp
      else
        (gF hp 12 16 v0).bind fun x4 =>
        if lcmp x4 120 = 0 then
          Rr (Cd d) 207 35 [some (vA v0)] [vI 2] hp
        else
          (gF hp 12 16 v0).bind fun x5 =>
          if lcmp x5 121 = 0 then
            Rr (Cd d) 207 35 [some (vA v0)] [vI 3] hp
          else
            Rr (Cd d) 207 35 [some (vA v0)] [vI ((-1))] hp
  else
    some ([vI ((-1))], hp) := (Cd_inst rfl rfl rfl hg).trans ((Rr_blk (Cd d) 207 [35] 37 0 _ [] hp).trans rfl)
set_option maxRecDepth 100000 in
theorem c207_35 (d : Nat) (s0 : Int) (o0 : Option AV) (hp : HP) : Rr (Cd d) 207 35 [o0] [vI s0] hp =
  some ([vI s0], hp) := (Rr_blk (Cd d) 207 [35] 37 35 _ _ hp).trans rfl
set_option maxRecDepth 100000 in
theorem c208 (d : Nat) (v0 : Int) (hp : HP) {n : Nat} (hg : gS hp v0 = some (12, n)) : Cd (d + 1) 208 [vA v0] hp =
  (gF hp 12 14 v0).bind fun x1 =>
  if x1 = 1 then
    (gF hp 12 15 v0).bind fun x9 =>
    if 9999 < x9 then
      some ([vI 2], hp)
    else
      (gF hp 12 15 v0).bind fun x10 =>
      ((Cd d 203 [vA v0, vI 0, vI x10] hp).bind toV).bind fun q11 =>
      ((Cd d 198 [vA v0] q11).bind toV).bind fun q12 =>
      ((Cd d 205 [vA v0] q12).bind toV).bind fun q13 =>
      some ([vI 0], q13)
  else
    ((Cd d 207 [vA v0] hp).bind toI).bind fun q2 =>
    if q2.1 < 0 then
      (gF q2.2 12 14 v0).bind fun x3 =>
      if x3 = 40 then
        Rr (Cd d) 208 48 [some (vA v0), none] [vI 40] q2.2
      else
        (gF q2.2 12 14 v0).bind fun x4 =>
        if x4 = 45 then
          Rr (Cd d) 208 48 [some (vA v0), none] [vI 2] q2.2
        else
          Rr (Cd d) 208 48 [some (vA v0), none] [vI 0] q2.2
    else
      ((Cd d 207 [vA v0] q2.2).bind toI).bind fun q5 =>
      ((Cd d 203 [vA v0, vI 1, vI q5.1] q5.2).bind toV).bind fun q6 =>
      ((Cd d 198 [vA v0] q6).bind toV).bind fun q7 =>
      ((Cd d 205 [vA v0] q7).bind toV).bind fun q8 =>
      some ([vI 0], q8) := (Cd_inst rfl rfl rfl hg).trans ((Rr_blk (Cd d) 208 [48] 73 0 _ [] hp).trans rfl)
set_option maxRecDepth 100000 in
theorem c208_48 (d : Nat) (v0 s0 : Int) (o1 : Option AV) (hp : HP) : Rr (Cd d) 208 48 [some (vA v0), o1] [vI s0] hp =
  if s0 = 0 then
    some ([vI 1], hp)
  else
    (gF hp 12 23 v0).bind fun x1 =>
    if x1 = 8 then
      some ([vI 3], hp)
    else
      (gF hp 12 23 v0).bind fun x2 =>
      (pF hp 12 23 v0 (w32 (x2 + 1))).bind fun h3 =>
      ((Cd d 204 [vA v0, vI s0] h3).bind toV).bind fun q4 =>
      ((Cd d 198 [vA v0] q4).bind toV).bind fun q5 =>
      some ([vI 0], q5) := (Rr_blk (Cd d) 208 [48] 73 48 _ _ hp).trans rfl
set_option maxRecDepth 100000 in
theorem c209 (d : Nat) (v0 : Int) (hp : HP) {n : Nat} (hg : gS hp v0 = some (12, n)) : Cd (d + 1) 209 [vA v0] hp =
  Rr (Cd d) 209 2 [some (vA v0), some (vI 0)] [] hp := (Cd_inst rfl rfl rfl hg).trans ((Rr_blk (Cd d) 209 [2] 19 0 _ [] hp).trans rfl)
set_option maxRecDepth 100000 in
theorem c209_2 (d : Nat) (v0 v1 : Int) (hp : HP) : Rr (Cd d) 209 2 [some (vA v0), some (vI v1)] [] hp =
  (gF hp 12 22 v0).bind fun x1 =>
  if v1 < x1 then
    (gF hp 12 21 v0).bind fun x2 =>
    (gA hp 0 x2 v1).bind fun x3 =>
    if x3 = 40 then
      some ([vI 1], hp)
    else
      Rr (Cd d) 209 2 [some (vA v0), some (vI (w32 (v1 + 1)))] [] hp
  else
    some ([vI 0], hp) := (Rr_blk (Cd d) 209 [2] 19 2 _ _ hp).trans rfl
set_option maxRecDepth 100000 in
theorem c210 (d : Nat) (v0 : Int) (hp : HP) {n : Nat} (hg : gS hp v0 = some (12, n)) : Cd (d + 1) 210 [vA v0] hp =
  (gF hp 12 14 v0).bind fun x1 =>
  if x1 = 43 then
    Rr (Cd d) 210 19 [some (vA v0)] [] hp
  else
    (gF hp 12 14 v0).bind fun x2 =>
    if x2 = 45 then
      Rr (Cd d) 210 19 [some (vA v0)] [] hp
    else
      (gF hp 12 14 v0).bind fun x3 =>
      if x3 = 42 then
        Rr (Cd d) 210 19 [some (vA v0)] [] hp
      else
        (gF hp 12 14 v0).bind fun x4 =>
        if x4 = 41 then
          ((Cd d 209 [vA v0] hp).bind toI).bind fun q5 =>
          if q5.1 = 0 then
            Rr (Cd d) 210 21 [some (vA v0)] [] q5.2
          else
            Rr (Cd d) 210 19 [some (vA v0)] [] q5.2
        else
          Rr (Cd d) 210 21 [some (vA v0)] [] hp := (Cd_inst rfl rfl rfl hg).trans ((Rr_blk (Cd d) 210 [19, 21, 22] 24 0 _ [] hp).trans rfl)
set_option maxRecDepth 100000 in
theorem c210_19 (d : Nat) (o0 : Option AV) (hp : HP) : Rr (Cd d) 210 19 [o0] [] hp =
  Rr (Cd d) 210 22 [o0] [vI 1] hp := (Rr_blk (Cd d) 210 [19, 21, 22] 24 19 _ _ hp).trans rfl
set_option maxRecDepth 100000 in
theorem c210_21 (d : Nat) (o0 : Option AV) (hp : HP) : Rr (Cd d) 210 21 [o0] [] hp =
  Rr (Cd d) 210 22 [o0] [vI 0] hp := (Rr_blk (Cd d) 210 [19, 21, 22] 24 21 _ _ hp).trans rfl
set_option maxRecDepth 100000 in
theorem c210_22 (d : Nat) (s0 : Int) (o0 : Option AV) (hp : HP) : Rr (Cd d) 210 22 [o0] [vI s0] hp =
  if s0 = 0 ∨ s0 = 1 then some ([vI s0], hp) else none := (Rr_blk (Cd d) 210 [19, 21, 22] 24 22 _ _ hp).trans rfl
set_option maxRecDepth 100000 in
theorem c211 (d : Nat) (v0 : Int) (hp : HP) {n : Nat} (hg : gS hp v0 = some (12, n)) : Cd (d + 1) 211 [vA v0] hp =
  (gF hp 12 14 v0).bind fun x1 =>
  if x1 = 43 then
    Rr (Cd d) 211 9 [some (vA v0), some (vI x1)] [] hp
  else
    if x1 = 45 then
      Rr (Cd d) 211 9 [some (vA v0), some (vI x1)] [] hp
    else
      if x1 = 42 then
        ((Cd d 206 [vA v0, vI 5] hp).bind toV).bind fun q8 =>
        ((Cd d 204 [vA v0, vI 5] q8).bind toV).bind fun q9 =>
        (pF q9 12 24 v0 0).bind fun h10 =>
        Rr (Cd d) 211 54 [some (vA v0), some (vI x1)] [] h10
      else
        ((Cd d 206 [vA v0, vI 3] hp).bind toV).bind fun q2 =>
        (gF q2 12 22 v0).bind fun x3 =>
        (pF q2 12 22 v0 (w32 (x3 - 1))).bind fun h4 =>
        (gF h4 12 23 v0).bind fun x5 =>
        (pF h4 12 23 v0 (w32 (x5 - 1))).bind fun h6 =>
        ((Cd d 205 [vA v0] h6).bind toV).bind fun q7 =>
        Rr (Cd d) 211 54 [some (vA v0), some (vI x1)] [] q7 := (Cd_inst rfl rfl rfl hg).trans ((Rr_blk (Cd d) 211 [9, 19, 54] 59 0 _ [] hp).trans rfl)
set_option maxRecDepth 100000 in
theorem c211_9 (d : Nat) (v0 v1 : Int) (hp : HP) : Rr (Cd d) 211 9 [some (vA v0), some (vI v1)] [] hp =
  ((Cd d 206 [vA v0, vI 3] hp).bind toV).bind fun q1 =>
  if v1 = 43 then
    Rr (Cd d) 211 19 [some (vA v0), some (vI v1)] [vI 3, vA v0] q1
  else
    Rr (Cd d) 211 19 [some (vA v0), some (vI v1)] [vI 4, vA v0] q1 := (Rr_blk (Cd d) 211 [9, 19, 54] 59 9 _ _ hp).trans rfl
set_option maxRecDepth 100000 in
theorem c211_19 (d : Nat) (v0 s0 s1 : Int) (o1 : Option AV) (hp : HP) : Rr (Cd d) 211 19 [some (vA v0), o1] [vI s1, vA s0] hp =
  ((Cd d 204 [vA s0, vI s1] hp).bind toV).bind fun q1 =>
  (pF q1 12 24 v0 0).bind fun h2 =>
  Rr (Cd d) 211 54 [some (vA v0), o1] [] h2 := (Rr_blk (Cd d) 211 [9, 19, 54] 59 19 _ _ hp).trans rfl
set_option maxRecDepth 100000 in
theorem c211_54 (d : Nat) (v0 : Int) (o1 : Option AV) (hp : HP) : Rr (Cd d) 211 54 [some (vA v0), o1] [] hp =
  ((Cd d 198 [vA v0] hp).bind toV).bind fun q1 =>
  some ([vI 0], q1) := (Rr_blk (Cd d) 211 [9, 19, 54] 59 54 _ _ hp).trans rfl
set_option maxRecDepth 100000 in
theorem c212 (d : Nat) (v0 : Int) (hp : HP) {n : Nat} (hg : gS hp v0 = some (12, n)) : Cd (d + 1) 212 [vA v0] hp =
  (pF hp 12 22 v0 0).bind fun h1 =>
  (pF h1 12 24 v0 0).bind fun h2 =>
  Rr (Cd d) 212 6 [some (vA v0), none] [] h2 := (Cd_inst rfl rfl rfl hg).trans ((Rr_blk (Cd d) 212 [6, 12, 20, 35] 37 0 _ [] hp).trans rfl)
set_option maxRecDepth 100000 in
theorem c212_6 (d : Nat) (v0 : Int) (o1 : Option AV) (hp : HP) : Rr (Cd d) 212 6 [some (vA v0), o1] [] hp =
  (gF hp 12 24 v0).bind fun x1 =>
  if x1 = 0 then
    Rr (Cd d) 212 12 [some (vA v0), o1] [] hp
  else
    ((Cd d 210 [vA v0] hp).bind toI).bind fun q2 =>
    if q2.1 = 0 then
      ((Cd d 206 [vA v0, vI 3] q2.2).bind toV).bind fun q3 =>
      (gF q3 12 22 v0).bind fun x4 =>
      if 0 < x4 then
        Rr (Cd d) 212 35 [some (vA v0), o1] [vI 1] q3
      else
        Rr (Cd d) 212 35 [some (vA v0), o1] [vI 0] q3
    else
      Rr (Cd d) 212 12 [some (vA v0), o1] [] q2.2 := (Rr_blk (Cd d) 212 [6, 12, 20, 35] 37 6 _ _ hp).trans rfl
set_option maxRecDepth 100000 in
theorem c212_12 (d : Nat) (v0 : Int) (o1 : Option AV) (hp : HP) : Rr (Cd d) 212 12 [some (vA v0), o1] [] hp =
  (gF hp 12 24 v0).bind fun x1 =>
  if x1 = 0 then
    ((Cd d 208 [vA v0] hp).bind toI).bind fun q2 =>
    Rr (Cd d) 212 20 [some (vA v0), o1] [vI q2.1] q2.2
  else
    ((Cd d 211 [vA v0] hp).bind toI).bind fun q3 =>
    Rr (Cd d) 212 20 [some (vA v0), o1] [vI q3.1] q3.2 := (Rr_blk (Cd d) 212 [6, 12, 20, 35] 37 12 _ _ hp).trans rfl
set_option maxRecDepth 100000 in
theorem c212_20 (d : Nat) (v0 s0 : Int) (o1 : Option AV) (hp : HP) : Rr (Cd d) 212 20 [some (vA v0), o1] [vI s0] hp =
  if s0 = 0 then
    Rr (Cd d) 212 6 [some (vA v0), some (vI s0)] [] hp
  else
    some ([vI s0], hp) := (Rr_blk (Cd d) 212 [6, 12, 20, 35] 37 20 _ _ hp).trans rfl
set_option maxRecDepth 100000 in
theorem c212_35 (d : Nat) (s0 : Int) (o0 o1 : Option AV) (hp : HP) : Rr (Cd d) 212 35 [o0, o1] [vI s0] hp =
  some ([vI s0], hp) := (Rr_blk (Cd d) 212 [6, 12, 20, 35] 37 35 _ _ hp).trans rfl
set_option maxRecDepth 100000 in
theorem c213 (d : Nat) (v0 : Int) (hp : HP) {n : Nat} (hg : gS hp v0 = some (12, n)) : Cd (d + 1) 213 [vA v0] hp =
  (gF hp 12 14 v0).bind fun x1 =>
  if x1 = 60 then
    Rr (Cd d) 213 37 [some (vA v0)] [vI 10] hp
  else
    (gF hp 12 14 v0).bind fun x2 =>
    if x2 = 4 then
      Rr (Cd d) 213 37 [some (vA v0)] [vI 11] hp
    else
      (gF hp 12 14 v0).bind fun x3 =>
      if x3 = 62 then
        Rr (Cd d) 213 37 [some (vA v0)] [vI 12] hp
      else
        (gF hp 12 14 v0).bind fun x4 =>
        if x4 = 5 then
          Rr (Cd d) 213 37 [some (vA v0)] [vI 13] hp
        else
          (gF hp 12 14 v0).bind fun x5 =>
          if x5 = 61 then
            Rr (Cd d) 213 37 [some (vA v0)] [vI 14] hp
          else
            (gF hp 12 14 v0).bind fun x6 =>
            if x6 = 35 then
              Rr (Cd d) 213 37 [some (vA v0)] [vI 15] hp
            else
              Rr (Cd d) 213 37 [some (vA v0)] [vI ((-1))] hp := (Cd_inst rfl rfl rfl hg).trans ((Rr_blk (Cd d) 213 [37] 39 0 _ [] hp).trans rfl)
set_option maxRecDepth 100000 in
theorem c213_37 (d : Nat) (s0 : Int) (o0 : Option AV) (hp : HP) : Rr (Cd d) 213 37 [o0] [vI s0] hp =
  some ([vI s0], hp) := (Rr_blk (Cd d) 213 [37] 39 37 _ _ hp).trans rfl
set_option maxRecDepth 100000 in
theorem c214 (d : Nat) (v0 : Int) (hp : HP) {n : Nat} (hg : gS hp v0 = some (12, n)) : Cd (d + 1) 214 [vA v0] hp =
  Rr (Cd d) 214 2 [some (vA v0), some (vI 0), none, none, none] [] hp := (Cd_inst rfl rfl rfl hg).trans ((Rr_blk (Cd d) 214 [2, 60] 72 0 _ [] hp).trans rfl)
set_option maxRecDepth 100000 in
theorem c214_2 (d : Nat) (v0 v1 : Int) (o2 o3 o4 : Option AV) (hp : HP) : Rr (Cd d) 214 2 [some (vA v0), some (vI v1), o2, o3, o4] [] hp =
  ((Cd d 199 [vI 110, vI 111, vI 116] hp).bind toL).bind fun q1 =>
  ((Cd d 202 [vA v0, vL q1.1] q1.2).bind toI).bind fun q2 =>
  if q2.1 = 0 then
    ((Cd d 212 [vA v0] q2.2).bind toI).bind fun q3 =>
    if q3.1 = 0 then
      ((Cd d 213 [vA v0] q3.2).bind toI).bind fun q4 =>
      if q4.1 < 0 then
        some ([vI 1], q4.2)
      else
        ((Cd d 198 [vA v0] q4.2).bind toV).bind fun q5 =>
        ((Cd d 212 [vA v0] q5).bind toI).bind fun q6 =>
        if q6.1 = 0 then
          ((Cd d 203 [vA v0, vI q4.1, vI 0] q6.2).bind toV).bind fun q7 =>
          (gF q7 12 23 v0).bind fun x8 =>
          (pF q7 12 23 v0 (w32 (x8 - v1))).bind fun h9 =>
          Rr (Cd d) 214 60 [some (vA v0), some (vI v1), some (vI q6.1), some (vI q4.1), some (vI 0)] [] h9
        else
          some ([vI q6.1], q6.2)
    else
      some ([vI q3.1], q3.2)
  else
    (gF q2.2 12 23 v0).bind fun x10 =>
    if x10 = 8 then
      some ([vI 3], q2.2)
    else
      (gF q2.2 12 23 v0).bind fun x11 =>
      (pF q2.2 12 23 v0 (w32 (x11 + 1))).bind fun h12 =>
      ((Cd d 198 [vA v0] h12).bind toV).bind fun q13 =>
      Rr (Cd d) 214 2 [some (vA v0), some (vI (w32 (v1 + 1))), o2, o3, o4] [] q13 := (Rr_blk (Cd d) 214 [2, 60] 72 2 _ _ hp).trans rfl
set_option maxRecDepth 100000 in
theorem c214_60 (d : Nat) (v0 v1 v4 : Int) (o2 o3 : Option AV) (hp : HP) : Rr (Cd d) 214 60 [some (vA v0), some (vI v1), o2, o3, some (vI v4)] [] hp =
  if v4 < v1 then
    ((Cd d 203 [vA v0, vI 20, vI 0] hp).bind toV).bind fun q1 =>
    Rr (Cd d) 214 60 [some (vA v0), some (vI v1), o2, o3, some (vI (w32 (v4 + 1)))] [] q1
  else
    some ([vI 0], hp) := (Rr_blk (Cd d) 214 [2, 60] 72 60 _ _ hp).trans rfl
set_option maxRecDepth 100000 in
theorem c215 (d : Nat) (v0 : Int) (hp : HP) {n : Nat} (hg : gS hp v0 = some (12, n)) : Cd (d + 1) 215 [vA v0] hp =
  Rr (Cd d) 215 6 [some (vA v0), some (vI 0), some (vI 0), some (vI 1), none, none] [] hp := (Cd_inst rfl rfl rfl hg).trans ((Rr_blk (Cd d) 215 [6, 21, 39, 40, 49, 51, 55, 58, 63] 67 0 _ [] hp).trans rfl)
set_option maxRecDepth 100000 in
theorem c215_6 (d : Nat) (v0 v1 v2 v3 : Int) (o4 o5 : Option AV) (hp : HP) : Rr (Cd d) 215 6 [some (vA v0), some (vI v1), some (vI v2), some (vI v3), o4, o5] [] hp =
  if v3 = 0 then
    some ([vI 0], hp)
  else
    ((Cd d 214 [vA v0] hp).bind toI).bind fun q1 =>
    if q1.1 = 0 then
      if v1 = 0 then
        Rr (Cd d) 215 21 [some (vA v0), some (vI v1), some (vI v2), some (vI v3), some (vI q1.1), o5] [] q1.2
      else
        ((Cd d 203 [vA v0, vI 21, vI 0] q1.2).bind toV).bind fun q2 =>
        Rr (Cd d) 215 21 [some (vA v0), some (vI v1), some (vI v2), some (vI v3), some (vI q1.1), o5] [] q2
    else
      some ([vI q1.1], q1.2) := (Rr_blk (Cd d) 215 [6, 21, 39, 40, 49, 51, 55, 58, 63] 67 6 _ _ hp).trans rfl
set_option maxRecDepth 100000 in
theorem c215_21 (d : Nat) (v0 v2 : Int) (o1 o3 o4 o5 : Option AV) (hp : HP) : Rr (Cd d) 215 21 [some (vA v0), o1, some (vI v2), o3, o4, o5] [] hp =
  ((Cd d 199 [vI 97, vI 110, vI 100] hp).bind toL).bind fun q1 =>
  ((Cd d 202 [vA v0, vL q1.1] q1.2).bind toI).bind fun q2 =>
  (gF q2.2 12 14 v0).bind fun x3 =>
  if x3 = 2 then
    (gF q2.2 12 16 v0).bind fun x4 =>
    if lcmp x4 28530 = 0 then
      Rr (Cd d) 215 40 [some (vA v0), some (vI q2.1), some (vI v2), o3, o4, o5] [vI 1] q2.2
    else
      Rr (Cd d) 215 39 [some (vA v0), some (vI q2.1), some (vI v2), o3, o4, o5] [] q2.2
  else
    Rr (Cd d) 215 39 [some (vA v0), some (vI q2.1), some (vI v2), o3, o4, o5] [] q2.2 := (Rr_blk (Cd d) 215 [6, 21, 39, 40, 49, 51, 55, 58, 63] 67 21 _ _ hp).trans rfl
set_option maxRecDepth 100000 in
theorem c215_39 (d : Nat) (v0 v1 v2 : Int) (o3 o4 o5 : Option AV) (hp : HP) : Rr (Cd d) 215 39 [some (vA v0), some (vI v1), some (vI v2), o3, o4, o5] [] hp =
  Rr (Cd d) 215 40 [some (vA v0), some (vI v1), some (vI v2), o3, o4, o5] [vI 0] hp := (Rr_blk (Cd d) 215 [6, 21, 39, 40, 49, 51, 55, 58, 63] 67 39 _ _ hp).trans rfl
set_option maxRecDepth 100000 in
theorem c215_40 (d : Nat) (v0 v1 v2 s0 : Int) (o3 o4 o5 : Option AV) (hp : HP) : Rr (Cd d) 215 40 [some (vA v0), some (vI v1), some (vI v2), o3, o4, o5] [vI s0] hp =
  if v1 = 0 then
    if v2 = 0 then
      Rr (Cd d) 215 49 [some (vA v0), some (vI v1), some (vI v2), o3, o4, some (vI s0)] [] hp
    else
      ((Cd d 203 [vA v0, vI 22, vI 0] hp).bind toV).bind fun q1 =>
      Rr (Cd d) 215 49 [some (vA v0), some (vI v1), some (vI v2), o3, o4, some (vI s0)] [] q1
  else
    Rr (Cd d) 215 51 [some (vA v0), some (vI v1), some (vI v2), o3, o4, some (vI s0)] [] hp := (Rr_blk (Cd d) 215 [6, 21, 39, 40, 49, 51, 55, 58, 63] 67 40 _ _ hp).trans rfl
set_option maxRecDepth 100000 in
theorem c215_49 (d : Nat) (v0 v1 v5 : Int) (o2 o3 o4 : Option AV) (hp : HP) : Rr (Cd d) 215 49 [some (vA v0), some (vI v1), o2, o3, o4, some (vI v5)] [] hp =
  Rr (Cd d) 215 51 [some (vA v0), some (vI v1), some (vI v5), o3, o4, some (vI v5)] [] hp := (Rr_blk (Cd d) 215 [6, 21, 39, 40, 49, 51, 55, 58, 63] 67 49 _ _ hp).trans rfl
set_option maxRecDepth 100000 in
theorem c215_51 (d : Nat) (v0 v1 v2 v5 : Int) (o3 o4 : Option AV) (hp : HP) : Rr (Cd d) 215 51 [some (vA v0), some (vI v1), some (vI v2), o3, o4, some (vI v5)] [] hp =
  if v1 = 0 then
    if v5 = 0 then
      Rr (Cd d) 215 58 [some (vA v0), some (vI v1), some (vI v2), o3, o4, some (vI v5)] [vI 0] hp
    else
      Rr (Cd d) 215 55 [some (vA v0), some (vI v1), some (vI v2), o3, o4, some (vI v5)] [] hp
  else
    Rr (Cd d) 215 55 [some (vA v0), some (vI v1), some (vI v2), o3, o4, some (vI v5)] [] hp := (Rr_blk (Cd d) 215 [6, 21, 39, 40, 49, 51, 55, 58, 63] 67 51 _ _ hp).trans rfl
set_option maxRecDepth 100000 in
theorem c215_55 (d : Nat) (v0 v1 v2 : Int) (o3 o4 o5 : Option AV) (hp : HP) : Rr (Cd d) 215 55 [some (vA v0), some (vI v1), some (vI v2), o3, o4, o5] [] hp =
  Rr (Cd d) 215 58 [some (vA v0), some (vI v1), some (vI v2), o3, o4, o5] [vI 1] hp := (Rr_blk (Cd d) 215 [6, 21, 39, 40, 49, 51, 55, 58, 63] 67 55 _ _ hp).trans rfl
set_option maxRecDepth 100000 in
theorem c215_58 (d : Nat) (v0 v1 v2 s0 : Int) (o3 o4 o5 : Option AV) (hp : HP) : Rr (Cd d) 215 58 [some (vA v0), some (vI v1), some (vI v2), o3, o4, o5] [vI s0] hp =
  if s0 = 0 then
    Rr (Cd d) 215 63 [some (vA v0), some (vI v1), some (vI v2), some (vI s0), o4, o5] [] hp
  else
    ((Cd d 198 [vA v0] hp).bind toV).bind fun q1 =>
    Rr (Cd d) 215 63 [some (vA v0), some (vI v1), some (vI v2), some (vI s0), o4, o5] [] q1 := (Rr_blk (Cd d) 215 [6, 21, 39, 40, 49, 51, 55, 58, 63] 67 58 _ _ hp).trans rfl
set_option maxRecDepth 100000 in
theorem c215_63 (d : Nat) (v0 v1 v2 v3 : Int) (o4 o5 : Option AV) (hp : HP) : Rr (Cd d) 215 63 [some (vA v0), some (vI v1), some (vI v2), some (vI v3), o4, o5] [] hp =
  Rr (Cd d) 215 6 [some (vA v0), some (vI v1), some (vI v2), some (vI v3), o4, o5] [] hp := (Rr_blk (Cd d) 215 [6, 21, 39, 40, 49, 51, 55, 58, 63] 67 63 _ _ hp).trans rfl
set_option maxRecDepth 100000 in
theorem c216 (d : Nat) (v0 : Int) (hp : HP) {n : Nat} (hg : gS hp v0 = some (12, n)) : Cd (d + 1) 216 [vA v0] hp =
  ((Cd d 201 [vI 115, vI 119, vI 97, vI 112] hp).bind toL).bind fun q1 =>
  ((Cd d 202 [vA v0, vL q1.1] q1.2).bind toI).bind fun q2 =>
  if q2.1 = 0 then
    ((Cd d 201 [vI 111, vI 110, vI 99, vI 101] q2.2).bind toL).bind fun q3 =>
    ((Cd d 202 [vA v0, vL q3.1] q3.2).bind toI).bind fun q4 =>
    if q4.1 = 0 then
      ((Cd d 199 [vI 97, vI 115, vI 107] q4.2).bind toL).bind fun q5 =>
      ((Cd d 202 [vA v0, vL q5.1] q5.2).bind toI).bind fun q6 =>
      if q6.1 = 0 then
        ((Cd d 200 [vI 106, vI 117, vI 100, vI 103, vI 101] q6.2).bind toL).bind fun q7 =>
        ((Cd d 202 [vA v0, vL q7.1] q7.2).bind toI).bind fun q8 =>
        if q8.1 = 0 then
          Rr (Cd d) 216 41 [some (vA v0)] [vI 0] q8.2
        else
          Rr (Cd d) 216 41 [some (vA v0)] [vI 4] q8.2
      else
        Rr (Cd d) 216 41 [some (vA v0)] [vI 3] q6.2
    else
      some ([vI 2], q4.2)
  else
    some ([vI 1], q2.2) := (Cd_inst rfl rfl rfl hg).trans ((Rr_blk (Cd d) 216 [41] 43 0 _ [] hp).trans rfl)
set_option maxRecDepth 100000 in
theorem c216_41 (d : Nat) (s0 : Int) (o0 : Option AV) (hp : HP) : Rr (Cd d) 216 41 [o0] [vI s0] hp =
  some ([vI s0], hp) := (Rr_blk (Cd d) 216 [41] 43 41 _ _ hp).trans rfl
set_option maxRecDepth 100000 in
theorem c217 (d : Nat) (v0 : Int) (hp : HP) {n : Nat} (hg : gS hp v0 = some (12, n)) : Cd (d + 1) 217 [vA v0] hp =
  ((Cd d 216 [vA v0] hp).bind toI).bind fun q1 =>
  if q1.1 = 0 then
    some ([vI 1], q1.2)
  else
    (gF q1.2 12 20 v0).bind fun x2 =>
    if iand (ishr x2 q1.1) 1 = 1 then
      some ([vI 4], q1.2)
    else
      (gF q1.2 12 20 v0).bind fun x3 =>
      (pF q1.2 12 20 v0 (ior x3 (ishl 1 q1.1))).bind fun h4 =>
      ((Cd d 198 [vA v0] h4).bind toV).bind fun q5 =>
      if q1.1 = 1 then
        (gF q5 12 14 v0).bind fun x6 =>
        if x6 = 1 then
          (gF q5 12 15 v0).bind fun x7 =>
          if x7 = 1 then
            Rr (Cd d) 217 54 [some (vA v0), some (vI q1.1), none, none] [] q5
          else
            (gF q5 12 15 v0).bind fun x8 =>
            if x8 = 2 then
              Rr (Cd d) 217 54 [some (vA v0), some (vI q1.1), none, none] [] q5
            else
              (gF q5 12 15 v0).bind fun x9 =>
              if x9 = 3 then
                Rr (Cd d) 217 54 [some (vA v0), some (vI q1.1), none, none] [] q5
              else
                (gF q5 12 15 v0).bind fun x10 =>
                if x10 = 6 then
                  Rr (Cd d) 217 54 [some (vA v0), some (vI q1.1), none, none] [] q5
                else
                  some ([vI 2], q5)
        else
          some ([vI 1], q5)
      else
        Rr (Cd d) 217 65 [some (vA v0), some (vI q1.1), none, none] [] q5 := (Cd_inst rfl rfl rfl hg).trans ((Rr_blk (Cd d) 217 [54, 65, 76, 118, 133, 136, 152] 163 0 _ [] hp).trans rfl)
set_option maxRecDepth 100000 in
theorem c217_54 (d : Nat) (v0 v1 : Int) (o2 o3 : Option AV) (hp : HP) : Rr (Cd d) 217 54 [some (vA v0), some (vI v1), o2, o3] [] hp =
  (gF hp 12 2 v0).bind fun x1 =>
  (gF hp 12 17 v0).bind fun x2 =>
  (gF hp 12 15 v0).bind fun x3 =>
  (pA hp 0 x1 (w32 (x2 + 1)) x3).bind fun h4 =>
  ((Cd d 198 [vA v0] h4).bind toV).bind fun q5 =>
  Rr (Cd d) 217 65 [some (vA v0), some (vI v1), o2, o3] [] q5 := (Rr_blk (Cd d) 217 [54, 65, 76, 118, 133, 136, 152] 163 54 _ _ hp).trans rfl
set_option maxRecDepth 100000 in
theorem c217_65 (d : Nat) (v0 v1 : Int) (o2 o3 : Option AV) (hp : HP) : Rr (Cd d) 217 65 [some (vA v0), some (vI v1), o2, o3] [] hp =
  if v1 = 2 then
    (gF hp 12 2 v0).bind fun x1 =>
    (gF hp 12 17 v0).bind fun x2 =>
    (pA hp 0 x1 (w32 (x2 + 2)) 1).bind fun h3 =>
    Rr (Cd d) 217 76 [some (vA v0), some (vI v1), o2, o3] [] h3
  else
    Rr (Cd d) 217 76 [some (vA v0), some (vI v1), o2, o3] [] hp := (Rr_blk (Cd d) 217 [54, 65, 76, 118, 133, 136, 152] 163 65 _ _ hp).trans rfl
set_option maxRecDepth 100000 in
theorem c217_76 (d : Nat) (v0 v1 : Int) (o2 o3 : Option AV) (hp : HP) : Rr (Cd d) 217 76 [some (vA v0), some (vI v1), o2, o3] [] hp =
  if v1 = 3 then
    ((Cd d 200 [vI 112, vI 97, vI 105, vI 114, vI 115] hp).bind toL).bind fun q1 =>
    ((Cd d 202 [vA v0, vL q1.1] q1.2).bind toI).bind fun q2 =>
    ((Cd d 200 [vI 108, vI 97, vI 110, vI 100, vI 115] q2.2).bind toL).bind fun q3 =>
    ((Cd d 202 [vA v0, vL q3.1] q3.2).bind toI).bind fun q4 =>
    if q2.1 = 0 then
      if q4.1 = 0 then
        ((Cd d 200 [vI 98, vI 111, vI 114, vI 100, vI 101] q4.2).bind toL).bind fun q5 =>
        ((Cd d 202 [vA v0, vL (llor (llor (llshl q5.1 16) 29184) 115)] q5.2).bind toI).bind fun q6 =>
        if q6.1 = 0 then
          some ([vI 1], q6.2)
        else
          Rr (Cd d) 217 118 [some (vA v0), some (vI v1), some (vI q2.1), some (vI q4.1)] [] q6.2
      else
        Rr (Cd d) 217 118 [some (vA v0), some (vI v1), some (vI q2.1), some (vI q4.1)] [] q4.2
    else
      Rr (Cd d) 217 118 [some (vA v0), some (vI v1), some (vI q2.1), some (vI q4.1)] [] q4.2
  else
    Rr (Cd d) 217 136 [some (vA v0), some (vI v1), o2, o3] [] hp := (Rr_blk (Cd d) 217 [54, 65, 76, 118, 133, 136, 152] 163 76 _ _ hp).trans rfl
set_option maxRecDepth 100000 in
theorem c217_118 (d : Nat) (v0 v1 v2 v3 : Int) (hp : HP) : Rr (Cd d) 217 118 [some (vA v0), some (vI v1), some (vI v2), some (vI v3)] [] hp =
  (gF hp 12 2 v0).bind fun x1 =>
  (gF hp 12 17 v0).bind fun x2 =>
  if v2 = 0 then
    if v3 = 0 then
      Rr (Cd d) 217 133 [some (vA v0), some (vI v1), some (vI v2), some (vI v3)] [vI 0, vI (w32 (x2 + 3)), vA x1] hp
    else
      Rr (Cd d) 217 133 [some (vA v0), some (vI v1), some (vI v2), some (vI v3)] [vI 2, vI (w32 (x2 + 3)), vA x1] hp
  else
    Rr (Cd d) 217 133 [some (vA v0), some (vI v1), some (vI v2), some (vI v3)] [vI 1, vI (w32 (x2 + 3)), vA x1] hp := (Rr_blk (Cd d) 217 [54, 65, 76, 118, 133, 136, 152] 163 118 _ _ hp).trans rfl
set_option maxRecDepth 100000 in
theorem c217_133 (d : Nat) (v0 v1 s0 s1 s2 : Int) (o2 o3 : Option AV) (hp : HP) : Rr (Cd d) 217 133 [some (vA v0), some (vI v1), o2, o3] [vI s2, vI s1, vA s0] hp =
  (pA hp 0 s0 s1 s2).bind fun h1 =>
  ((Cd d 198 [vA v0] h1).bind toV).bind fun q2 =>
  Rr (Cd d) 217 136 [some (vA v0), some (vI v1), o2, o3] [] q2 := (Rr_blk (Cd d) 217 [54, 65, 76, 118, 133, 136, 152] 163 133 _ _ hp).trans rfl
set_option maxRecDepth 100000 in
theorem c217_136 (d : Nat) (v0 v1 : Int) (o2 o3 : Option AV) (hp : HP) : Rr (Cd d) 217 136 [some (vA v0), some (vI v1), o2, o3] [] hp =
  if v1 = 4 then
    ((Cd d 215 [vA v0] hp).bind toI).bind fun q1 =>
    if q1.1 = 0 then
      (gF q1.2 12 2 v0).bind fun x2 =>
      (gF q1.2 12 17 v0).bind fun x3 =>
      (pA q1.2 0 x2 x3 1).bind fun h4 =>
      Rr (Cd d) 217 152 [some (vA v0), some (vI v1), some (vI q1.1), o3] [] h4
    else
      some ([vI q1.1], q1.2)
  else
    Rr (Cd d) 217 152 [some (vA v0), some (vI v1), o2, o3] [] hp := (Rr_blk (Cd d) 217 [54, 65, 76, 118, 133, 136, 152] 163 136 _ _ hp).trans rfl
set_option maxRecDepth 100000 in
theorem c217_152 (d : Nat) (v0 : Int) (o1 o2 o3 : Option AV) (hp : HP) : Rr (Cd d) 217 152 [some (vA v0), o1, o2, o3] [] hp =
  (gF hp 12 14 v0).bind fun x1 =>
  if x1 = 59 then
    ((Cd d 198 [vA v0] hp).bind toV).bind fun q2 =>
    some ([vI 0], q2)
  else
    some ([vI 1], hp) := (Rr_blk (Cd d) 217 [54, 65, 76, 118, 133, 136, 152] 163 152 _ _ hp).trans rfl
set_option maxRecDepth 100000 in
theorem c218 (d : Nat) (v0 : Int) (hp : HP) {n : Nat} (hg : gS hp v0 = some (12, n)) : Cd (d + 1) 218 [vA v0] hp =
  (gF hp 12 0 v0).bind fun x1 =>
  (gA hp 0 x1 1).bind fun x2 =>
  (pF hp 12 17 v0 (w32 (800 * x2))).bind fun h3 =>
  (gF h3 12 2 v0).bind fun x4 =>
  (gF h3 12 17 v0).bind fun x5 =>
  (pA h3 0 x4 x5 0).bind fun h6 =>
  (gF h6 12 2 v0).bind fun x7 =>
  (gF h6 12 17 v0).bind fun x8 =>
  (pA h6 0 x7 (w32 (x8 + 1)) 1).bind fun h9 =>
  (gF h9 12 2 v0).bind fun x10 =>
  (gF h9 12 17 v0).bind fun x11 =>
  (pA h9 0 x10 (w32 (x11 + 2)) 0).bind fun h12 =>
  (gF h12 12 2 v0).bind fun x13 =>
  (gF h12 12 17 v0).bind fun x14 =>
  (pA h12 0 x13 (w32 (x14 + 3)) 0).bind fun h15 =>
  (pF h15 12 19 v0 0).bind fun h16 =>
  (pF h16 12 23 v0 0).bind fun h17 =>
  (pF h17 12 20 v0 0).bind fun h18 =>
  (pF h18 12 12 v0 0).bind fun h19 =>
  ((Cd d 198 [vA v0] h19).bind toV).bind fun q20 =>
  Rr (Cd d) 218 52 [some (vA v0), none] [] q20 := (Cd_inst rfl rfl rfl hg).trans ((Rr_blk (Cd d) 218 [52] 66 0 _ [] hp).trans rfl)
set_option maxRecDepth 100000 in
theorem c218_52 (d : Nat) (v0 : Int) (o1 : Option AV) (hp : HP) : Rr (Cd d) 218 52 [some (vA v0), o1] [] hp =
  (gF hp 12 14 v0).bind fun x1 =>
  if x1 = 0 then
    some ([vI 0], hp)
  else
    ((Cd d 217 [vA v0] hp).bind toI).bind fun q2 =>
    if q2.1 = 0 then
      Rr (Cd d) 218 52 [some (vA v0), some (vI q2.1)] [] q2.2
    else
      some ([vI q2.1], q2.2) := (Rr_blk (Cd d) 218 [52] 66 52 _ _ hp).trans rfl
set_option maxRecDepth 100000 in
theorem c219 (d : Nat) (v0 : Int) (hp : HP) {n : Nat} (hg : gS hp v0 = some (12, n)) : Cd (d + 1) 219 [vA v0] hp =
  (gF hp 12 0 v0).bind fun x1 =>
  (gA hp 0 x1 1).bind fun x2 =>
  if x2 = 8 then
    some ([vI ((-1))], hp)
  else
    ((Cd d 218 [vA v0] hp).bind toI).bind fun q3 =>
    (pF q3.2 12 10 v0 q3.1).bind fun h4 =>
    (gF h4 12 10 v0).bind fun x5 =>
    if x5 = 0 then
      Rr (Cd d) 219 20 [some (vA v0)] [vI ((-1)), vA v0] h4
    else
      (gF h4 12 13 v0).bind fun x6 =>
      Rr (Cd d) 219 20 [some (vA v0)] [vI x6, vA v0] h4 := (Cd_inst rfl rfl rfl hg).trans ((Rr_blk (Cd d) 219 [20] 54 0 _ [] hp).trans rfl)
set_option maxRecDepth 100000 in
theorem c219_20 (d : Nat) (v0 s0 s1 : Int) (hp : HP) : Rr (Cd d) 219 20 [some (vA v0)] [vI s1, vA s0] hp =
  (pF hp 12 11 s0 s1).bind fun h1 =>
  (pF h1 12 9 v0 0).bind fun h2 =>
  (gF h2 12 10 v0).bind fun x3 =>
  if x3 = 0 then
    (gF h2 12 2 v0).bind fun x4 =>
    (gF h2 12 17 v0).bind fun x5 =>
    (gF h2 12 19 v0).bind fun x6 =>
    (pA h2 0 x4 (w32 (x5 + 4)) x6).bind fun h7 =>
    (gF h7 12 0 v0).bind fun x8 =>
    (gA h7 0 x8 1).bind fun x9 =>
    (pA h7 0 x8 1 (w32 (x9 + 1))).bind fun h10 =>
    (gF h10 12 0 v0).bind fun x11 =>
    (gA h10 0 x11 1).bind fun x12 =>
    some ([vI (w32 (x12 - 1))], h10)
  else
    some ([vI ((-1))], h2) := (Rr_blk (Cd d) 219 [20] 54 20 _ _ hp).trans rfl
set_option maxRecDepth 100000 in
theorem c220 (d : Nat) (v0 v1 : Int) (hp : HP) {n : Nat} (hg : gS hp v0 = some (12, n)) : Cd (d + 1) 220 [vA v0, vI v1] hp =
  if v1 = 0 then
    (gF hp 12 10 v0).bind fun x2 =>
    Rr (Cd d) 220 12 [some (vA v0), some (vI v1)] [vI x2] hp
  else
    if v1 = 1 then
      (gF hp 12 11 v0).bind fun x1 =>
      Rr (Cd d) 220 12 [some (vA v0), some (vI v1)] [vI x1] hp
    else
      Rr (Cd d) 220 12 [some (vA v0), some (vI v1)] [vI ((-1))] hp := (Cd_inst rfl rfl rfl hg).trans ((Rr_blk (Cd d) 220 [12] 14 0 _ [] hp).trans rfl)
set_option maxRecDepth 100000 in
theorem c220_12 (d : Nat) (s0 : Int) (o0 o1 : Option AV) (hp : HP) : Rr (Cd d) 220 12 [o0, o1] [vI s0] hp =
  some ([vI s0], hp) := (Rr_blk (Cd d) 220 [12] 14 12 _ _ hp).trans rfl
set_option maxRecDepth 100000 in
theorem c221 (d : Nat) (v0 v1 : Int) (hp : HP) {n : Nat} (hg : gS hp v0 = some (12, n)) : Cd (d + 1) 221 [vA v0, vI v1] hp =
  (gF hp 12 0 v0).bind fun x1 =>
  (gA hp 0 x1 1).bind fun x2 =>
  ((Cd d 172 [vI v1, vI 0, vI (w32 (x2 - 1))] hp).bind toI).bind fun q3 =>
  if q3.1 = 0 ∨ q3.1 = 1 then some ([vI q3.1], q3.2) else none := (Cd_inst rfl rfl rfl hg).trans ((Rr_blk (Cd d) 221 [] 11 0 _ [] hp).trans rfl)
set_option maxRecDepth 100000 in
theorem c222 (d : Nat) (v0 v1 : Int) (hp : HP) {n : Nat} (hg : gS hp v0 = some (12, n)) : Cd (d + 1) 222 [vA v0, vI v1] hp =
  (gF hp 12 2 v0).bind fun x1 =>
  (gA hp 0 x1 (w32 (w32 (800 * v1) + 1))).bind fun x2 =>
  (pF hp 12 25 v0 x2).bind fun h3 =>
  (gF h3 12 2 v0).bind fun x4 =>
  (gA h3 0 x4 (w32 (w32 (800 * v1) + 2))).bind fun x5 =>
  if x5 = 1 then
    Rr (Cd d) 222 24 [some (vA v0), some (vI v1), some (vI (w32 (800 * v1)))] [vI 1, vA v0] h3
  else
    Rr (Cd d) 222 24 [some (vA v0), some (vI v1), some (vI (w32 (800 * v1)))] [vI 0, vA v0] h3 := (Cd_inst rfl rfl rfl hg).trans ((Rr_blk (Cd d) 222 [24] 38 0 _ [] hp).trans rfl)
set_option maxRecDepth 100000 in
theorem c222_24 (d : Nat) (v0 v1 v2 s0 s1 : Int) (hp : HP) : Rr (Cd d) 222 24 [some (vA v0), some (vI v1), some (vI v2)] [vI s1, vA s0] hp =
  if s1 = 0 ∨ s1 = 1 then
    (pF hp 12 28 s0 s1).bind fun h1 =>
    (gF h1 12 2 v0).bind fun x2 =>
    (gA h1 0 x2 (w32 (v2 + 3))).bind fun x3 =>
    (pF h1 12 26 v0 x3).bind fun h4 =>
    (pF h4 12 27 v0 v1).bind fun h5 =>
    some ([], h5)
  else none := (Rr_blk (Cd d) 222 [24] 38 24 _ _ hp).trans rfl
set_option maxRecDepth 100000 in
theorem c223 (d : Nat) (v0 v1 : Int) (hp : HP) {n : Nat} (hg : gS hp v0 = some (12, n)) : Cd (d + 1) 223 [vA v0, vI v1] hp =
  (gF hp 12 25 v0).bind fun x1 =>
  if x1 = 3 then
    if 0 < v1 then
      Rr (Cd d) 223 11 [some (vA v0), some (vI v1)] [vI (w32 (v1 + 1))] hp
    else
      Rr (Cd d) 223 10 [some (vA v0), some (vI v1)] [] hp
  else
    Rr (Cd d) 223 10 [some (vA v0), some (vI v1)] [] hp := (Cd_inst rfl rfl rfl hg).trans ((Rr_blk (Cd d) 223 [10, 11] 13 0 _ [] hp).trans rfl)
set_option maxRecDepth 100000 in
theorem c223_10 (d : Nat) (v1 : Int) (o0 : Option AV) (hp : HP) : Rr (Cd d) 223 10 [o0, some (vI v1)] [] hp =
  Rr (Cd d) 223 11 [o0, some (vI v1)] [vI v1] hp := (Rr_blk (Cd d) 223 [10, 11] 13 10 _ _ hp).trans rfl
set_option maxRecDepth 100000 in
theorem c223_11 (d : Nat) (s0 : Int) (o0 o1 : Option AV) (hp : HP) : Rr (Cd d) 223 11 [o0, o1] [vI s0] hp =
  some ([vI s0], hp) := (Rr_blk (Cd d) 223 [10, 11] 13 11 _ _ hp).trans rfl
set_option maxRecDepth 100000 in
theorem c224 (d : Nat) (v0 v1 : Int) (hp : HP) {n : Nat} (hg : gS hp v0 = some (12, n)) : Cd (d + 1) 224 [vA v0, vI v1] hp =
  (gF hp 12 0 v0).bind fun x1 =>
  (gA hp 0 x1 (w32 (20 + v1))).bind fun x2 =>
  (gF hp 12 26 v0).bind fun x3 =>
  if x3 = 0 then
    (gF hp 12 0 v0).bind fun x5 =>
    (gA hp 0 x5 (w32 (24 + v1))).bind fun x6 =>
    Rr (Cd d) 224 30 [some (vA v0), some (vI v1), some (vI x2)] [vI x6] hp
  else
    (gF hp 12 26 v0).bind fun x4 =>
    if x4 = 1 then
      Rr (Cd d) 224 30 [some (vA v0), some (vI v1), some (vI x2)] [vI (idiv (w32 (x2 * (w32 (x2 - 1)))) 2)] hp
    else
      Rr (Cd d) 224 30 [some (vA v0), some (vI v1), some (vI x2)] [vI x2] hp := (Cd_inst rfl rfl rfl hg).trans ((Rr_blk (Cd d) 224 [30] 32 0 _ [] hp).trans rfl)
set_option maxRecDepth 100000 in
theorem c224_30 (d : Nat) (s0 : Int) (o0 o1 o2 : Option AV) (hp : HP) : Rr (Cd d) 224 30 [o0, o1, o2] [vI s0] hp =
  some ([vI s0], hp) := (Rr_blk (Cd d) 224 [30] 32 30 _ _ hp).trans rfl
set_option maxRecDepth 100000 in
theorem c225 (d : Nat) (v0 v1 v2 : Int) (hp : HP) {n : Nat} (hg : gS hp v0 = some (12, n)) : Cd (d + 1) 225 [vA v0, vI v1, vI v2] hp =
  (gF hp 12 26 v0).bind fun x1 =>
  if x1 = 0 then
    ((Cd d 176 [vA v0, vI v1, vI v2] hp).bind toI).bind fun q3 =>
    some ([vI q3.1], q3.2)
  else
    (gF hp 12 26 v0).bind fun x2 =>
    if x2 = 2 then
      some ([vI v2], hp)
    else
      Rr (Cd d) 225 18 [some (vA v0), some (vI v1), some (vI v2), some (vI v2), some (vI 0)] [] hp := (Cd_inst rfl rfl rfl hg).trans ((Rr_blk (Cd d) 225 [18] 48 0 _ [] hp).trans rfl)
set_option maxRecDepth 100000 in
theorem c225_18 (d : Nat) (v0 v1 v3 v4 : Int) (o2 : Option AV) (hp : HP) : Rr (Cd d) 225 18 [some (vA v0), some (vI v1), o2, some (vI v3), some (vI v4)] [] hp =
  (gF hp 12 0 v0).bind fun x1 =>
  (gA hp 0 x1 (w32 (20 + v1))).bind fun x2 =>
  if v3 < w32 (w32 (x2 - 1) - v4) then
    some ([vI v4], hp)
  else
    (gF hp 12 0 v0).bind fun x3 =>
    (gA hp 0 x3 (w32 (20 + v1))).bind fun x4 =>
    Rr (Cd d) 225 18 [some (vA v0), some (vI v1), o2, some (vI (w32 (v3 - (w32 (w32 (x4 - 1) - v4))))), some (vI (w32 (v4 + 1)))] [] hp := (Rr_blk (Cd d) 225 [18] 48 18 _ _ hp).trans rfl
set_option maxRecDepth 100000 in
theorem c226 (d : Nat) (v0 v1 v2 : Int) (hp : HP) {n : Nat} (hg : gS hp v0 = some (12, n)) : Cd (d + 1) 226 [vA v0, vI v1, vI v2] hp =
  (gF hp 12 26 v0).bind fun x1 =>
  if x1 = 0 then
    ((Cd d 177 [vA v0, vI v1, vI v2] hp).bind toI).bind fun q3 =>
    some ([vI q3.1], q3.2)
  else
    (gF hp 12 26 v0).bind fun x2 =>
    if x2 = 2 then
      some ([vI v2], hp)
    else
      Rr (Cd d) 226 18 [some (vA v0), some (vI v1), some (vI v2), some (vI 0), some (vI 0)] [] hp := (Cd_inst rfl rfl rfl hg).trans ((Rr_blk (Cd d) 226 [18] 51 0 _ [] hp).trans rfl)
set_option maxRecDepth 100000 in
theorem c226_18 (d : Nat) (v0 v1 v2 v3 v4 : Int) (hp : HP) : Rr (Cd d) 226 18 [some (vA v0), some (vI v1), some (vI v2), some (vI v3), some (vI v4)] [] hp =
  ((Cd d 225 [vA v0, vI v1, vI v2] hp).bind toI).bind fun q1 =>
  if v4 < q1.1 then
    (gF q1.2 12 0 v0).bind fun x3 =>
    (gA q1.2 0 x3 (w32 (20 + v1))).bind fun x4 =>
    Rr (Cd d) 226 18 [some (vA v0), some (vI v1), some (vI v2), some (vI (w32 (v3 + (w32 (w32 (x4 - 1) - v4))))), some (vI (w32 (v4 + 1)))] [] q1.2
  else
    ((Cd d 225 [vA v0, vI v1, vI v2] q1.2).bind toI).bind fun q2 =>
    some ([vI (w32 (w32 (w32 (q2.1 + 1) + v2) - v3))], q2.2) := (Rr_blk (Cd d) 226 [18] 51 18 _ _ hp).trans rfl
set_option maxRecDepth 100000 in
theorem c227 (d : Nat) (v0 : Int) (hp : HP) : Cd (d + 1) 227 [vL v0] hp =
  if 0 < lcmp v0 1000000000 then
    Rr (Cd d) 227 13 [some (vL v0), none] [vL 1000000000] hp
  else
    if lcmp v0 ((-1000000000)) < 0 then
      Rr (Cd d) 227 13 [some (vL v0), none] [vL ((-1000000000))] hp
    else
      Rr (Cd d) 227 13 [some (vL v0), none] [vL v0] hp := (Rr_blk (Cd d) 227 [13] 15 0 _ [] hp).trans rfl
set_option maxRecDepth 100000 in
theorem c227_13 (d : Nat) (s0 : Int) (o0 o1 : Option AV) (hp : HP) : Rr (Cd d) 227 13 [o0, o1] [vL s0] hp =
  some ([vL s0], hp) := (Rr_blk (Cd d) 227 [13] 15 13 _ _ hp).trans rfl
set_option maxRecDepth 100000 in
theorem c228 (d : Nat) (v0 v1 v3 : Int) (hp : HP) : Cd (d + 1) 228 [vI v0, vL v1, vL v3] hp =
  if v0 = 3 then
    Rr (Cd d) 228 17 [some (vI v0), some (vL v1), none, some (vL v3), none] [vL (w64 (v1 + v3))] hp
  else
    if v0 = 4 then
      Rr (Cd d) 228 17 [some (vI v0), some (vL v1), none, some (vL v3), none] [vL (w64 (v1 - v3))] hp
    else
      Rr (Cd d) 228 17 [some (vI v0), some (vL v1), none, some (vL v3), none] [vL (w64 (v1 * v3))] hp := (Rr_blk (Cd d) 228 [17] 20 0 _ [] hp).trans rfl
set_option maxRecDepth 100000 in
theorem c228_17 (d : Nat) (s0 : Int) (o0 o1 o2 o3 o4 : Option AV) (hp : HP) : Rr (Cd d) 228 17 [o0, o1, o2, o3, o4] [vL s0] hp =
  ((Cd d 227 [vL s0] hp).bind toL).bind fun q1 =>
  some ([vL q1.1], q1.2) := (Rr_blk (Cd d) 228 [17] 20 17 _ _ hp).trans rfl
set_option maxRecDepth 100000 in
theorem c229 (d : Nat) (v0 v1 v3 : Int) (hp : HP) : Cd (d + 1) 229 [vI v0, vL v1, vL v3] hp =
  if v0 = 10 then
    if lcmp v1 v3 < 0 then
      Rr (Cd d) 229 62 [some (vI v0), some (vL v1), none, some (vL v3), none] [vI 1] hp
    else
      Rr (Cd d) 229 62 [some (vI v0), some (vL v1), none, some (vL v3), none] [vI 0] hp
  else
    if v0 = 11 then
      if 0 < lcmp v1 v3 then
        Rr (Cd d) 229 62 [some (vI v0), some (vL v1), none, some (vL v3), none] [vI 0] hp
      else
        Rr (Cd d) 229 62 [some (vI v0), some (vL v1), none, some (vL v3), none] [vI 1] hp
    else
      if v0 = 12 then
        if 0 < lcmp v1 v3 then
          Rr (Cd d) 229 62 [some (vI v0), some (vL v1), none, some (vL v3), none] [vI 1] hp
        else
          Rr (Cd d) 229 62 [some (vI v0), some (vL v1), none, some (vL v3), none] [vI 0] hp
      else
        if v0 = 13 then
          if lcmp v1 v3 < 0 then
            Rr (Cd d) 229 62 [some (vI v0), some (vL v1), none, some (vL v3), none] [vI 0] hp
          else
            Rr (Cd d) 229 62 [some (vI v0), some (vL v1), none, some (vL v3), none] [vI 1] hp
        else
          if v0 = 14 then
            if lcmp v1 v3 = 0 then
              Rr (Cd d) 229 62 [some (vI v0), some (vL v1), none, some (vL v3), none] [vI 1] hp
            else
              Rr (Cd d) 229 62 [some (vI v0), some (vL v1), none, some (vL v3), none] [vI 0] hp
          else
            if lcmp v1 v3 = 0 then
              Rr (Cd d) 229 62 [some (vI v0), some (vL v1), none, some (vL v3), none] [vI 0] hp
            else
              Rr (Cd d) 229 62 [some (vI v0), some (vL v1), none, some (vL v3), none] [vI 1] hp := (Rr_blk (Cd d) 229 [62] 64 0 _ [] hp).trans rfl
set_option maxRecDepth 100000 in
theorem c229_62 (d : Nat) (s0 : Int) (o0 o1 o2 o3 o4 : Option AV) (hp : HP) : Rr (Cd d) 229 62 [o0, o1, o2, o3, o4] [vI s0] hp =
  if s0 = 0 ∨ s0 = 1 then some ([vI s0], hp) else none := (Rr_blk (Cd d) 229 [62] 64 62 _ _ hp).trans rfl
set_option maxRecDepth 100000 in
theorem c230 (d : Nat) (v0 v1 : Int) (hp : HP) {n : Nat} (hg : gS hp v0 = some (12, n)) : Cd (d + 1) 230 [vA v0, vI v1] hp =
  Rr (Cd d) 230 12 [some (vA v0), some (vI v1), some (vI 0), some (vI 0), some (vI (w32 (w32 (800 * v1) + 10))), some (vI 0), none, none] [] hp := (Cd_inst rfl rfl rfl hg).trans ((Rr_blk (Cd d) 230 [12, 58, 141, 166, 180, 183, 184] 192 0 _ [] hp).trans rfl)
set_option maxRecDepth 100000 in
theorem c230_12 (d : Nat) (v0 v1 v2 v3 v4 v5 : Int) (o6 o7 : Option AV) (hp : HP) : Rr (Cd d) 230 12 [some (vA v0), some (vI v1), some (vI v2), some (vI v3), some (vI v4), some (vI v5), o6, o7] [] hp =
  (gF hp 12 2 v0).bind fun x1 =>
  (gA hp 0 x1 (w32 (w32 (800 * v1) + 4))).bind fun x2 =>
  if v5 < x2 then
    (gF hp 12 2 v0).bind fun x5 =>
    (gA hp 0 x5 (w32 (v4 + (w32 (2 * v5))))).bind fun x6 =>
    (gF hp 12 2 v0).bind fun x7 =>
    (gA hp 0 x7 (w32 (w32 (v4 + (w32 (2 * v5))) + 1))).bind fun x8 =>
    if 1 < x6 then
      if x6 = 2 then
        (gF hp 12 30 v0).bind fun x35 =>
        (gF hp 12 30 v0).bind fun x36 =>
        (gA hp 1 x36 (w32 (v2 - 1))).bind fun x37 =>
        (pA hp 1 x35 (w32 (v2 - 1)) (w64 (-x37))).bind fun h38 =>
        Rr (Cd d) 230 184 [some (vA v0), some (vI v1), some (vI v2), some (vI v3), some (vI v4), some (vI v5), some (vI x6), some (vI x8)] [] h38
      else
        if x6 < 10 then
          (gF hp 12 30 v0).bind fun x28 =>
          (gF hp 12 30 v0).bind fun x29 =>
          (gA hp 1 x29 (w32 (w32 (v2 + (-1)) - 1))).bind fun x30 =>
          (gF hp 12 30 v0).bind fun x31 =>
          (gA hp 1 x31 (w32 (v2 + (-1)))).bind fun x32 =>
          ((Cd d 228 [vI x6, vL x30, vL x32] hp).bind toL).bind fun q33 =>
          (pA q33.2 1 x28 (w32 (w32 (v2 + (-1)) - 1)) q33.1).bind fun h34 =>
          Rr (Cd d) 230 184 [some (vA v0), some (vI v1), some (vI (w32 (v2 + (-1)))), some (vI v3), some (vI v4), some (vI v5), some (vI x6), some (vI x8)] [] h34
        else
          if x6 < 20 then
            (gF hp 12 31 v0).bind fun x21 =>
            (gF hp 12 30 v0).bind fun x22 =>
            (gA hp 1 x22 (w32 (v2 + (-2)))).bind fun x23 =>
            (gF hp 12 30 v0).bind fun x24 =>
            (gA hp 1 x24 (w32 (w32 (v2 + (-2)) + 1))).bind fun x25 =>
            ((Cd d 229 [vI x6, vL x23, vL x25] hp).bind toI).bind fun q26 =>
            if q26.1 = 0 ∨ q26.1 = 1 then
              (pA q26.2 2 x21 v3 q26.1).bind fun h27 =>
              Rr (Cd d) 230 184 [some (vA v0), some (vI v1), some (vI (w32 (v2 + (-2)))), some (vI (w32 (v3 + 1))), some (vI v4), some (vI v5), some (vI x6), some (vI x8)] [] h27
            else none
          else
            if x6 = 20 then
              (gF hp 12 31 v0).bind fun x18 =>
              (gF hp 12 31 v0).bind fun x19 =>
              (gA hp 2 x19 (w32 (v3 - 1))).bind fun x20 =>
              if x20 = 0 then
                Rr (Cd d) 230 141 [some (vA v0), some (vI v1), some (vI v2), some (vI v3), some (vI v4), some (vI v5), some (vI x6), some (vI x8)] [vI 1, vI (w32 (v3 - 1)), vA x18] hp
              else
                Rr (Cd d) 230 141 [some (vA v0), some (vI v1), some (vI v2), some (vI v3), some (vI v4), some (vI v5), some (vI x6), some (vI x8)] [vI 0, vI (w32 (v3 - 1)), vA x18] hp
            else
              (gF hp 12 31 v0).bind fun x9 =>
              if x6 = 21 then
                (gF hp 12 31 v0).bind fun x14 =>
                (gA hp 2 x14 (w32 (w32 (v3 + (-1)) - 1))).bind fun x15 =>
                if x15 = 0 then
                  Rr (Cd d) 230 166 [some (vA v0), some (vI v1), some (vI v2), some (vI (w32 (v3 + (-1)))), some (vI v4), some (vI v5), some (vI x6), some (vI x8)] [vI (w32 (w32 (v3 + (-1)) - 1)), vA x9] hp
                else
                  (gF hp 12 31 v0).bind fun x16 =>
                  (gA hp 2 x16 (w32 (v3 + (-1)))).bind fun x17 =>
                  if x17 = 0 then
                    Rr (Cd d) 230 166 [some (vA v0), some (vI v1), some (vI v2), some (vI (w32 (v3 + (-1)))), some (vI v4), some (vI v5), some (vI x6), some (vI x8)] [vI (w32 (w32 (v3 + (-1)) - 1)), vA x9] hp
                  else
                    Rr (Cd d) 230 183 [some (vA v0), some (vI v1), some (vI v2), some (vI (w32 (v3 + (-1)))), some (vI v4), some (vI v5), some (vI x6), some (vI x8)] [vI 1, vI (w32 (w32 (v3 + (-1)) - 1)), vA x9] hp
              else
                (gF hp 12 31 v0).bind fun x10 =>
                (gA hp 2 x10 (w32 (w32 (v3 + (-1)) - 1))).bind fun x11 =>
                if x11 = 0 then
                  (gF hp 12 31 v0).bind fun x12 =>
                  (gA hp 2 x12 (w32 (v3 + (-1)))).bind fun x13 =>
                  if x13 = 0 then
                    Rr (Cd d) 230 183 [some (vA v0), some (vI v1), some (vI v2), some (vI (w32 (v3 + (-1)))), some (vI v4), some (vI v5), some (vI x6), some (vI x8)] [vI 0, vI (w32 (w32 (v3 + (-1)) - 1)), vA x9] hp
                  else
                    Rr (Cd d) 230 180 [some (vA v0), some (vI v1), some (vI v2), some (vI (w32 (v3 + (-1)))), some (vI v4), some (vI v5), some (vI x6), some (vI x8)] [vI (w32 (w32 (v3 + (-1)) - 1)), vA x9] hp
                else
                  Rr (Cd d) 230 180 [some (vA v0), some (vI v1), some (vI v2), some (vI (w32 (v3 + (-1)))), some (vI v4), some (vI v5), some (vI x6), some (vI x8)] [vI (w32 (w32 (v3 + (-1)) - 1)), vA x9] hp
    else
      (gF hp 12 30 v0).bind fun x39 =>
      if x6 = 0 then
        Rr (Cd d) 230 58 [some (vA v0), some (vI v1), some (vI v2), some (vI v3), some (vI v4), some (vI v5), some (vI x6), some (vI x8)] [vL x8, vI v2, vA x39] hp
      else
        (gF hp 12 29 v0).bind fun x40 =>
        (gA hp 0 x40 x8).bind fun x41 =>
        Rr (Cd d) 230 58 [some (vA v0), some (vI v1), some (vI v2), some (vI v3), some (vI v4), some (vI v5), some (vI x6), some (vI x8)] [vL x41, vI v2, vA x39] hp
  else
    (gF hp 12 31 v0).bind fun x3 =>
    (gA hp 2 x3 0).bind fun x4 =>
    if x4 = 0 ∨ x4 = 1 then some ([vI x4], hp) else none := (Rr_blk (Cd d) 230 [12, 58, 141, 166, 180, 183, 184] 192 12 _ _ hp).trans rfl
set_option maxRecDepth 100000 in
theorem c230_58 (d : Nat) (v0 v1 v2 v3 v4 v5 s0 s1 s2 : Int) (o6 o7 : Option AV) (hp : HP) : Rr (Cd d) 230 58 [some (vA v0), some (vI v1), some (vI v2), some (vI v3), some (vI v4), some (vI v5), o6, o7] [vL s2, vI s1, vA s0] hp =
  (pA hp 1 s0 s1 s2).bind fun h1 =>
  Rr (Cd d) 230 184 [some (vA v0), some (vI v1), some (vI (w32 (v2 + 1))), some (vI v3), some (vI v4), some (vI v5), o6, o7] [] h1 := (Rr_blk (Cd d) 230 [12, 58, 141, 166, 180, 183, 184] 192 58 _ _ hp).trans rfl
set_option maxRecDepth 100000 in
theorem c230_141 (d : Nat) (v0 v1 v2 v3 v4 v5 s0 s1 s2 : Int) (o6 o7 : Option AV) (hp : HP) : Rr (Cd d) 230 141 [some (vA v0), some (vI v1), some (vI v2), some (vI v3), some (vI v4), some (vI v5), o6, o7] [vI s2, vI s1, vA s0] hp =
  if s2 = 0 ∨ s2 = 1 then
    (pA hp 2 s0 s1 s2).bind fun h1 =>
    Rr (Cd d) 230 184 [some (vA v0), some (vI v1), some (vI v2), some (vI v3), some (vI v4), some (vI v5), o6, o7] [] h1
  else none := (Rr_blk (Cd d) 230 [12, 58, 141, 166, 180, 183, 184] 192 141 _ _ hp).trans rfl
set_option maxRecDepth 100000 in
theorem c230_166 (d : Nat) (v0 v1 v2 v3 v4 v5 s0 s1 : Int) (o6 o7 : Option AV) (hp : HP) : Rr (Cd d) 230 166 [some (vA v0), some (vI v1), some (vI v2), some (vI v3), some (vI v4), some (vI v5), o6, o7] [vI s1, vA s0] hp =
  Rr (Cd d) 230 183 [some (vA v0), some (vI v1), some (vI v2), some (vI v3), some (vI v4), some (vI v5), o6, o7] [vI 0, vI s1, vA s0] hp := (Rr_blk (Cd d) 230 [12, 58, 141, 166, 180, 183, 184] 192 166 _ _ hp).trans rfl
set_option maxRecDepth 100000 in
theorem c230_180 (d : Nat) (v0 v1 v2 v3 v4 v5 s0 s1 : Int) (o6 o7 : Option AV) (hp : HP) : Rr (Cd d) 230 180 [some (vA v0), some (vI v1), some (vI v2), some (vI v3), some (vI v4), some (vI v5), o6, o7] [vI s1, vA s0] hp =
  Rr (Cd d) 230 183 [some (vA v0), some (vI v1), some (vI v2), some (vI v3), some (vI v4), some (vI v5), o6, o7] [vI 1, vI s1, vA s0] hp := (Rr_blk (Cd d) 230 [12, 58, 141, 166, 180, 183, 184] 192 180 _ _ hp).trans rfl
set_option maxRecDepth 100000 in
theorem c230_183 (d : Nat) (v0 v1 v2 v3 v4 v5 s0 s1 s2 : Int) (o6 o7 : Option AV) (hp : HP) : Rr (Cd d) 230 183 [some (vA v0), some (vI v1), some (vI v2), some (vI v3), some (vI v4), some (vI v5), o6, o7] [vI s2, vI s1, vA s0] hp =
  if s2 = 0 ∨ s2 = 1 then
    (pA hp 2 s0 s1 s2).bind fun h1 =>
    Rr (Cd d) 230 184 [some (vA v0), some (vI v1), some (vI v2), some (vI v3), some (vI v4), some (vI v5), o6, o7] [] h1
  else none := (Rr_blk (Cd d) 230 [12, 58, 141, 166, 180, 183, 184] 192 183 _ _ hp).trans rfl
set_option maxRecDepth 100000 in
theorem c230_184 (d : Nat) (v0 v1 v2 v3 v4 v5 : Int) (o6 o7 : Option AV) (hp : HP) : Rr (Cd d) 230 184 [some (vA v0), some (vI v1), some (vI v2), some (vI v3), some (vI v4), some (vI v5), o6, o7] [] hp =
  Rr (Cd d) 230 12 [some (vA v0), some (vI v1), some (vI v2), some (vI v3), some (vI v4), some (vI (w32 (v5 + 1))), o6, o7] [] hp := (Rr_blk (Cd d) 230 [12, 58, 141, 166, 180, 183, 184] 192 184 _ _ hp).trans rfl
set_option maxRecDepth 100000 in
theorem c231 (d : Nat) (v0 v1 v2 v3 v4 : Int) (hp : HP) {n : Nat} (hg : gS hp v0 = some (12, n)) : Cd (d + 1) 231 [vA v0, vI v1, vI v2, vI v3, vI v4] hp =
  (gF hp 12 27 v0).bind fun x1 =>
  if x1 = (-1) then
    if v3 = v4 then
      Rr (Cd d) 231 10 [some (vA v0), some (vI v1), some (vI v2), some (vI v3), some (vI v4)] [vI 0] hp
    else
      Rr (Cd d) 231 10 [some (vA v0), some (vI v1), some (vI v2), some (vI v3), some (vI v4)] [vI 1] hp
  else
    (gF hp 12 2 v0).bind fun x2 =>
    (gF hp 12 27 v0).bind fun x3 =>
    (gA hp 0 x2 (w32 (800 * x3))).bind fun x4 =>
    if x4 = 0 then
      some ([vI 1], hp)
    else
      (gF hp 12 29 v0).bind fun x5 =>
      (pA hp 0 x5 0 v3).bind fun h6 =>
      (gF h6 12 29 v0).bind fun x7 =>
      (pA h6 0 x7 1 v4).bind fun h8 =>
      (gF h8 12 29 v0).bind fun x9 =>
      ((Cd d 225 [vA v0, vI v1, vI v2] h8).bind toI).bind fun q10 =>
      (pA q10.2 0 x9 2 q10.1).bind fun h11 =>
      (gF h11 12 29 v0).bind fun x12 =>
      ((Cd d 226 [vA v0, vI v1, vI v2] h11).bind toI).bind fun q13 =>
      (pA q13.2 0 x12 3 q13.1).bind fun h14 =>
      (gF h14 12 27 v0).bind fun x15 =>
      ((Cd d 230 [vA v0, vI x15] h14).bind toI).bind fun q16 =>
      if q16.1 = 0 ∨ q16.1 = 1 then some ([vI q16.1], q16.2) else none := (Cd_inst rfl rfl rfl hg).trans ((Rr_blk (Cd d) 231 [10] 53 0 _ [] hp).trans rfl)
set_option maxRecDepth 100000 in
theorem c231_10 (d : Nat) (s0 : Int) (o0 o1 o2 o3 o4 : Option AV) (hp : HP) : Rr (Cd d) 231 10 [o0, o1, o2, o3, o4] [vI s0] hp =
  if s0 = 0 ∨ s0 = 1 then some ([vI s0], hp) else none := (Rr_blk (Cd d) 231 [10] 53 10 _ _ hp).trans rfl
set_option maxRecDepth 100000 in
theorem c232 (d : Nat) (v0 v1 v2 v3 v4 : Int) (hp : HP) {n : Nat} (hg : gS hp v0 = some (12, n)) : Cd (d + 1) 232 [vA v0, vI v1, vI v2, vI v3, vI v4] hp =
  ((Cd d 225 [vA v0, vI v1, vI v2] hp).bind toI).bind fun q1 =>
  ((Cd d 181 [vA v0, vI v1, vI v3, vI q1.1] q1.2).bind toI).bind fun q2 =>
  ((Cd d 174 [vA v0, vI v4, vI q2.1] q2.2).bind toI).bind fun q3 =>
  ((Cd d 226 [vA v0, vI v1, vI v2] q3.2).bind toI).bind fun q4 =>
  ((Cd d 181 [vA v0, vI v1, vI v3, vI q4.1] q4.2).bind toI).bind fun q5 =>
  ((Cd d 174 [vA v0, vI v4, vI q5.1] q5.2).bind toI).bind fun q6 =>
  ((Cd d 231 [vA v0, vI v1, vI v2, vI q3.1, vI q6.1] q6.2).bind toI).bind fun q7 =>
  if q7.1 = 0 ∨ q7.1 = 1 then some ([vI q7.1], q7.2) else none := (Cd_inst rfl rfl rfl hg).trans ((Rr_blk (Cd d) 232 [] 28 0 _ [] hp).trans rfl)
set_option maxRecDepth 100000 in
theorem c233 (d : Nat) (v0 v1 v2 v3 v4 v5 : Int) (hp : HP) {n : Nat} (hg : gS hp v0 = some (12, n)) : Cd (d + 1) 233 [vA v0, vI v1, vI v2, vI v3, vI v4, vI v5] hp =
  ((Cd d 221 [vA v0, vI v1] hp).bind toI).bind fun q1 =>
  if q1.1 = 0 then
    Rr (Cd d) 233 8 [some (vA v0), some (vI v1), some (vI v2), some (vI v3), some (vI v4), some (vI v5)] [] q1.2
  else
    ((Cd d 173 [vA v0, vI v2] q1.2).bind toI).bind fun q2 =>
    if q2.1 = 0 then
      Rr (Cd d) 233 8 [some (vA v0), some (vI v1), some (vI v2), some (vI v3), some (vI v4), some (vI v5)] [] q2.2
    else
      ((Cd d 222 [vA v0, vI v1] q2.2).bind toV).bind fun q3 =>
      if v3 = (-1) then
        ((Cd d 224 [vA v0, vI v2] q3).bind toI).bind fun q9 =>
        some ([vI q9.1], q9.2)
      else
        ((Cd d 224 [vA v0, vI v2] q3).bind toI).bind fun q4 =>
        ((Cd d 172 [vI v3, vI 0, vI (w32 (q4.1 - 1))] q4.2).bind toI).bind fun q5 =>
        if q5.1 = 0 then
          Rr (Cd d) 233 39 [some (vA v0), some (vI v1), some (vI v2), some (vI v3), some (vI v4), some (vI v5)] [] q5.2
        else
          ((Cd d 172 [vI v4, vI 0, vI 2] q5.2).bind toI).bind fun q6 =>
          if q6.1 = 0 then
            Rr (Cd d) 233 39 [some (vA v0), some (vI v1), some (vI v2), some (vI v3), some (vI v4), some (vI v5)] [] q6.2
          else
            ((Cd d 172 [vI v5, vI 0, vI 2] q6.2).bind toI).bind fun q7 =>
            if q7.1 = 0 then
              Rr (Cd d) 233 39 [some (vA v0), some (vI v1), some (vI v2), some (vI v3), some (vI v4), some (vI v5)] [] q7.2
            else
              ((Cd d 231 [vA v0, vI v2, vI v3, vI v4, vI v5] q7.2).bind toI).bind fun q8 =>
              if q8.1 = 0 then
                Rr (Cd d) 233 51 [some (vA v0), some (vI v1), some (vI v2), some (vI v3), some (vI v4), some (vI v5)] [vI 0] q8.2
              else
                Rr (Cd d) 233 51 [some (vA v0), some (vI v1), some (vI v2), some (vI v3), some (vI v4), some (vI v5)] [vI 1] q8.2 := (Cd_inst rfl rfl rfl hg).trans ((Rr_blk (Cd d) 233 [8, 39, 51] 53 0 _ [] hp).trans rfl)
set_option maxRecDepth 100000 in
theorem c233_8 (d : Nat) (o0 o1 o2 o3 o4 o5 : Option AV) (hp : HP) : Rr (Cd d) 233 8 [o0, o1, o2, o3, o4, o5] [] hp =
  some ([vI ((-1))], hp) := (Rr_blk (Cd d) 233 [8, 39, 51] 53 8 _ _ hp).trans rfl
set_option maxRecDepth 100000 in
theorem c233_39 (d : Nat) (o0 o1 o2 o3 o4 o5 : Option AV) (hp : HP) : Rr (Cd d) 233 39 [o0, o1, o2, o3, o4, o5] [] hp =
  some ([vI ((-1))], hp) := (Rr_blk (Cd d) 233 [8, 39, 51] 53 39 _ _ hp).trans rfl
set_option maxRecDepth 100000 in
theorem c233_51 (d : Nat) (s0 : Int) (o0 o1 o2 o3 o4 o5 : Option AV) (hp : HP) : Rr (Cd d) 233 51 [o0, o1, o2, o3, o4, o5] [vI s0] hp =
  some ([vI s0], hp) := (Rr_blk (Cd d) 233 [8, 39, 51] 53 51 _ _ hp).trans rfl
set_option maxRecDepth 100000 in
theorem c234 (d : Nat) (v0 v1 : Int) (hp : HP) {n : Nat} (hg : gS hp v0 = some (12, n)) : Cd (d + 1) 234 [vA v0, vI v1] hp =
  ((Cd d 183 [vA v0, vI v1] hp).bind toV).bind fun q1 =>
  (pF q1 12 32 v0 ((-1))).bind fun h2 =>
  (pF h2 12 33 v0 ((-1))).bind fun h3 =>
  (pF h3 12 34 v0 ((-1))).bind fun h4 =>
  Rr (Cd d) 234 16 [some (vA v0), some (vI v1), some (vI 0), some (vI 0), none, none] [] h4 := (Cd_inst rfl rfl rfl hg).trans ((Rr_blk (Cd d) 234 [16, 22, 29, 62] 71 0 _ [] hp).trans rfl)
set_option maxRecDepth 100000 in
theorem c234_16 (d : Nat) (v0 v1 v2 v3 : Int) (o4 o5 : Option AV) (hp : HP) : Rr (Cd d) 234 16 [some (vA v0), some (vI v1), some (vI v2), some (vI v3), o4, o5] [] hp =
  (gF hp 12 6 v0).bind fun x1 =>
  if v3 < x1 then
    Rr (Cd d) 234 22 [some (vA v0), some (vI v1), some (vI v2), some (vI v3), some (vI 0), o5] [] hp
  else
    some ([vI v2], hp) := (Rr_blk (Cd d) 234 [16, 22, 29, 62] 71 16 _ _ hp).trans rfl
set_option maxRecDepth 100000 in
theorem c234_22 (d : Nat) (v0 v1 v2 v3 v4 : Int) (o5 : Option AV) (hp : HP) : Rr (Cd d) 234 22 [some (vA v0), some (vI v1), some (vI v2), some (vI v3), some (vI v4), o5] [] hp =
  ((Cd d 224 [vA v0, vI v1] hp).bind toI).bind fun q1 =>
  if v4 < q1.1 then
    Rr (Cd d) 234 29 [some (vA v0), some (vI v1), some (vI v2), some (vI v3), some (vI v4), some (vI 0)] [] q1.2
  else
    Rr (Cd d) 234 16 [some (vA v0), some (vI v1), some (vI v2), some (vI (w32 (v3 + 1))), some (vI v4), o5] [] q1.2 := (Rr_blk (Cd d) 234 [16, 22, 29, 62] 71 22 _ _ hp).trans rfl
set_option maxRecDepth 100000 in
theorem c234_29 (d : Nat) (v0 v1 v2 v3 v4 v5 : Int) (hp : HP) : Rr (Cd d) 234 29 [some (vA v0), some (vI v1), some (vI v2), some (vI v3), some (vI v4), some (vI v5)] [] hp =
  (gF hp 12 25 v0).bind fun x1 =>
  if v5 < x1 then
    (gF hp 12 5 v0).bind fun x2 =>
    (gA hp 0 x2 v3).bind fun x3 =>
    ((Cd d 223 [vA v0, vI v5] hp).bind toI).bind fun q4 =>
    ((Cd d 232 [vA v0, vI v1, vI v4, vI x3, vI q4.1] q4.2).bind toI).bind fun q5 =>
    if q5.1 = 0 then
      if 1 < w32 (v2 + 1) then
        Rr (Cd d) 234 62 [some (vA v0), some (vI v1), some (vI (w32 (v2 + 1))), some (vI v3), some (vI v4), some (vI v5)] [] q5.2
      else
        (pF q5.2 12 32 v0 v3).bind fun h6 =>
        (pF h6 12 33 v0 v4).bind fun h7 =>
        ((Cd d 223 [vA v0, vI v5] h7).bind toI).bind fun q8 =>
        (pF q8.2 12 34 v0 q8.1).bind fun h9 =>
        Rr (Cd d) 234 62 [some (vA v0), some (vI v1), some (vI (w32 (v2 + 1))), some (vI v3), some (vI v4), some (vI v5)] [] h9
    else
      Rr (Cd d) 234 62 [some (vA v0), some (vI v1), some (vI v2), some (vI v3), some (vI v4), some (vI v5)] [] q5.2
  else
    Rr (Cd d) 234 22 [some (vA v0), some (vI v1), some (vI v2), some (vI v3), some (vI (w32 (v4 + 1))), some (vI v5)] [] hp := (Rr_blk (Cd d) 234 [16, 22, 29, 62] 71 29 _ _ hp).trans rfl
set_option maxRecDepth 100000 in
theorem c234_62 (d : Nat) (v0 v1 v2 v3 v4 v5 : Int) (hp : HP) : Rr (Cd d) 234 62 [some (vA v0), some (vI v1), some (vI v2), some (vI v3), some (vI v4), some (vI v5)] [] hp =
  Rr (Cd d) 234 29 [some (vA v0), some (vI v1), some (vI v2), some (vI v3), some (vI v4), some (vI (w32 (v5 + 1)))] [] hp := (Rr_blk (Cd d) 234 [16, 22, 29, 62] 71 62 _ _ hp).trans rfl
set_option maxRecDepth 100000 in
theorem c235 (d : Nat) (v0 v1 v2 v3 : Int) (hp : HP) {n : Nat} (hg : gS hp v0 = some (12, n)) : Cd (d + 1) 235 [vA v0, vI v1, vI v2, vI v3] hp =
  ((Cd d 221 [vA v0, vI v1] hp).bind toI).bind fun q1 =>
  if q1.1 = 0 then
    Rr (Cd d) 235 13 [some (vA v0), some (vI v1), some (vI v2), some (vI v3), none] [] q1.2
  else
    ((Cd d 173 [vA v0, vI v2] q1.2).bind toI).bind fun q2 =>
    if q2.1 = 0 then
      Rr (Cd d) 235 13 [some (vA v0), some (vI v1), some (vI v2), some (vI v3), none] [] q2.2
    else
      ((Cd d 172 [vI v3, vI 0, vI 3] q2.2).bind toI).bind fun q3 =>
      if q3.1 = 0 then
        Rr (Cd d) 235 13 [some (vA v0), some (vI v1), some (vI v2), some (vI v3), none] [] q3.2
      else
        ((Cd d 222 [vA v0, vI v1] q3.2).bind toV).bind fun q4 =>
        ((Cd d 234 [vA v0, vI v2] q4).bind toI).bind fun q5 =>
        if v3 = 0 then
          Rr (Cd d) 235 40 [some (vA v0), some (vI v1), some (vI v2), some (vI v3), some (vI q5.1)] [vI q5.1] q5.2
        else
          if v3 = 1 then
            (gF q5.2 12 32 v0).bind fun x8 =>
            Rr (Cd d) 235 40 [some (vA v0), some (vI v1), some (vI v2), some (vI v3), some (vI q5.1)] [vI x8] q5.2
          else
            if v3 = 2 then
              (gF q5.2 12 33 v0).bind fun x7 =>
              Rr (Cd d) 235 40 [some (vA v0), some (vI v1), some (vI v2), some (vI v3), some (vI q5.1)] [vI x7] q5.2
            else
              (gF q5.2 12 34 v0).bind fun x6 =>
              Rr (Cd d) 235 40 [some (vA v0), some (vI v1), some (vI v2), some (vI v3), some (vI q5.1)] [vI x6] q5.2 := (Cd_inst rfl rfl rfl hg).trans ((Rr_blk (Cd d) 235 [13, 40] 42 0 _ [] hp).trans rfl)
set_option maxRecDepth 100000 in
theorem c235_13 (d : Nat) (o0 o1 o2 o3 o4 : Option AV) (hp : HP) : Rr (Cd d) 235 13 [o0, o1, o2, o3, o4] [] hp =
  some ([vI ((-1))], hp) := (Rr_blk (Cd d) 235 [13, 40] 42 13 _ _ hp).trans rfl
set_option maxRecDepth 100000 in
theorem c235_40 (d : Nat) (s0 : Int) (o0 o1 o2 o3 o4 : Option AV) (hp : HP) : Rr (Cd d) 235 40 [o0, o1, o2, o3, o4] [vI s0] hp =
  some ([vI s0], hp) := (Rr_blk (Cd d) 235 [13, 40] 42 40 _ _ hp).trans rfl
set_option maxRecDepth 100000 in
theorem c236 (d : Nat) (v0 v1 : Int) (hp : HP) {n : Nat} (hg : gS hp v0 = some (12, n)) : Cd (d + 1) 236 [vA v0, vI v1] hp =
  (pF hp 12 36 v0 ((-1))).bind fun h1 =>
  Rr (Cd d) 236 5 [some (vA v0), some (vI v1), some (vI 0), none, none] [] h1 := (Cd_inst rfl rfl rfl hg).trans ((Rr_blk (Cd d) 236 [5, 14, 30, 45] 49 0 _ [] hp).trans rfl)
set_option maxRecDepth 100000 in
theorem c236_5 (d : Nat) (v0 v1 v2 : Int) (o3 o4 : Option AV) (hp : HP) : Rr (Cd d) 236 5 [some (vA v0), some (vI v1), some (vI v2), o3, o4] [] hp =
  ((Cd d 180 [vA v0, vI v1] hp).bind toI).bind fun q1 =>
  if v2 < q1.1 then
    Rr (Cd d) 236 14 [some (vA v0), some (vI v1), some (vI v2), some (vI 0), some (vI 0)] [] q1.2
  else
    some ([], q1.2) := (Rr_blk (Cd d) 236 [5, 14, 30, 45] 49 5 _ _ hp).trans rfl
set_option maxRecDepth 100000 in
theorem c236_14 (d : Nat) (v0 v1 v2 v3 v4 : Int) (hp : HP) : Rr (Cd d) 236 14 [some (vA v0), some (vI v1), some (vI v2), some (vI v3), some (vI v4)] [] hp =
  ((Cd d 224 [vA v0, vI v1] hp).bind toI).bind fun q1 =>
  if v4 < q1.1 then
    ((Cd d 232 [vA v0, vI v1, vI v4, vI v2, vI 0] q1.2).bind toI).bind fun q5 =>
    if q5.1 = 0 then
      Rr (Cd d) 236 30 [some (vA v0), some (vI v1), some (vI v2), some (vI v3), some (vI v4)] [vI 0, vI v3] q5.2
    else
      Rr (Cd d) 236 30 [some (vA v0), some (vI v1), some (vI v2), some (vI v3), some (vI v4)] [vI 1, vI v3] q5.2
  else
    (gF q1.2 12 36 v0).bind fun x2 =>
    if x2 < v3 then
      (pF q1.2 12 36 v0 v3).bind fun h3 =>
      (pF h3 12 35 v0 v2).bind fun h4 =>
      Rr (Cd d) 236 45 [some (vA v0), some (vI v1), some (vI v2), some (vI v3), some (vI v4)] [] h4
    else
      Rr (Cd d) 236 45 [some (vA v0), some (vI v1), some (vI v2), some (vI v3), some (vI v4)] [] q1.2 := (Rr_blk (Cd d) 236 [5, 14, 30, 45] 49 14 _ _ hp).trans rfl
set_option maxRecDepth 100000 in
theorem c236_30 (d : Nat) (v0 v1 v2 v4 s0 s1 : Int) (o3 : Option AV) (hp : HP) : Rr (Cd d) 236 30 [some (vA v0), some (vI v1), some (vI v2), o3, some (vI v4)] [vI s1, vI s0] hp =
  Rr (Cd d) 236 14 [some (vA v0), some (vI v1), some (vI v2), some (vI (w32 (s0 + s1))), some (vI (w32 (v4 + 1)))] [] hp := (Rr_blk (Cd d) 236 [5, 14, 30, 45] 49 30 _ _ hp).trans rfl
set_option maxRecDepth 100000 in
theorem c236_45 (d : Nat) (v0 v1 v2 : Int) (o3 o4 : Option AV) (hp : HP) : Rr (Cd d) 236 45 [some (vA v0), some (vI v1), some (vI v2), o3, o4] [] hp =
  Rr (Cd d) 236 5 [some (vA v0), some (vI v1), some (vI (w32 (v2 + 1))), o3, o4] [] hp := (Rr_blk (Cd d) 236 [5, 14, 30, 45] 49 45 _ _ hp).trans rfl
set_option maxRecDepth 100000 in
theorem c237 (d : Nat) (v0 v1 v2 v3 : Int) (hp : HP) {n : Nat} (hg : gS hp v0 = some (12, n)) : Cd (d + 1) 237 [vA v0, vI v1, vI v2, vI v3] hp =
  ((Cd d 221 [vA v0, vI v1] hp).bind toI).bind fun q1 =>
  if q1.1 = 0 then
    Rr (Cd d) 237 13 [some (vA v0), some (vI v1), some (vI v2), some (vI v3)] [] q1.2
  else
    ((Cd d 173 [vA v0, vI v2] q1.2).bind toI).bind fun q2 =>
    if q2.1 = 0 then
      Rr (Cd d) 237 13 [some (vA v0), some (vI v1), some (vI v2), some (vI v3)] [] q2.2
    else
      ((Cd d 172 [vI v3, vI 0, vI 2] q2.2).bind toI).bind fun q3 =>
      if q3.1 = 0 then
        Rr (Cd d) 237 13 [some (vA v0), some (vI v1), some (vI v2), some (vI v3)] [] q3.2
      else
        ((Cd d 222 [vA v0, vI v1] q3.2).bind toV).bind fun q4 =>
        ((Cd d 224 [vA v0, vI v2] q4).bind toI).bind fun q5 =>
        if q5.1 = 0 then
          some ([vI ((-1))], q5.2)
        else
          ((Cd d 236 [vA v0, vI v2] q5.2).bind toV).bind fun q6 =>
          if v3 = 0 then
            (gF q6 12 36 v0).bind fun x9 =>
            Rr (Cd d) 237 41 [some (vA v0), some (vI v1), some (vI v2), some (vI v3)] [vI x9] q6
          else
            if v3 = 1 then
              ((Cd d 224 [vA v0, vI v2] q6).bind toI).bind fun q8 =>
              Rr (Cd d) 237 41 [some (vA v0), some (vI v1), some (vI v2), some (vI v3)] [vI q8.1] q8.2
            else
              (gF q6 12 35 v0).bind fun x7 =>
              Rr (Cd d) 237 41 [some (vA v0), some (vI v1), some (vI v2), some (vI v3)] [vI x7] q6 := (Cd_inst rfl rfl rfl hg).trans ((Rr_blk (Cd d) 237 [13, 41] 43 0 _ [] hp).trans rfl)
set_option maxRecDepth 100000 in
theorem c237_13 (d : Nat) (o0 o1 o2 o3 : Option AV) (hp : HP) : Rr (Cd d) 237 13 [o0, o1, o2, o3] [] hp =
  some ([vI ((-1))], hp) := (Rr_blk (Cd d) 237 [13, 41] 43 13 _ _ hp).trans rfl
set_option maxRecDepth 100000 in
theorem c237_41 (d : Nat) (s0 : Int) (o0 o1 o2 o3 : Option AV) (hp : HP) : Rr (Cd d) 237 41 [o0, o1, o2, o3] [vI s0] hp =
  some ([vI s0], hp) := (Rr_blk (Cd d) 237 [13, 41] 43 41 _ _ hp).trans rfl
set_option maxRecDepth 100000 in
theorem c238 (d : Nat) (v0 v1 : Int) (hp : HP) : Cd (d + 1) 238 [vA v0, vI v1] hp =
  Rr (Cd d) 238 4 [some (vA v0), some (vI v1), some (vL 0), none, some (vI 0), none, none] [] hp := (Rr_blk (Cd d) 238 [4] 32 0 _ [] hp).trans rfl
set_option maxRecDepth 100000 in
theorem c238_4 (d : Nat) (v0 v1 v2 v4 : Int) (o3 o5 o6 : Option AV) (hp : HP) : Rr (Cd d) 238 4 [some (vA v0), some (vI v1), some (vL v2), o3, some (vI v4), o5, o6] [] hp =
  if v4 < 200 then
    (gA hp 0 v0 v4).bind fun x1 =>
    (pA hp 0 v0 v4 (w32 (llrem (w64 (w64 (x1 * v1) + v2)) 10000))).bind fun h2 =>
    Rr (Cd d) 238 4 [some (vA v0), some (vI v1), some (vL (lldiv (w64 (w64 (x1 * v1) + v2)) 10000)), none, some (vI (w32 (v4 + 1))), some (vL (w64 (w64 (x1 * v1) + v2))), none] [] h2
  else
    some ([], hp) := (Rr_blk (Cd d) 238 [4] 32 4 _ _ hp).trans rfl
set_option maxRecDepth 100000 in
theorem c239 (d : Nat) (v0 : Int) (hp : HP) {n : Nat} (hg : gS hp v0 = some (12, n)) : Cd (d + 1) 239 [vA v0] hp =
  Rr (Cd d) 239 2 [some (vA v0), some (vI 199)] [] hp := (Cd_inst rfl rfl rfl hg).trans ((Rr_blk (Cd d) 239 [2, 25] 31 0 _ [] hp).trans rfl)
set_option maxRecDepth 100000 in
theorem c239_2 (d : Nat) (v0 v1 : Int) (hp : HP) : Rr (Cd d) 239 2 [some (vA v0), some (vI v1)] [] hp =
  if v1 < 0 then
    some ([vI 0], hp)
  else
    (gF hp 12 37 v0).bind fun x1 =>
    (gA hp 0 x1 v1).bind fun x2 =>
    (gF hp 12 38 v0).bind fun x3 =>
    (gA hp 0 x3 v1).bind fun x4 =>
    if x2 = x4 then
      Rr (Cd d) 239 2 [some (vA v0), some (vI (w32 (v1 + (-1))))] [] hp
    else
      (gF hp 12 37 v0).bind fun x5 =>
      (gA hp 0 x5 v1).bind fun x6 =>
      (gF hp 12 38 v0).bind fun x7 =>
      (gA hp 0 x7 v1).bind fun x8 =>
      if x8 < x6 then
        Rr (Cd d) 239 25 [some (vA v0), some (vI v1)] [vI 1] hp
      else
        Rr (Cd d) 239 25 [some (vA v0), some (vI v1)] [vI 0] hp := (Rr_blk (Cd d) 239 [2, 25] 31 2 _ _ hp).trans rfl
set_option maxRecDepth 100000 in
theorem c239_25 (d : Nat) (s0 : Int) (o0 o1 : Option AV) (hp : HP) : Rr (Cd d) 239 25 [o0, o1] [vI s0] hp =
  if s0 = 0 ∨ s0 = 1 then some ([vI s0], hp) else none := (Rr_blk (Cd d) 239 [2, 25] 31 25 _ _ hp).trans rfl
set_option maxRecDepth 100000 in
theorem c240 (d : Nat) (v0 v1 v2 v3 : Int) (hp : HP) {n : Nat} (hg : gS hp v0 = some (12, n)) : Cd (d + 1) 240 [vA v0, vI v1, vI v2, vI v3] hp =
  ((Cd d 221 [vA v0, vI v1] hp).bind toI).bind fun q1 =>
  if q1.1 = 0 then
    Rr (Cd d) 240 13 [some (vA v0), some (vI v1), some (vI v2), some (vI v3), none] [] q1.2
  else
    ((Cd d 173 [vA v0, vI v2] q1.2).bind toI).bind fun q2 =>
    if q2.1 = 0 then
      Rr (Cd d) 240 13 [some (vA v0), some (vI v1), some (vI v2), some (vI v3), none] [] q2.2
    else
      ((Cd d 172 [vI v3, vI 2, vI 1000000000] q2.2).bind toI).bind fun q3 =>
      if q3.1 = 0 then
        Rr (Cd d) 240 13 [some (vA v0), some (vI v1), some (vI v2), some (vI v3), none] [] q3.2
      else
        ((Cd d 222 [vA v0, vI v1] q3.2).bind toV).bind fun q4 =>
        ((Cd d 224 [vA v0, vI v2] q4).bind toI).bind fun q5 =>
        if q5.1 = 0 then
          some ([vI ((-1))], q5.2)
        else
          ((Cd d 236 [vA v0, vI v2] q5.2).bind toV).bind fun q6 =>
          (gF q6 12 36 v0).bind fun x7 =>
          ((Cd d 224 [vA v0, vI v2] q6).bind toI).bind fun q8 =>
          if x7 = q8.1 then
            some ([vI ((-1))], q8.2)
          else
            Rr (Cd d) 240 37 [some (vA v0), some (vI v1), some (vI v2), some (vI v3), some (vI 0)] [] q8.2 := (Cd_inst rfl rfl rfl hg).trans ((Rr_blk (Cd d) 240 [13, 37, 48, 57, 66] 85 0 _ [] hp).trans rfl)
set_option maxRecDepth 100000 in
theorem c240_13 (d : Nat) (o0 o1 o2 o3 o4 : Option AV) (hp : HP) : Rr (Cd d) 240 13 [o0, o1, o2, o3, o4] [] hp =
  some ([vI ((-1))], hp) := (Rr_blk (Cd d) 240 [13, 37, 48, 57, 66] 85 13 _ _ hp).trans rfl
set_option maxRecDepth 100000 in
theorem c240_37 (d : Nat) (v0 v2 v3 v4 : Int) (o1 : Option AV) (hp : HP) : Rr (Cd d) 240 37 [some (vA v0), o1, some (vI v2), some (vI v3), some (vI v4)] [] hp =
  if v4 < 200 then
    (gF hp 12 37 v0).bind fun x3 =>
    if v4 = 0 then
      Rr (Cd d) 240 48 [some (vA v0), o1, some (vI v2), some (vI v3), some (vI v4)] [vI 1, vI v4, vA x3] hp
    else
      Rr (Cd d) 240 48 [some (vA v0), o1, some (vI v2), some (vI v3), some (vI v4)] [vI 0, vI v4, vA x3] hp
  else
    (gF hp 12 37 v0).bind fun x1 =>
    ((Cd d 238 [vA x1, vI v3] hp).bind toV).bind fun q2 =>
    Rr (Cd d) 240 66 [some (vA v0), o1, some (vI v2), some (vI v3), some (vI 0)] [] q2 := (Rr_blk (Cd d) 240 [13, 37, 48, 57, 66] 85 37 _ _ hp).trans rfl
set_option maxRecDepth 100000 in
theorem c240_48 (d : Nat) (v0 v2 v3 v4 s0 s1 s2 : Int) (o1 : Option AV) (hp : HP) : Rr (Cd d) 240 48 [some (vA v0), o1, some (vI v2), some (vI v3), some (vI v4)] [vI s2, vI s1, vA s0] hp =
  (pA hp 0 s0 s1 s2).bind fun h1 =>
  (gF h1 12 38 v0).bind fun x2 =>
  if v4 = 0 then
    Rr (Cd d) 240 57 [some (vA v0), o1, some (vI v2), some (vI v3), some (vI v4)] [vI 1, vI v4, vA x2] h1
  else
    Rr (Cd d) 240 57 [some (vA v0), o1, some (vI v2), some (vI v3), some (vI v4)] [vI 0, vI v4, vA x2] h1 := (Rr_blk (Cd d) 240 [13, 37, 48, 57, 66] 85 48 _ _ hp).trans rfl
set_option maxRecDepth 100000 in
theorem c240_57 (d : Nat) (v0 v2 v3 v4 s0 s1 s2 : Int) (o1 : Option AV) (hp : HP) : Rr (Cd d) 240 57 [some (vA v0), o1, some (vI v2), some (vI v3), some (vI v4)] [vI s2, vI s1, vA s0] hp =
  (pA hp 0 s0 s1 s2).bind fun h1 =>
  Rr (Cd d) 240 37 [some (vA v0), o1, some (vI v2), some (vI v3), some (vI (w32 (v4 + 1)))] [] h1 := (Rr_blk (Cd d) 240 [13, 37, 48, 57, 66] 85 57 _ _ hp).trans rfl
set_option maxRecDepth 100000 in
theorem c240_66 (d : Nat) (v0 v2 v4 : Int) (o1 o3 : Option AV) (hp : HP) : Rr (Cd d) 240 66 [some (vA v0), o1, some (vI v2), o3, some (vI v4)] [] hp =
  ((Cd d 239 [vA v0] hp).bind toI).bind fun q1 =>
  if q1.1 = 0 then
    some ([vI v4], q1.2)
  else
    (gF q1.2 12 37 v0).bind fun x2 =>
    (gF q1.2 12 36 v0).bind fun x3 =>
    ((Cd d 238 [vA x2, vI x3] q1.2).bind toV).bind fun q4 =>
    (gF q4 12 38 v0).bind fun x5 =>
    ((Cd d 224 [vA v0, vI v2] q4).bind toI).bind fun q6 =>
    ((Cd d 238 [vA x5, vI q6.1] q6.2).bind toV).bind fun q7 =>
    Rr (Cd d) 240 66 [some (vA v0), o1, some (vI v2), o3, some (vI (w32 (v4 + 1)))] [] q7 := (Rr_blk (Cd d) 240 [13, 37, 48, 57, 66] 85 66 _ _ hp).trans rfl
set_option maxRecDepth 100000 in
theorem c241 (d : Nat) (v0 v1 v2 v3 v4 : Int) (hp : HP) {n : Nat} (hg : gS hp v0 = some (12, n)) : Cd (d + 1) 241 [vA v0, vI v1, vI v2, vI v3, vI v4] hp =
  ((Cd d 225 [vA v0, vI v1, vI v2] hp).bind toI).bind fun q1 =>
  ((Cd d 181 [vA v0, vI v1, vI v3, vI q1.1] q1.2).bind toI).bind fun q2 =>
  ((Cd d 174 [vA v0, vI v4, vI q2.1] q2.2).bind toI).bind fun q3 =>
  ((Cd d 226 [vA v0, vI v1, vI v2] q3.2).bind toI).bind fun q4 =>
  ((Cd d 181 [vA v0, vI v1, vI v3, vI q4.1] q4.2).bind toI).bind fun q5 =>
  ((Cd d 174 [vA v0, vI v4, vI q5.1] q5.2).bind toI).bind fun q6 =>
  some ([vI (w32 (w32 (3 * q3.1) + q6.1))], q6.2) := (Cd_inst rfl rfl rfl hg).trans ((Rr_blk (Cd d) 241 [] 27 0 _ [] hp).trans rfl)
set_option maxRecDepth 100000 in
theorem c242 (d : Nat) (v0 v1 v2 v3 v4 v5 : Int) (hp : HP) {n : Nat} (hg : gS hp v0 = some (12, n)) : Cd (d + 1) 242 [vA v0, vI v1, vI v2, vI v3, vI v4, vA v5] hp =
  Rr (Cd d) 242 2 [some (vA v0), some (vI v1), some (vI v2), some (vI v3), some (vI v4), some (vA v5), some (vI 0), none, none] [] hp := (Cd_inst rfl rfl rfl hg).trans ((Rr_blk (Cd d) 242 [2, 13, 36, 38, 51, 69, 71] 75 0 _ [] hp).trans rfl)
set_option maxRecDepth 100000 in
theorem c242_2 (d : Nat) (v0 v1 v2 v3 v4 v5 v6 : Int) (o7 o8 : Option AV) (hp : HP) : Rr (Cd d) 242 2 [some (vA v0), some (vI v1), some (vI v2), some (vI v3), some (vI v4), some (vA v5), some (vI v6), o7, o8] [] hp =
  if v6 < 81 then
    (pA hp 0 v5 v6 0).bind fun h1 =>
    Rr (Cd d) 242 2 [some (vA v0), some (vI v1), some (vI v2), some (vI v3), some (vI v4), some (vA v5), some (vI (w32 (v6 + 1))), o7, o8] [] h1
  else
    Rr (Cd d) 242 13 [some (vA v0), some (vI v1), some (vI v2), some (vI v3), some (vI v4), some (vA v5), some (vI 0), o7, o8] [] hp := (Rr_blk (Cd d) 242 [2, 13, 36, 38, 51, 69, 71] 75 2 _ _ hp).trans rfl
set_option maxRecDepth 100000 in
theorem c242_13 (d : Nat) (v0 v1 v2 v3 v4 v5 v6 : Int) (o7 o8 : Option AV) (hp : HP) : Rr (Cd d) 242 13 [some (vA v0), some (vI v1), some (vI v2), some (vI v3), some (vI v4), some (vA v5), some (vI v6), o7, o8] [] hp =
  (gF hp 12 25 v0).bind fun x1 =>
  if v6 < x1 then
    ((Cd d 223 [vA v0, vI v6] hp).bind toI).bind fun q2 =>
    ((Cd d 241 [vA v0, vI v1, vI v2, vI v4, vI q2.1] q2.2).bind toI).bind fun q3 =>
    if v3 = (-1) then
      (gA q3.2 0 v5 q3.1).bind fun x4 =>
      (pA q3.2 0 v5 q3.1 (w32 (x4 + 1))).bind fun h5 =>
      Rr (Cd d) 242 36 [some (vA v0), some (vI v1), some (vI v2), some (vI v3), some (vI v4), some (vA v5), some (vI v6), some (vI q3.1), o8] [] h5
    else
      Rr (Cd d) 242 36 [some (vA v0), some (vI v1), some (vI v2), some (vI v3), some (vI v4), some (vA v5), some (vI v6), some (vI q3.1), o8] [] q3.2
  else
    some ([], hp) := (Rr_blk (Cd d) 242 [2, 13, 36, 38, 51, 69, 71] 75 13 _ _ hp).trans rfl
set_option maxRecDepth 100000 in
theorem c242_36 (d : Nat) (v0 v1 v2 v3 v4 v5 v6 v7 : Int) (o8 : Option AV) (hp : HP) : Rr (Cd d) 242 36 [some (vA v0), some (vI v1), some (vI v2), some (vI v3), some (vI v4), some (vA v5), some (vI v6), some (vI v7), o8] [] hp =
  Rr (Cd d) 242 38 [some (vA v0), some (vI v1), some (vI v2), some (vI v3), some (vI v4), some (vA v5), some (vI v6), some (vI v7), some (vI 0)] [] hp := (Rr_blk (Cd d) 242 [2, 13, 36, 38, 51, 69, 71] 75 36 _ _ hp).trans rfl
set_option maxRecDepth 100000 in
theorem c242_38 (d : Nat) (v0 v1 v2 v3 v4 v5 v6 v7 v8 : Int) (hp : HP) : Rr (Cd d) 242 38 [some (vA v0), some (vI v1), some (vI v2), some (vI v3), some (vI v4), some (vA v5), some (vI v6), some (vI v7), some (vI v8)] [] hp =
  (gF hp 12 25 v0).bind fun x1 =>
  if v8 < x1 then
    if v3 = (-1) then
      Rr (Cd d) 242 71 [some (vA v0), some (vI v1), some (vI v2), some (vI v3), some (vI v4), some (vA v5), some (vI v6), some (vI v7), some (vI v8)] [] hp
    else
      (gF hp 12 28 v0).bind fun x2 =>
      if x2 = 0 then
        Rr (Cd d) 242 51 [some (vA v0), some (vI v1), some (vI v2), some (vI v3), some (vI v4), some (vA v5), some (vI v6), some (vI v7), some (vI v8)] [] hp
      else
        if v8 = v6 then
          Rr (Cd d) 242 51 [some (vA v0), some (vI v1), some (vI v2), some (vI v3), some (vI v4), some (vA v5), some (vI v6), some (vI v7), some (vI v8)] [] hp
        else
          Rr (Cd d) 242 69 [some (vA v0), some (vI v1), some (vI v2), some (vI v3), some (vI v4), some (vA v5), some (vI v6), some (vI v7), some (vI v8)] [] hp
  else
    Rr (Cd d) 242 71 [some (vA v0), some (vI v1), some (vI v2), some (vI v3), some (vI v4), some (vA v5), some (vI v6), some (vI v7), some (vI v8)] [] hp := (Rr_blk (Cd d) 242 [2, 13, 36, 38, 51, 69, 71] 75 38 _ _ hp).trans rfl
set_option maxRecDepth 100000 in
theorem c242_51 (d : Nat) (v0 v1 v2 v3 v4 v5 v6 v7 v8 : Int) (hp : HP) : Rr (Cd d) 242 51 [some (vA v0), some (vI v1), some (vI v2), some (vI v3), some (vI v4), some (vA v5), some (vI v6), some (vI v7), some (vI v8)] [] hp =
  ((Cd d 223 [vA v0, vI v8] hp).bind toI).bind fun q1 =>
  ((Cd d 241 [vA v0, vI v1, vI v3, vI v4, vI q1.1] q1.2).bind toI).bind fun q2 =>
  (gA q2.2 0 v5 (w32 (w32 (9 * v7) + q2.1))).bind fun x3 =>
  (pA q2.2 0 v5 (w32 (w32 (9 * v7) + q2.1)) (w32 (x3 + 1))).bind fun h4 =>
  Rr (Cd d) 242 69 [some (vA v0), some (vI v1), some (vI v2), some (vI v3), some (vI v4), some (vA v5), some (vI v6), some (vI v7), some (vI v8)] [] h4 := (Rr_blk (Cd d) 242 [2, 13, 36, 38, 51, 69, 71] 75 51 _ _ hp).trans rfl
set_option maxRecDepth 100000 in
theorem c242_69 (d : Nat) (v0 v1 v2 v3 v4 v5 v6 v7 v8 : Int) (hp : HP) : Rr (Cd d) 242 69 [some (vA v0), some (vI v1), some (vI v2), some (vI v3), some (vI v4), some (vA v5), some (vI v6), some (vI v7), some (vI v8)] [] hp =
  Rr (Cd d) 242 38 [some (vA v0), some (vI v1), some (vI v2), some (vI v3), some (vI v4), some (vA v5), some (vI v6), some (vI v7), some (vI (w32 (v8 + 1)))] [] hp := (Rr_blk (Cd d) 242 [2, 13, 36, 38, 51, 69, 71] 75 69 _ _ hp).trans rfl
set_option maxRecDepth 100000 in
theorem c242_71 (d : Nat) (v0 v1 v2 v3 v4 v5 v6 : Int) (o7 o8 : Option AV) (hp : HP) : Rr (Cd d) 242 71 [some (vA v0), some (vI v1), some (vI v2), some (vI v3), some (vI v4), some (vA v5), some (vI v6), o7, o8] [] hp =
  Rr (Cd d) 242 13 [some (vA v0), some (vI v1), some (vI v2), some (vI v3), some (vI v4), some (vA v5), some (vI (w32 (v6 + 1))), o7, o8] [] hp := (Rr_blk (Cd d) 242 [2, 13, 36, 38, 51, 69, 71] 75 71 _ _ hp).trans rfl
set_option maxRecDepth 100000 in
theorem c243 (d : Nat) (v0 v1 v2 v3 v4 : Int) (hp : HP) {n : Nat} (hg : gS hp v0 = some (12, n)) : Cd (d + 1) 243 [vA v0, vI v1, vI v2, vI v3, vI v4] hp =
  (gF hp 12 5 v0).bind fun x1 =>
  (gA hp 0 x1 v4).bind fun x2 =>
  (gF hp 12 40 v0).bind fun x3 =>
  ((Cd d 242 [vA v0, vI v1, vI v2, vI v3, vI x2, vA x3] hp).bind toV).bind fun q4 =>
  Rr (Cd d) 243 13 [some (vA v0), some (vI v1), some (vI v2), some (vI v3), some (vI v4), some (vI 0)] [] q4 := (Cd_inst rfl rfl rfl hg).trans ((Rr_blk (Cd d) 243 [13] 32 0 _ [] hp).trans rfl)
set_option maxRecDepth 100000 in
theorem c243_13 (d : Nat) (v0 v5 : Int) (o1 o2 o3 o4 : Option AV) (hp : HP) : Rr (Cd d) 243 13 [some (vA v0), o1, o2, o3, o4, some (vI v5)] [] hp =
  if v5 < 81 then
    (gF hp 12 39 v0).bind fun x1 =>
    (gA hp 0 x1 v5).bind fun x2 =>
    (gF hp 12 40 v0).bind fun x3 =>
    (gA hp 0 x3 v5).bind fun x4 =>
    if x2 = x4 then
      Rr (Cd d) 243 13 [some (vA v0), o1, o2, o3, o4, some (vI (w32 (v5 + 1)))] [] hp
    else
      some ([vI 1], hp)
  else
    some ([vI 0], hp) := (Rr_blk (Cd d) 243 [13] 32 13 _ _ hp).trans rfl
set_option maxRecDepth 100000 in
theorem c244 (d : Nat) (v0 v1 v2 v3 : Int) (hp : HP) {n : Nat} (hg : gS hp v0 = some (12, n)) : Cd (d + 1) 244 [vA v0, vI v1, vI v2, vI v3] hp =
  (gF hp 12 6 v0).bind fun x1 =>
  if 0 < x1 then
    (gF hp 12 5 v0).bind fun x2 =>
    (gA hp 0 x2 0).bind fun x3 =>
    (gF hp 12 39 v0).bind fun x4 =>
    ((Cd d 242 [vA v0, vI v1, vI v2, vI v3, vI x3, vA x4] hp).bind toV).bind fun q5 =>
    Rr (Cd d) 244 14 [some (vA v0), some (vI v1), some (vI v2), some (vI v3), none] [] q5
  else
    Rr (Cd d) 244 14 [some (vA v0), some (vI v1), some (vI v2), some (vI v3), none] [] hp := (Cd_inst rfl rfl rfl hg).trans ((Rr_blk (Cd d) 244 [14, 16] 44 0 _ [] hp).trans rfl)
set_option maxRecDepth 100000 in
theorem c244_14 (d : Nat) (v0 v1 v2 v3 : Int) (o4 : Option AV) (hp : HP) : Rr (Cd d) 244 14 [some (vA v0), some (vI v1), some (vI v2), some (vI v3), o4] [] hp =
  Rr (Cd d) 244 16 [some (vA v0), some (vI v1), some (vI v2), some (vI v3), some (vI 1)] [] hp := (Rr_blk (Cd d) 244 [14, 16] 44 14 _ _ hp).trans rfl
set_option maxRecDepth 100000 in
theorem c244_16 (d : Nat) (v0 v1 v2 v3 v4 : Int) (hp : HP) : Rr (Cd d) 244 16 [some (vA v0), some (vI v1), some (vI v2), some (vI v3), some (vI v4)] [] hp =
  (gF hp 12 6 v0).bind fun x1 =>
  if v4 < x1 then
    ((Cd d 243 [vA v0, vI v1, vI v2, vI v3, vI v4] hp).bind toI).bind fun q2 =>
    if q2.1 = 0 then
      Rr (Cd d) 244 16 [some (vA v0), some (vI v1), some (vI v2), some (vI v3), some (vI (w32 (v4 + 1)))] [] q2.2
    else
      (pF q2.2 12 41 v0 v2).bind fun h3 =>
      (pF h3 12 42 v0 v3).bind fun h4 =>
      (pF h4 12 43 v0 v4).bind fun h5 =>
      some ([vI 1], h5)
  else
    some ([vI 0], hp) := (Rr_blk (Cd d) 244 [14, 16] 44 16 _ _ hp).trans rfl
set_option maxRecDepth 100000 in
theorem c245 (d : Nat) (v0 v1 v2 : Int) (hp : HP) {n : Nat} (hg : gS hp v0 = some (12, n)) : Cd (d + 1) 245 [vA v0, vI v1, vI v2] hp =
  (pF hp 12 41 v0 ((-1))).bind fun h1 =>
  (pF h1 12 42 v0 ((-1))).bind fun h2 =>
  (pF h2 12 43 v0 ((-1))).bind fun h3 =>
  ((Cd d 224 [vA v0, vI v1] h3).bind toI).bind fun q4 =>
  Rr (Cd d) 245 15 [some (vA v0), some (vI v1), some (vI v2), some (vI q4.1), some (vI 0), none] [] q4.2 := (Cd_inst rfl rfl rfl hg).trans ((Rr_blk (Cd d) 245 [15, 29, 31, 47] 52 0 _ [] hp).trans rfl)
set_option maxRecDepth 100000 in
theorem c245_15 (d : Nat) (v0 v1 v2 v3 v4 : Int) (o5 : Option AV) (hp : HP) : Rr (Cd d) 245 15 [some (vA v0), some (vI v1), some (vI v2), some (vI v3), some (vI v4), o5] [] hp =
  if v4 < v3 then
    if v2 = 1 then
      ((Cd d 244 [vA v0, vI v1, vI v4, vI ((-1))] hp).bind toI).bind fun q1 =>
      if q1.1 = 0 then
        Rr (Cd d) 245 29 [some (vA v0), some (vI v1), some (vI v2), some (vI v3), some (vI v4), o5] [] q1.2
      else
        some ([vI 1], q1.2)
    else
      Rr (Cd d) 245 29 [some (vA v0), some (vI v1), some (vI v2), some (vI v3), some (vI v4), o5] [] hp
  else
    some ([vI 0], hp) := (Rr_blk (Cd d) 245 [15, 29, 31, 47] 52 15 _ _ hp).trans rfl
set_option maxRecDepth 100000 in
theorem c245_29 (d : Nat) (v0 v1 v2 v3 v4 : Int) (o5 : Option AV) (hp : HP) : Rr (Cd d) 245 29 [some (vA v0), some (vI v1), some (vI v2), some (vI v3), some (vI v4), o5] [] hp =
  Rr (Cd d) 245 31 [some (vA v0), some (vI v1), some (vI v2), some (vI v3), some (vI v4), some (vI 0)] [] hp := (Rr_blk (Cd d) 245 [15, 29, 31, 47] 52 29 _ _ hp).trans rfl
set_option maxRecDepth 100000 in
theorem c245_31 (d : Nat) (v0 v1 v2 v3 v4 v5 : Int) (hp : HP) : Rr (Cd d) 245 31 [some (vA v0), some (vI v1), some (vI v2), some (vI v3), some (vI v4), some (vI v5)] [] hp =
  if v5 < v3 then
    if v2 = 2 then
      ((Cd d 244 [vA v0, vI v1, vI v4, vI v5] hp).bind toI).bind fun q1 =>
      if q1.1 = 0 then
        Rr (Cd d) 245 31 [some (vA v0), some (vI v1), some (vI v2), some (vI v3), some (vI v4), some (vI (w32 (v5 + 1)))] [] q1.2
      else
        some ([vI 1], q1.2)
    else
      Rr (Cd d) 245 47 [some (vA v0), some (vI v1), some (vI v2), some (vI v3), some (vI v4), some (vI v5)] [] hp
  else
    Rr (Cd d) 245 47 [some (vA v0), some (vI v1), some (vI v2), some (vI v3), some (vI v4), some (vI v5)] [] hp := (Rr_blk (Cd d) 245 [15, 29, 31, 47] 52 31 _ _ hp).trans rfl
set_option maxRecDepth 100000 in
theorem c245_47 (d : Nat) (v0 v1 v2 v3 v4 : Int) (o5 : Option AV) (hp : HP) : Rr (Cd d) 245 47 [some (vA v0), some (vI v1), some (vI v2), some (vI v3), some (vI v4), o5] [] hp =
  Rr (Cd d) 245 15 [some (vA v0), some (vI v1), some (vI v2), some (vI v3), some (vI (w32 (v4 + 1))), o5] [] hp := (Rr_blk (Cd d) 245 [15, 29, 31, 47] 52 47 _ _ hp).trans rfl
set_option maxRecDepth 100000 in
theorem c246 (d : Nat) (v0 v1 v2 v3 v4 : Int) (hp : HP) {n : Nat} (hg : gS hp v0 = some (12, n)) : Cd (d + 1) 246 [vA v0, vI v1, vI v2, vI v3, vI v4] hp =
  ((Cd d 221 [vA v0, vI v1] hp).bind toI).bind fun q1 =>
  if q1.1 = 0 then
    Rr (Cd d) 246 18 [some (vA v0), some (vI v1), some (vI v2), some (vI v3), some (vI v4), none] [] q1.2
  else
    ((Cd d 173 [vA v0, vI v2] q1.2).bind toI).bind fun q2 =>
    if q2.1 = 0 then
      Rr (Cd d) 246 18 [some (vA v0), some (vI v1), some (vI v2), some (vI v3), some (vI v4), none] [] q2.2
    else
      ((Cd d 172 [vI v3, vI 1, vI 2] q2.2).bind toI).bind fun q3 =>
      if q3.1 = 0 then
        Rr (Cd d) 246 18 [some (vA v0), some (vI v1), some (vI v2), some (vI v3), some (vI v4), none] [] q3.2
      else
        ((Cd d 172 [vI v4, vI 0, vI 3] q3.2).bind toI).bind fun q4 =>
        if q4.1 = 0 then
          Rr (Cd d) 246 18 [some (vA v0), some (vI v1), some (vI v2), some (vI v3), some (vI v4), none] [] q4.2
        else
          ((Cd d 222 [vA v0, vI v1] q4.2).bind toV).bind fun q5 =>
          ((Cd d 183 [vA v0, vI v2] q5).bind toV).bind fun q6 =>
          ((Cd d 245 [vA v0, vI v2, vI v3] q6).bind toI).bind fun q7 =>
          if v4 = 0 then
            if q7.1 = 0 then
              Rr (Cd d) 246 53 [some (vA v0), some (vI v1), some (vI v2), some (vI v3), some (vI v4), some (vI q7.1)] [vI 0] q7.2
            else
              Rr (Cd d) 246 53 [some (vA v0), some (vI v1), some (vI v2), some (vI v3), some (vI v4), some (vI q7.1)] [vI 1] q7.2
          else
            if v4 = 1 then
              (gF q7.2 12 41 v0).bind fun x10 =>
              Rr (Cd d) 246 53 [some (vA v0), some (vI v1), some (vI v2), some (vI v3), some (vI v4), some (vI q7.1)] [vI x10] q7.2
            else
              if v4 = 2 then
                (gF q7.2 12 42 v0).bind fun x9 =>
                Rr (Cd d) 246 53 [some (vA v0), some (vI v1), some (vI v2), some (vI v3), some (vI v4), some (vI q7.1)] [vI x9] q7.2
              else
                (gF q7.2 12 43 v0).bind fun x8 =>
                Rr (Cd d) 246 53 [some (vA v0), some (vI v1), some (vI v2), some (vI v3), some (vI v4), some (vI q7.1)] [vI x8] q7.2 := (Cd_inst rfl rfl rfl hg).trans ((Rr_blk (Cd d) 246 [18, 53] 55 0 _ [] hp).trans rfl)
set_option maxRecDepth 100000 in
theorem c246_18 (d : Nat) (o0 o1 o2 o3 o4 o5 : Option AV) (hp : HP) : Rr (Cd d) 246 18 [o0, o1, o2, o3, o4, o5] [] hp =
  some ([vI ((-1))], hp) := (Rr_blk (Cd d) 246 [18, 53] 55 18 _ _ hp).trans rfl
set_option maxRecDepth 100000 in
theorem c246_53 (d : Nat) (s0 : Int) (o0 o1 o2 o3 o4 o5 : Option AV) (hp : HP) : Rr (Cd d) 246 53 [o0, o1, o2, o3, o4, o5] [vI s0] hp =
  some ([vI s0], hp) := (Rr_blk (Cd d) 246 [18, 53] 55 53 _ _ hp).trans rfl
set_option maxRecDepth 100000 in
theorem c247 (d : Nat) (v0 v1 v2 v3 : Int) (hp : HP) {n : Nat} (hg : gS hp v0 = some (12, n)) : Cd (d + 1) 247 [vA v0, vI v1, vI v2, vI v3] hp =
  ((Cd d 172 [vI v1, vI 0, vI 19] hp).bind toI).bind fun q1 =>
  if q1.1 = 0 then
    Rr (Cd d) 247 15 [some (vA v0), some (vI v1), some (vI v2), some (vI v3)] [] q1.2
  else
    ((Cd d 172 [vI v2, vI 0, vI 6] q1.2).bind toI).bind fun q2 =>
    if q2.1 = 0 then
      Rr (Cd d) 247 15 [some (vA v0), some (vI v1), some (vI v2), some (vI v3)] [] q2.2
    else
      ((Cd d 172 [vI v3, vI ((-1)), vI 2] q2.2).bind toI).bind fun q3 =>
      if q3.1 = 0 then
        Rr (Cd d) 247 15 [some (vA v0), some (vI v1), some (vI v2), some (vI v3)] [] q3.2
      else
        (gF q3.2 12 0 v0).bind fun x4 =>
        (pA q3.2 0 x4 (w32 (w32 (150 + (w32 (7 * v1))) + v2)) v3).bind fun h5 =>
        some ([vI 1], h5) := (Cd_inst rfl rfl rfl hg).trans ((Rr_blk (Cd d) 247 [15] 31 0 _ [] hp).trans rfl)
set_option maxRecDepth 100000 in
theorem c247_15 (d : Nat) (o0 o1 o2 o3 : Option AV) (hp : HP) : Rr (Cd d) 247 15 [o0, o1, o2, o3] [] hp =
  some ([vI 0], hp) := (Rr_blk (Cd d) 247 [15] 31 15 _ _ hp).trans rfl
set_option maxRecDepth 100000 in
theorem c248 (d : Nat) (v0 v1 v2 : Int) (hp : HP) {n : Nat} (hg : gS hp v0 = some (12, n)) : Cd (d + 1) 248 [vA v0, vI v1, vI v2] hp =
  Rr (Cd d) 248 2 [some (vA v0), some (vI v1), some (vI v2), some (vI 0)] [] hp := (Cd_inst rfl rfl rfl hg).trans ((Rr_blk (Cd d) 248 [2] 23 0 _ [] hp).trans rfl)
set_option maxRecDepth 100000 in
theorem c248_2 (d : Nat) (v0 v1 v2 v3 : Int) (hp : HP) : Rr (Cd d) 248 2 [some (vA v0), some (vI v1), some (vI v2), some (vI v3)] [] hp =
  if v3 < v2 then
    (gF hp 12 0 v0).bind fun x1 =>
    (gA hp 0 x1 (w32 (w32 (150 + (w32 (7 * v1))) + v3))).bind fun x2 =>
    if x2 < 0 then
      Rr (Cd d) 248 2 [some (vA v0), some (vI v1), some (vI v2), some (vI (w32 (v3 + 1)))] [] hp
    else
      some ([vI 1], hp)
  else
    some ([vI 0], hp) := (Rr_blk (Cd d) 248 [2] 23 2 _ _ hp).trans rfl
set_option maxRecDepth 100000 in
theorem c249 (d : Nat) (v0 v1 v2 v3 v4 : Int) (hp : HP) {n : Nat} (hg : gS hp v0 = some (12, n)) : Cd (d + 1) 249 [vA v0, vI v1, vI v2, vI v3, vI v4] hp =
  Rr (Cd d) 249 2 [some (vA v0), some (vI v1), some (vI v2), some (vI v3), some (vI v4), some (vI 0), none] [] hp := (Cd_inst rfl rfl rfl hg).trans ((Rr_blk (Cd d) 249 [2, 35] 40 0 _ [] hp).trans rfl)
set_option maxRecDepth 100000 in
theorem c249_2 (d : Nat) (v0 v1 v2 v3 v4 v5 : Int) (o6 : Option AV) (hp : HP) : Rr (Cd d) 249 2 [some (vA v0), some (vI v1), some (vI v2), some (vI v3), some (vI v4), some (vI v5), o6] [] hp =
  (gF hp 12 0 v0).bind fun x1 =>
  (gA hp 0 x1 (w32 (20 + v1))).bind fun x2 =>
  if v5 < x2 then
    (gF hp 12 0 v0).bind fun x3 =>
    (gA hp 0 x3 (w32 (w32 (150 + (w32 (7 * v3))) + v5))).bind fun x4 =>
    if x4 < 0 then
      Rr (Cd d) 249 35 [some (vA v0), some (vI v1), some (vI v2), some (vI v3), some (vI v4), some (vI v5), some (vI x4)] [] hp
    else
      ((Cd d 181 [vA v0, vI v1, vI v2, vI v5] hp).bind toI).bind fun q5 =>
      ((Cd d 174 [vA v0, vI v4, vI q5.1] q5.2).bind toI).bind fun q6 =>
      if q6.1 = x4 then
        Rr (Cd d) 249 35 [some (vA v0), some (vI v1), some (vI v2), some (vI v3), some (vI v4), some (vI v5), some (vI x4)] [] q6.2
      else
        some ([vI 0], q6.2)
  else
    some ([vI 1], hp) := (Rr_blk (Cd d) 249 [2, 35] 40 2 _ _ hp).trans rfl
set_option maxRecDepth 100000 in
theorem c249_35 (d : Nat) (v0 v1 v2 v3 v4 v5 : Int) (o6 : Option AV) (hp : HP) : Rr (Cd d) 249 35 [some (vA v0), some (vI v1), some (vI v2), some (vI v3), some (vI v4), some (vI v5), o6] [] hp =
  Rr (Cd d) 249 2 [some (vA v0), some (vI v1), some (vI v2), some (vI v3), some (vI v4), some (vI (w32 (v5 + 1))), o6] [] hp := (Rr_blk (Cd d) 249 [2, 35] 40 35 _ _ hp).trans rfl
