/-! the methods as equations, written by a program -/
set_option maxRecDepth 100000 in
theorem c116 (d : Nat) (v0 : Int) (hp : HP) {n : Nat} (hg : gS hp v0 = some (11, n)) : Cd (d + 1) 116 [vA v0] hp =
  if 0 < v0 ∧ wid [] ≤ 8 then
    ((Cd d 112 [vA ((hp.1.length : Int))] (mk hp 10 8)).bind toV).bind fun q1 =>
    (pF q1 11 0 v0 ((hp.1.length : Int))).bind fun h2 =>
    ((Cd d 112 [vA ((h2.1.length : Int))] (mk h2 10 8)).bind toV).bind fun q3 =>
    (pF q3 11 1 v0 ((h2.1.length : Int))).bind fun h4 =>
    ((Cd d 66 [vA ((h4.1.length : Int))] (mk h4 6 14)).bind toV).bind fun q5 =>
    (pF q5 11 2 v0 ((h4.1.length : Int))).bind fun h6 =>
    ((Cd d 44 [vA ((h6.1.length : Int))] (mk h6 4 17)).bind toV).bind fun q7 =>
    (pF q7 11 3 v0 ((h6.1.length : Int))).bind fun h8 =>
    (pF (mk h8 100 49) 11 4 v0 ((h8.1.length : Int))).bind fun h9 =>
    Rr (Cd d) 116 28 [some (vA v0), some (vI 0)] [] h9
  else none := (Cd_inst rfl rfl rfl hg).trans ((Rr_blk (Cd d) 116 [28] 52 0 _ [] hp).trans rfl)
set_option maxRecDepth 100000 in
theorem c116_28 (d : Nat) (v0 v1 : Int) (hp : HP) : Rr (Cd d) 116 28 [some (vA v0), some (vI v1)] [] hp =
  (gF hp 11 4 v0).bind fun x1 =>
  (gL hp x1).bind fun x2 =>
  if v1 < x2 then
    (gF hp 11 4 v0).bind fun x7 =>
    (pA hp 0 x7 v1 238).bind fun h8 =>
    Rr (Cd d) 116 28 [some (vA v0), some (vI (w32 (v1 + 1)))] [] h8
  else
    ((Cd d 62 [vA ((hp.1.length : Int))] (mk hp 5 2)).bind toV).bind fun q3 =>
    (pF q3 11 5 v0 ((hp.1.length : Int))).bind fun h4 =>
    ((Cd d 62 [vA ((h4.1.length : Int))] (mk h4 5 2)).bind toV).bind fun q5 =>
    (pF q5 11 6 v0 ((h4.1.length : Int))).bind fun h6 =>
    some ([], h6) := (Rr_blk (Cd d) 116 [28] 52 28 _ _ hp).trans rfl
set_option maxRecDepth 100000 in
theorem c117 (d : Nat) (v0 v1 : Int) (hp : HP) {n : Nat} (hg : gS hp v0 = some (11, n)) : Cd (d + 1) 117 [vA v0, vI v1] hp =
  if v1 < 2 then
    Rr (Cd d) 117 11 [some (vA v0), some (vI v1)] [] hp
  else
    if 7 < v1 then
      Rr (Cd d) 117 11 [some (vA v0), some (vI v1)] [] hp
    else
      (gF hp 11 0 v0).bind fun x1 =>
      (gF hp 10 6 x1).bind fun x2 =>
      if x2 < 4 then
        (gF hp 11 0 v0).bind fun x3 =>
        (gF hp 10 0 x3).bind fun x4 =>
        (gF hp 11 0 v0).bind fun x5 =>
        (gF hp 10 6 x5).bind fun x6 =>
        (gR hp x4 x6).bind fun x7 =>
        ((Cd d 7 [vA x7, vI v1] hp).bind toV).bind fun q8 =>
        (gF q8 11 0 v0).bind fun x9 =>
        (gF q8 10 6 x9).bind fun x10 =>
        (pF q8 10 6 x9 (w32 (x10 + 1))).bind fun h11 =>
        (gF h11 11 0 v0).bind fun x12 =>
        (gF h11 10 6 x12).bind fun x13 =>
        some ([vI (w32 (x13 - 1))], h11)
      else
        Rr (Cd d) 117 11 [some (vA v0), some (vI v1)] [] hp := (Cd_inst rfl rfl rfl hg).trans ((Rr_blk (Cd d) 117 [11] 36 0 _ [] hp).trans rfl)
set_option maxRecDepth 100000 in
theorem c117_11 (d : Nat) (o0 o1 : Option AV) (hp : HP) : Rr (Cd d) 117 11 [o0, o1] [] hp =
  some ([vI ((-1))], hp) := (Rr_blk (Cd d) 117 [11] 36 11 _ _ hp).trans rfl
set_option maxRecDepth 100000 in
theorem c118 (d : Nat) (v0 v1 v2 v3 : Int) (hp : HP) {n : Nat} (hg : gS hp v0 = some (11, n)) : Cd (d + 1) 118 [vA v0, vI v1, vI v2, vI v3] hp =
  (gF hp 11 0 v0).bind fun x1 =>
  ((Cd d 113 [vA x1, vI v1] hp).bind toA).bind fun q2 =>
  if q2.1 = 0 then none else if q2.1 < 0 then
    Rr (Cd d) 118 12 [some (vA v0), some (vI v1), some (vI v2), some (vI v3), some (vA q2.1)] [] q2.2
  else
    ((Cd d 9 [vA q2.1, vI v2, vI v3] q2.2).bind toI).bind fun q3 =>
    if q3.1 = 0 then
      Rr (Cd d) 118 12 [some (vA v0), some (vI v1), some (vI v2), some (vI v3), some (vA q2.1)] [] q3.2
    else
      ((Cd d 10 [vA q2.1, vI v2, vI v3] q3.2).bind toV).bind fun q4 =>
      (gF q4 1 5 q2.1).bind fun x5 =>
      some ([vI (w32 (x5 - 1))], q4) := (Cd_inst rfl rfl rfl hg).trans ((Rr_blk (Cd d) 118 [12] 24 0 _ [] hp).trans rfl)
set_option maxRecDepth 100000 in
theorem c118_12 (d : Nat) (o0 o1 o2 o3 o4 : Option AV) (hp : HP) : Rr (Cd d) 118 12 [o0, o1, o2, o3, o4] [] hp =
  some ([vI ((-1))], hp) := (Rr_blk (Cd d) 118 [12] 24 12 _ _ hp).trans rfl
set_option maxRecDepth 100000 in
theorem c119 (d : Nat) (v0 v1 v2 : Int) (hp : HP) {n : Nat} (hg : gS hp v0 = some (11, n)) : Cd (d + 1) 119 [vA v0, vI v1, vI v2] hp =
  (gF hp 11 0 v0).bind fun x1 =>
  ((Cd d 113 [vA x1, vI v1] hp).bind toA).bind fun q2 =>
  if q2.1 = 0 then none else if q2.1 < 0 then
    some ([vI ((-1))], q2.2)
  else
    ((Cd d 13 [vA q2.1] q2.2).bind toV).bind fun q3 =>
    if v2 = (-1) then
      (gF q3 1 8 q2.1).bind fun x5 =>
      Rr (Cd d) 119 20 [some (vA v0), some (vI v1), some (vI v2), some (vA q2.1)] [vI x5] q3
    else
      ((Cd d 14 [vA q2.1, vI v2] q3).bind toI).bind fun q4 =>
      Rr (Cd d) 119 20 [some (vA v0), some (vI v1), some (vI v2), some (vA q2.1)] [vI q4.1] q4.2 := (Cd_inst rfl rfl rfl hg).trans ((Rr_blk (Cd d) 119 [20] 22 0 _ [] hp).trans rfl)
set_option maxRecDepth 100000 in
theorem c119_20 (d : Nat) (s0 : Int) (o0 o1 o2 o3 : Option AV) (hp : HP) : Rr (Cd d) 119 20 [o0, o1, o2, o3] [vI s0] hp =
  some ([vI s0], hp) := (Rr_blk (Cd d) 119 [20] 22 20 _ _ hp).trans rfl
set_option maxRecDepth 100000 in
theorem c120 (d : Nat) (v0 v1 v2 v3 : Int) (hp : HP) {n : Nat} (hg : gS hp v0 = some (11, n)) : Cd (d + 1) 120 [vA v0, vI v1, vI v2, vI v3] hp =
  (gF hp 11 0 v0).bind fun x1 =>
  ((Cd d 113 [vA x1, vI v1] hp).bind toA).bind fun q2 =>
  if q2.1 = 0 then none else if q2.1 < 0 then
    Rr (Cd d) 120 14 [some (vA v0), some (vI v1), some (vI v2), some (vI v3), some (vA q2.1)] [] q2.2
  else
    ((Cd d 11 [vA q2.1, vI v2] q2.2).bind toI).bind fun q3 =>
    if q3.1 = 0 then
      Rr (Cd d) 120 14 [some (vA v0), some (vI v1), some (vI v2), some (vI v3), some (vA q2.1)] [] q3.2
    else
      ((Cd d 161 [vI v3] q3.2).bind toI).bind fun q4 =>
      if q4.1 = 0 then
        Rr (Cd d) 120 14 [some (vA v0), some (vI v1), some (vI v2), some (vI v3), some (vA q2.1)] [] q4.2
      else
        (gF q4.2 1 4 q2.1).bind fun x5 =>
        ((Cd d 167 [vI v2, vI x5, vI v3] q4.2).bind toI).bind fun q6 =>
        some ([vI q6.1], q6.2) := (Cd_inst rfl rfl rfl hg).trans ((Rr_blk (Cd d) 120 [14] 23 0 _ [] hp).trans rfl)
set_option maxRecDepth 100000 in
theorem c120_14 (d : Nat) (o0 o1 o2 o3 o4 : Option AV) (hp : HP) : Rr (Cd d) 120 14 [o0, o1, o2, o3, o4] [] hp =
  some ([vI ((-1))], hp) := (Rr_blk (Cd d) 120 [14] 23 14 _ _ hp).trans rfl
set_option maxRecDepth 100000 in
theorem c121 (d : Nat) (v0 v1 : Int) (hp : HP) {n : Nat} (hg : gS hp v0 = some (11, n)) : Cd (d + 1) 121 [vA v0, vI v1] hp =
  (gF hp 11 0 v0).bind fun x1 =>
  ((Cd d 113 [vA x1, vI v1] hp).bind toA).bind fun q2 =>
  if q2.1 = 0 then none else if q2.1 < 0 then
    Rr (Cd d) 121 11 [some (vA v0), some (vI v1), some (vA q2.1)] [vI ((-1))] q2.2
  else
    ((Cd d 17 [vA q2.1] q2.2).bind toI).bind fun q3 =>
    Rr (Cd d) 121 11 [some (vA v0), some (vI v1), some (vA q2.1)] [vI q3.1] q3.2 := (Cd_inst rfl rfl rfl hg).trans ((Rr_blk (Cd d) 121 [11] 13 0 _ [] hp).trans rfl)
set_option maxRecDepth 100000 in
theorem c121_11 (d : Nat) (s0 : Int) (o0 o1 o2 : Option AV) (hp : HP) : Rr (Cd d) 121 11 [o0, o1, o2] [vI s0] hp =
  some ([vI s0], hp) := (Rr_blk (Cd d) 121 [11] 13 11 _ _ hp).trans rfl
set_option maxRecDepth 100000 in
theorem c122 (d : Nat) (v0 v1 v2 v3 : Int) (hp : HP) {n : Nat} (hg : gS hp v0 = some (11, n)) : Cd (d + 1) 122 [vA v0, vI v1, vI v2, vI v3] hp =
  (gF hp 11 0 v0).bind fun x1 =>
  ((Cd d 113 [vA x1, vI v1] hp).bind toA).bind fun q2 =>
  (gF q2.2 11 0 v0).bind fun x3 =>
  ((Cd d 113 [vA x3, vI v2] q2.2).bind toA).bind fun q4 =>
  if q2.1 = 0 then none else if q2.1 < 0 then
    Rr (Cd d) 122 19 [some (vA v0), some (vI v1), some (vI v2), some (vI v3), some (vA q2.1), some (vA q4.1), none] [] q4.2
  else
    if q4.1 = 0 then none else if q4.1 < 0 then
      Rr (Cd d) 122 19 [some (vA v0), some (vI v1), some (vI v2), some (vI v3), some (vA q2.1), some (vA q4.1), none] [] q4.2
    else
      if v3 < 0 then
        Rr (Cd d) 122 19 [some (vA v0), some (vI v1), some (vI v2), some (vI v3), some (vA q2.1), some (vA q4.1), none] [] q4.2
      else
        if 1 < v3 then
          Rr (Cd d) 122 19 [some (vA v0), some (vI v1), some (vI v2), some (vI v3), some (vA q2.1), some (vA q4.1), none] [] q4.2
        else
          if v3 = 0 then
            ((Cd d 20 [vA q2.1, vA q4.1] q4.2).bind toI).bind fun q7 =>
            some ([vI q7.1], q7.2)
          else
            ((Cd d 20 [vA q2.1, vA q2.1] q4.2).bind toI).bind fun q5 =>
            if q5.1 = 0 then
              Rr (Cd d) 122 39 [some (vA v0), some (vI v1), some (vI v2), some (vI v3), some (vA q2.1), some (vA q4.1), some (vI q5.1)] [vI ((-1))] q5.2
            else
              ((Cd d 19 [vA q2.1] q5.2).bind toI).bind fun q6 =>
              if q5.1 = 0 then none else
              Rr (Cd d) 122 39 [some (vA v0), some (vI v1), some (vI v2), some (vI v3), some (vA q2.1), some (vA q4.1), some (vI q5.1)] [vI (idiv q6.1 q5.1)] q6.2 := (Cd_inst rfl rfl rfl hg).trans ((Rr_blk (Cd d) 122 [19, 39] 41 0 _ [] hp).trans rfl)
set_option maxRecDepth 100000 in
theorem c122_19 (d : Nat) (o0 o1 o2 o3 o4 o5 o6 : Option AV) (hp : HP) : Rr (Cd d) 122 19 [o0, o1, o2, o3, o4, o5, o6] [] hp =
  some ([vI ((-1))], hp) := (Rr_blk (Cd d) 122 [19, 39] 41 19 _ _ hp).trans rfl
set_option maxRecDepth 100000 in
theorem c122_39 (d : Nat) (s0 : Int) (o0 o1 o2 o3 o4 o5 o6 : Option AV) (hp : HP) : Rr (Cd d) 122 39 [o0, o1, o2, o3, o4, o5, o6] [vI s0] hp =
  some ([vI s0], hp) := (Rr_blk (Cd d) 122 [19, 39] 41 39 _ _ hp).trans rfl
set_option maxRecDepth 100000 in
theorem c123 (d : Nat) (v0 v1 v2 v3 v4 v5 : Int) (hp : HP) {n : Nat} (hg : gS hp v0 = some (11, n)) : Cd (d + 1) 123 [vA v0, vI v1, vI v2, vI v3, vI v4, vI v5] hp =
  (gF hp 11 2 v0).bind fun x1 =>
  (gF hp 6 5 x1).bind fun x2 =>
  if 300 < w32 (x2 + 20) then
    some ([vI ((-1))], hp)
  else
    (gF hp 11 2 v0).bind fun x3 =>
    ((Cd d 67 [vA x3, vI v1] hp).bind toV).bind fun q4 =>
    (gF q4 11 2 v0).bind fun x5 =>
    ((Cd d 67 [vA x5, vI v2] q4).bind toV).bind fun q6 =>
    (gF q6 11 2 v0).bind fun x7 =>
    ((Cd d 67 [vA x7, vI v3] q6).bind toV).bind fun q8 =>
    (gF q8 11 2 v0).bind fun x9 =>
    ((Cd d 67 [vA x9, vI v4] q8).bind toV).bind fun q10 =>
    (gF q10 11 2 v0).bind fun x11 =>
    ((Cd d 67 [vA x11, vI v5] q10).bind toV).bind fun q12 =>
    (gF q12 11 2 v0).bind fun x13 =>
    (gF q12 6 5 x13).bind fun x14 =>
    some ([vI x14], q12) := (Cd_inst rfl rfl rfl hg).trans ((Rr_blk (Cd d) 123 [] 34 0 _ [] hp).trans rfl)
set_option maxRecDepth 100000 in
theorem c124 (d : Nat) (v0 v1 : Int) (hp : HP) {n : Nat} (hg : gS hp v0 = some (11, n)) : Cd (d + 1) 124 [vA v0, vI v1] hp =
  if v1 < 0 then
    Rr (Cd d) 124 7 [some (vA v0), some (vI v1)] [] hp
  else
    (gF hp 11 2 v0).bind fun x1 =>
    (gF hp 6 5 x1).bind fun x2 =>
    if x2 < v1 then
      Rr (Cd d) 124 7 [some (vA v0), some (vI v1)] [] hp
    else
      (gF hp 11 2 v0).bind fun x3 =>
      (pF hp 6 5 x3 v1).bind fun h4 =>
      some ([vI v1], h4) := (Cd_inst rfl rfl rfl hg).trans ((Rr_blk (Cd d) 124 [7] 16 0 _ [] hp).trans rfl)
set_option maxRecDepth 100000 in
theorem c124_7 (d : Nat) (o0 o1 : Option AV) (hp : HP) : Rr (Cd d) 124 7 [o0, o1] [] hp =
  some ([vI ((-1))], hp) := (Rr_blk (Cd d) 124 [7] 16 7 _ _ hp).trans rfl
set_option maxRecDepth 100000 in
theorem c125 (d : Nat) (v0 : Int) (hp : HP) {n : Nat} (hg : gS hp v0 = some (11, n)) : Cd (d + 1) 125 [vA v0] hp =
  (gF hp 11 0 v0).bind fun x1 =>
  (gF hp 10 7 x1).bind fun x2 =>
  if x2 < 8 then
    (gF hp 11 2 v0).bind fun x3 =>
    ((Cd d 69 [vA x3] hp).bind toI).bind fun q4 =>
    (gF q4.2 11 2 v0).bind fun x5 =>
    (pF q4.2 6 5 x5 0).bind fun h6 =>
    if q4.1 = 0 then
      some ([vI ((-1))], h6)
    else
      (gF h6 11 2 v0).bind fun x7 =>
      (gF h6 11 0 v0).bind fun x8 =>
      (gF h6 10 1 x8).bind fun x9 =>
      (gF h6 11 0 v0).bind fun x10 =>
      (gF h6 10 7 x10).bind fun x11 =>
      (gR h6 x9 x11).bind fun x12 =>
      ((Cd d 68 [vA x7, vA x12] h6).bind toV).bind fun q13 =>
      (gF q13 11 0 v0).bind fun x14 =>
      (gF q13 10 7 x14).bind fun x15 =>
      (pF q13 10 7 x14 (w32 (x15 + 1))).bind fun h16 =>
      (gF h16 11 0 v0).bind fun x17 =>
      (gF h16 10 7 x17).bind fun x18 =>
      some ([vI (w32 (x18 - 1))], h16)
  else
    some ([vI ((-1))], hp) := (Cd_inst rfl rfl rfl hg).trans ((Rr_blk (Cd d) 125 [] 43 0 _ [] hp).trans rfl)
set_option maxRecDepth 100000 in
theorem c126 (d : Nat) (v0 v1 : Int) (hp : HP) {n : Nat} (hg : gS hp v0 = some (11, n)) : Cd (d + 1) 126 [vA v0, vI v1] hp =
  if v1 = 0 then
    (gF hp 11 2 v0).bind fun x3 =>
    (gF hp 6 6 x3).bind fun x4 =>
    some ([vI x4], hp)
  else
    if v1 = 1 then
      (gF hp 11 2 v0).bind fun x1 =>
      (gF hp 6 7 x1).bind fun x2 =>
      Rr (Cd d) 126 14 [some (vA v0), some (vI v1)] [vI x2] hp
    else
      Rr (Cd d) 126 14 [some (vA v0), some (vI v1)] [vI ((-1))] hp := (Cd_inst rfl rfl rfl hg).trans ((Rr_blk (Cd d) 126 [14] 16 0 _ [] hp).trans rfl)
set_option maxRecDepth 100000 in
theorem c126_14 (d : Nat) (s0 : Int) (o0 o1 : Option AV) (hp : HP) : Rr (Cd d) 126 14 [o0, o1] [vI s0] hp =
  some ([vI s0], hp) := (Rr_blk (Cd d) 126 [14] 16 14 _ _ hp).trans rfl
set_option maxRecDepth 100000 in
theorem c127 (d : Nat) (v0 v1 v2 v3 v4 v5 : Int) (hp : HP) {n : Nat} (hg : gS hp v0 = some (11, n)) : Cd (d + 1) 127 [vA v0, vI v1, vI v2, vI v3, vI v4, vI v5] hp =
  ((Cd d 152 [vA v0, vI v1, vI v2] hp).bind toI).bind fun q1 =>
  if q1.1 = 0 then
    some ([vI ((-1))], q1.2)
  else
    if v3 = (-1) then
      (gF q1.2 11 3 v0).bind fun x9 =>
      (gF q1.2 4 8 x9).bind fun x10 =>
      some ([vI x10], q1.2)
    else
      if v3 < 0 then
        Rr (Cd d) 127 27 [some (vA v0), some (vI v1), some (vI v2), some (vI v3), some (vI v4), some (vI v5)] [] q1.2
      else
        (gF q1.2 11 3 v0).bind fun x2 =>
        (gF q1.2 4 8 x2).bind fun x3 =>
        if v3 < x3 then
          ((Cd d 160 [vI v4] q1.2).bind toI).bind fun q4 =>
          if q4.1 = 0 then
            Rr (Cd d) 127 27 [some (vA v0), some (vI v1), some (vI v2), some (vI v3), some (vI v4), some (vI v5)] [] q4.2
          else
            ((Cd d 160 [vI v5] q4.2).bind toI).bind fun q5 =>
            if q5.1 = 0 then
              Rr (Cd d) 127 27 [some (vA v0), some (vI v1), some (vI v2), some (vI v3), some (vI v4), some (vI v5)] [] q5.2
            else
              (gF q5.2 11 3 v0).bind fun x6 =>
              ((Cd d 48 [vA x6, vI v3, vI (w32 (w32 (v4 * 3) + v5))] q5.2).bind toI).bind fun q7 =>
              ((Cd d 159 [vI q7.1] q7.2).bind toI).bind fun q8 =>
              some ([vI q8.1], q8.2)
        else
          Rr (Cd d) 127 27 [some (vA v0), some (vI v1), some (vI v2), some (vI v3), some (vI v4), some (vI v5)] [] q1.2 := (Cd_inst rfl rfl rfl hg).trans ((Rr_blk (Cd d) 127 [27] 41 0 _ [] hp).trans rfl)
set_option maxRecDepth 100000 in
theorem c127_27 (d : Nat) (o0 o1 o2 o3 o4 o5 : Option AV) (hp : HP) : Rr (Cd d) 127 27 [o0, o1, o2, o3, o4, o5] [] hp =
  some ([vI ((-1))], hp) := (Rr_blk (Cd d) 127 [27] 41 27 _ _ hp).trans rfl
set_option maxRecDepth 100000 in
theorem c128 (d : Nat) (v0 v1 v2 v3 : Int) (hp : HP) {n : Nat} (hg : gS hp v0 = some (11, n)) : Cd (d + 1) 128 [vA v0, vI v1, vI v2, vI v3] hp =
  if v3 < 0 then
    Rr (Cd d) 128 10 [some (vA v0), some (vI v1), some (vI v2), some (vI v3), none] [] hp
  else
    if 3 < v3 then
      Rr (Cd d) 128 10 [some (vA v0), some (vI v1), some (vI v2), some (vI v3), none] [] hp
    else
      ((Cd d 152 [vA v0, vI v1, vI v2] hp).bind toI).bind fun q1 =>
      if q1.1 = 0 then
        Rr (Cd d) 128 10 [some (vA v0), some (vI v1), some (vI v2), some (vI v3), none] [] q1.2
      else
        (gF q1.2 11 3 v0).bind fun x2 =>
        ((Cd d 49 [vA x2] q1.2).bind toI).bind fun q3 =>
        if v3 = 0 then
          some ([vI q3.1], q3.2)
        else
        if v3 = 1 then
          (gF q3.2 11 3 v0).bind fun x4 =>
          (gF q3.2 4 12 x4).bind fun x5 =>
          some ([vI x5], q3.2)
        else
        if v3 = 2 then
          (gF q3.2 11 3 v0).bind fun x6 =>
          (gF q3.2 4 13 x6).bind fun x7 =>
          some ([vI x7], q3.2)
        else
        (gF q3.2 11 3 v0).bind fun x8 =>
        (gF q3.2 4 15 x8).bind fun x9 =>
        some ([vI x9], q3.2) := (Cd_inst rfl rfl rfl hg).trans ((Rr_blk (Cd d) 128 [10] 33 0 _ [] hp).trans rfl)
set_option maxRecDepth 100000 in
theorem c128_10 (d : Nat) (o0 o1 o2 o3 o4 : Option AV) (hp : HP) : Rr (Cd d) 128 10 [o0, o1, o2, o3, o4] [] hp =
  some ([vI ((-1))], hp) := (Rr_blk (Cd d) 128 [10] 33 10 _ _ hp).trans rfl
set_option maxRecDepth 100000 in
theorem c129 (d : Nat) (v0 v1 v2 v3 : Int) (hp : HP) {n : Nat} (hg : gS hp v0 = some (11, n)) : Cd (d + 1) 129 [vA v0, vI v1, vI v2, vI v3] hp =
  if v3 < 0 then
    Rr (Cd d) 129 14 [some (vA v0), some (vI v1), some (vI v2), some (vI v3)] [] hp
  else
    if 2 < v3 then
      Rr (Cd d) 129 14 [some (vA v0), some (vI v1), some (vI v2), some (vI v3)] [] hp
    else
      ((Cd d 152 [vA v0, vI v1, vI v2] hp).bind toI).bind fun q1 =>
      if q1.1 = 0 then
        Rr (Cd d) 129 14 [some (vA v0), some (vI v1), some (vI v2), some (vI v3)] [] q1.2
      else
        (gF q1.2 11 3 v0).bind fun x2 =>
        (gF q1.2 4 8 x2).bind fun x3 =>
        if x3 = 0 then
          Rr (Cd d) 129 14 [some (vA v0), some (vI v1), some (vI v2), some (vI v3)] [] q1.2
        else
          (gF q1.2 11 3 v0).bind fun x4 =>
          ((Cd d 51 [vA x4] q1.2).bind toV).bind fun q5 =>
          if v3 = 0 then
            (gF q5 11 3 v0).bind fun x6 =>
            (gF q5 4 9 x6).bind fun x7 =>
            some ([vI x7], q5)
          else
          if v3 = 1 then
            (gF q5 11 3 v0).bind fun x8 =>
            (gF q5 4 8 x8).bind fun x9 =>
            some ([vI x9], q5)
          else
          (gF q5 11 3 v0).bind fun x10 =>
          (gF q5 4 11 x10).bind fun x11 =>
          some ([vI x11], q5) := (Cd_inst rfl rfl rfl hg).trans ((Rr_blk (Cd d) 129 [14] 34 0 _ [] hp).trans rfl)
set_option maxRecDepth 100000 in
theorem c129_14 (d : Nat) (o0 o1 o2 o3 : Option AV) (hp : HP) : Rr (Cd d) 129 14 [o0, o1, o2, o3] [] hp =
  some ([vI ((-1))], hp) := (Rr_blk (Cd d) 129 [14] 34 14 _ _ hp).trans rfl
set_option maxRecDepth 100000 in
theorem c130 (d : Nat) (v0 v1 v2 v3 : Int) (hp : HP) {n : Nat} (hg : gS hp v0 = some (11, n)) : Cd (d + 1) 130 [vA v0, vI v1, vI v2, vI v3] hp =
  if v3 < 2 then
    Rr (Cd d) 130 15 [some (vA v0), some (vI v1), some (vI v2), some (vI v3)] [] hp
  else
    if 1000000000 < v3 then
      Rr (Cd d) 130 15 [some (vA v0), some (vI v1), some (vI v2), some (vI v3)] [] hp
    else
      ((Cd d 152 [vA v0, vI v1, vI v2] hp).bind toI).bind fun q1 =>
      if q1.1 = 0 then
        Rr (Cd d) 130 15 [some (vA v0), some (vI v1), some (vI v2), some (vI v3)] [] q1.2
      else
        (gF q1.2 11 3 v0).bind fun x2 =>
        (gF q1.2 4 8 x2).bind fun x3 =>
        if x3 = 0 then
          Rr (Cd d) 130 15 [some (vA v0), some (vI v1), some (vI v2), some (vI v3)] [] q1.2
        else
          (gF q1.2 11 3 v0).bind fun x4 =>
          ((Cd d 51 [vA x4] q1.2).bind toV).bind fun q5 =>
          (gF q5 11 3 v0).bind fun x6 =>
          (gF q5 4 9 x6).bind fun x7 =>
          (gF q5 11 3 v0).bind fun x8 =>
          (gF q5 4 8 x8).bind fun x9 =>
          if x7 < x9 then
            ((Cd d 153 [vA v0, vI v3] q5).bind toI).bind fun q10 =>
            Rr (Cd d) 130 32 [some (vA v0), some (vI v1), some (vI v2), some (vI v3)] [vI q10.1] q10.2
          else
            Rr (Cd d) 130 32 [some (vA v0), some (vI v1), some (vI v2), some (vI v3)] [vI ((-1))] q5 := (Cd_inst rfl rfl rfl hg).trans ((Rr_blk (Cd d) 130 [15, 32] 34 0 _ [] hp).trans rfl)
set_option maxRecDepth 100000 in
theorem c130_15 (d : Nat) (o0 o1 o2 o3 : Option AV) (hp : HP) : Rr (Cd d) 130 15 [o0, o1, o2, o3] [] hp =
  some ([vI ((-1))], hp) := (Rr_blk (Cd d) 130 [15, 32] 34 15 _ _ hp).trans rfl
set_option maxRecDepth 100000 in
theorem c130_32 (d : Nat) (s0 : Int) (o0 o1 o2 o3 : Option AV) (hp : HP) : Rr (Cd d) 130 32 [o0, o1, o2, o3] [vI s0] hp =
  some ([vI s0], hp) := (Rr_blk (Cd d) 130 [15, 32] 34 32 _ _ hp).trans rfl
set_option maxRecDepth 100000 in
theorem c131 (d : Nat) (v0 v1 v2 v3 v4 : Int) (hp : HP) {n : Nat} (hg : gS hp v0 = some (11, n)) : Cd (d + 1) 131 [vA v0, vI v1, vI v2, vI v3, vI v4] hp =
  if v3 < 1 then
    Rr (Cd d) 131 16 [some (vA v0), some (vI v1), some (vI v2), some (vI v3), some (vI v4), none] [] hp
  else
    if 2 < v3 then
      Rr (Cd d) 131 16 [some (vA v0), some (vI v1), some (vI v2), some (vI v3), some (vI v4), none] [] hp
    else
      if v4 < 0 then
        Rr (Cd d) 131 16 [some (vA v0), some (vI v1), some (vI v2), some (vI v3), some (vI v4), none] [] hp
      else
        if 3 < v4 then
          Rr (Cd d) 131 16 [some (vA v0), some (vI v1), some (vI v2), some (vI v3), some (vI v4), none] [] hp
        else
          ((Cd d 152 [vA v0, vI v1, vI v2] hp).bind toI).bind fun q1 =>
          if q1.1 = 0 then
            Rr (Cd d) 131 16 [some (vA v0), some (vI v1), some (vI v2), some (vI v3), some (vI v4), none] [] q1.2
          else
            (gF q1.2 11 3 v0).bind fun x2 =>
            ((Cd d 53 [vA x2, vI v3] q1.2).bind toI).bind fun q3 =>
            if v4 = 0 then
              ((Cd d 159 [vI q3.1] q3.2).bind toI).bind fun q4 =>
              some ([vI q4.1], q4.2)
            else
            if v4 = 1 then
              (gF q3.2 11 3 v0).bind fun x5 =>
              (gF q3.2 4 13 x5).bind fun x6 =>
              some ([vI x6], q3.2)
            else
            if v4 = 2 then
              (gF q3.2 11 3 v0).bind fun x7 =>
              (gF q3.2 4 14 x7).bind fun x8 =>
              some ([vI x8], q3.2)
            else
            (gF q3.2 11 3 v0).bind fun x9 =>
            (gF q3.2 4 12 x9).bind fun x10 =>
            some ([vI x10], q3.2) := (Cd_inst rfl rfl rfl hg).trans ((Rr_blk (Cd d) 131 [16] 41 0 _ [] hp).trans rfl)
set_option maxRecDepth 100000 in
theorem c131_16 (d : Nat) (o0 o1 o2 o3 o4 o5 : Option AV) (hp : HP) : Rr (Cd d) 131 16 [o0, o1, o2, o3, o4, o5] [] hp =
  some ([vI ((-1))], hp) := (Rr_blk (Cd d) 131 [16] 41 16 _ _ hp).trans rfl
set_option maxRecDepth 100000 in
theorem c132 (d : Nat) (v0 v1 v2 v3 : Int) (hp : HP) {n : Nat} (hg : gS hp v0 = some (11, n)) : Cd (d + 1) 132 [vA v0, vI v1, vI v2, vI v3] hp =
  if v1 < 0 then
    Rr (Cd d) 132 10 [some (vA v0), some (vI v1), some (vI v2), some (vI v3)] [] hp
  else
    if v1 < 20 then
      if v2 < 0 then
        Rr (Cd d) 132 10 [some (vA v0), some (vI v1), some (vI v2), some (vI v3)] [] hp
      else
        if v2 < 7 then
          if v3 = (-1) then
            Rr (Cd d) 132 20 [some (vA v0), some (vI v1), some (vI v2), some (vI v3)] [] hp
          else
            ((Cd d 160 [vI v3] hp).bind toI).bind fun q1 =>
            if q1.1 = 0 then
              some ([vI 0], q1.2)
            else
              Rr (Cd d) 132 20 [some (vA v0), some (vI v1), some (vI v2), some (vI v3)] [] q1.2
        else
          Rr (Cd d) 132 10 [some (vA v0), some (vI v1), some (vI v2), some (vI v3)] [] hp
    else
      Rr (Cd d) 132 10 [some (vA v0), some (vI v1), some (vI v2), some (vI v3)] [] hp := (Cd_inst rfl rfl rfl hg).trans ((Rr_blk (Cd d) 132 [10, 20] 30 0 _ [] hp).trans rfl)
set_option maxRecDepth 100000 in
theorem c132_10 (d : Nat) (o0 o1 o2 o3 : Option AV) (hp : HP) : Rr (Cd d) 132 10 [o0, o1, o2, o3] [] hp =
  some ([vI 0], hp) := (Rr_blk (Cd d) 132 [10, 20] 30 10 _ _ hp).trans rfl
set_option maxRecDepth 100000 in
theorem c132_20 (d : Nat) (v0 v1 v2 v3 : Int) (hp : HP) : Rr (Cd d) 132 20 [some (vA v0), some (vI v1), some (vI v2), some (vI v3)] [] hp =
  (gF hp 11 0 v0).bind fun x1 =>
  (gF hp 10 2 x1).bind fun x2 =>
  ((Cd d 107 [vA x2, vI v1, vI v2, vI v3] hp).bind toV).bind fun q3 =>
  some ([vI 1], q3) := (Rr_blk (Cd d) 132 [10, 20] 30 20 _ _ hp).trans rfl
set_option maxRecDepth 100000 in
theorem c133 (d : Nat) (v0 v1 v2 v3 : Int) (hp : HP) {n : Nat} (hg : gS hp v0 = some (11, n)) : Cd (d + 1) 133 [vA v0, vI v1, vI v2, vI v3] hp =
  ((Cd d 152 [vA v0, vI v1, vI v2] hp).bind toI).bind fun q1 =>
  if q1.1 = 0 then
    some ([vL ((-1))], q1.2)
  else
    (gF q1.2 11 3 v0).bind fun x2 =>
    (gF q1.2 4 5 x2).bind fun x3 =>
    ((Cd d 15 [vA x3, vI v3] q1.2).bind toI).bind fun q4 =>
    if q4.1 = (-1) then
      Rr (Cd d) 133 25 [some (vA v0), some (vI v1), some (vI v2), some (vI v3), some (vI q4.1)] [vL ((-1))] q4.2
    else
      (gF q4.2 11 3 v0).bind fun x5 =>
      (gF q4.2 11 0 v0).bind fun x6 =>
      (gF q4.2 10 2 x6).bind fun x7 =>
      ((Cd d 57 [vA x5, vA x7, vI q4.1] q4.2).bind toL).bind fun q8 =>
      Rr (Cd d) 133 25 [some (vA v0), some (vI v1), some (vI v2), some (vI v3), some (vI q4.1)] [vL q8.1] q8.2 := (Cd_inst rfl rfl rfl hg).trans ((Rr_blk (Cd d) 133 [25] 27 0 _ [] hp).trans rfl)
set_option maxRecDepth 100000 in
theorem c133_25 (d : Nat) (s0 : Int) (o0 o1 o2 o3 o4 : Option AV) (hp : HP) : Rr (Cd d) 133 25 [o0, o1, o2, o3, o4] [vL s0] hp =
  some ([vL s0], hp) := (Rr_blk (Cd d) 133 [25] 27 25 _ _ hp).trans rfl
set_option maxRecDepth 100000 in
theorem c134 (d : Nat) (v0 v1 v2 v3 : Int) (hp : HP) {n : Nat} (hg : gS hp v0 = some (11, n)) : Cd (d + 1) 134 [vA v0, vI v1, vI v2, vI v3] hp =
  if v3 < 0 then
    Rr (Cd d) 134 10 [some (vA v0), some (vI v1), some (vI v2), some (vI v3), none] [] hp
  else
    if 2 < v3 then
      Rr (Cd d) 134 10 [some (vA v0), some (vI v1), some (vI v2), some (vI v3), none] [] hp
    else
      ((Cd d 152 [vA v0, vI v1, vI v2] hp).bind toI).bind fun q1 =>
      if q1.1 = 0 then
        Rr (Cd d) 134 10 [some (vA v0), some (vI v1), some (vI v2), some (vI v3), none] [] q1.2
      else
        (gF q1.2 11 3 v0).bind fun x2 =>
        (gF q1.2 11 0 v0).bind fun x3 =>
        (gF q1.2 10 2 x3).bind fun x4 =>
        ((Cd d 58 [vA x2, vA x4] q1.2).bind toI).bind fun q5 =>
        if v3 = 0 then
          some ([vI q5.1], q5.2)
        else
        if v3 = 1 then
          if 0 < q5.1 then
            (gF q5.2 11 3 v0).bind fun x6 =>
            (gF q5.2 4 10 x6).bind fun x7 =>
            if x7 = 0 then
              Rr (Cd d) 134 31 [some (vA v0), some (vI v1), some (vI v2), some (vI v3), some (vI q5.1)] [] q5.2
            else
              Rr (Cd d) 134 32 [some (vA v0), some (vI v1), some (vI v2), some (vI v3), some (vI q5.1)] [vI 1] q5.2
          else
            Rr (Cd d) 134 31 [some (vA v0), some (vI v1), some (vI v2), some (vI v3), some (vI q5.1)] [] q5.2
        else
        (gF q5.2 11 3 v0).bind fun x8 =>
        (gF q5.2 4 12 x8).bind fun x9 =>
        some ([vI x9], q5.2) := (Cd_inst rfl rfl rfl hg).trans ((Rr_blk (Cd d) 134 [10, 31, 32] 39 0 _ [] hp).trans rfl)
set_option maxRecDepth 100000 in
theorem c134_10 (d : Nat) (o0 o1 o2 o3 o4 : Option AV) (hp : HP) : Rr (Cd d) 134 10 [o0, o1, o2, o3, o4] [] hp =
  some ([vI ((-1))], hp) := (Rr_blk (Cd d) 134 [10, 31, 32] 39 10 _ _ hp).trans rfl
set_option maxRecDepth 100000 in
theorem c134_31 (d : Nat) (o0 o1 o2 o3 o4 : Option AV) (hp : HP) : Rr (Cd d) 134 31 [o0, o1, o2, o3, o4] [] hp =
  Rr (Cd d) 134 32 [o0, o1, o2, o3, o4] [vI 0] hp := (Rr_blk (Cd d) 134 [10, 31, 32] 39 31 _ _ hp).trans rfl
set_option maxRecDepth 100000 in
theorem c134_32 (d : Nat) (s0 : Int) (o0 o1 o2 o3 o4 : Option AV) (hp : HP) : Rr (Cd d) 134 32 [o0, o1, o2, o3, o4] [vI s0] hp =
  ((Cd d 159 [vI s0] hp).bind toI).bind fun q1 =>
  some ([vI q1.1], q1.2) := (Rr_blk (Cd d) 134 [10, 31, 32] 39 32 _ _ hp).trans rfl
set_option maxRecDepth 100000 in
theorem c135 (d : Nat) (v0 v1 v2 v3 : Int) (hp : HP) {n : Nat} (hg : gS hp v0 = some (11, n)) : Cd (d + 1) 135 [vA v0, vI v1, vI v2, vI v3] hp =
  (gF hp 11 0 v0).bind fun x1 =>
  ((Cd d 113 [vA x1, vI v1] hp).bind toA).bind fun q2 =>
  if q2.1 = 0 then none else if q2.1 < 0 then
    Rr (Cd d) 135 14 [some (vA v0), some (vI v1), some (vI v2), some (vI v3), some (vA q2.1)] [] q2.2
  else
    ((Cd d 11 [vA q2.1, vI v2] q2.2).bind toI).bind fun q3 =>
    if q3.1 = 0 then
      Rr (Cd d) 135 14 [some (vA v0), some (vI v1), some (vI v2), some (vI v3), some (vA q2.1)] [] q3.2
    else
      ((Cd d 161 [vI v3] q3.2).bind toI).bind fun q4 =>
      if q4.1 = 0 then
        Rr (Cd d) 135 14 [some (vA v0), some (vI v1), some (vI v2), some (vI v3), some (vA q2.1)] [] q4.2
      else
        (gF q4.2 11 0 v0).bind fun x5 =>
        (gF q4.2 10 3 x5).bind fun x6 =>
        (gF q4.2 1 4 q2.1).bind fun x7 =>
        ((Cd d 167 [vI v2, vI x7, vI v3] q4.2).bind toI).bind fun q8 =>
        (gF q8.2 1 4 q2.1).bind fun x9 =>
        ((Cd d 164 [vI q8.1, vI x9] q8.2).bind toI).bind fun q10 =>
        ((Cd d 1 [vA x6, vI v1, vI q10.1] q10.2).bind toV).bind fun q11 =>
        some ([vI 1], q11) := (Cd_inst rfl rfl rfl hg).trans ((Rr_blk (Cd d) 135 [14] 32 0 _ [] hp).trans rfl)
set_option maxRecDepth 100000 in
theorem c135_14 (d : Nat) (o0 o1 o2 o3 o4 : Option AV) (hp : HP) : Rr (Cd d) 135 14 [o0, o1, o2, o3, o4] [] hp =
  some ([vI 0], hp) := (Rr_blk (Cd d) 135 [14] 32 14 _ _ hp).trans rfl
set_option maxRecDepth 100000 in
theorem c136 (d : Nat) (v0 v1 : Int) (hp : HP) {n : Nat} (hg : gS hp v0 = some (11, n)) : Cd (d + 1) 136 [vA v0, vI v1] hp =
  (gF hp 11 0 v0).bind fun x1 =>
  (gF hp 11 0 v0).bind fun x2 =>
  (gF hp 10 3 x2).bind fun x3 =>
  (gF hp 0 0 x3).bind fun x4 =>
  ((Cd d 113 [vA x1, vI x4] hp).bind toA).bind fun q5 =>
  if q5.1 = 0 then none else if q5.1 < 0 then
    Rr (Cd d) 136 16 [some (vA v0), some (vI v1), some (vA q5.1)] [] q5.2
  else
    if v1 < 0 then
      Rr (Cd d) 136 16 [some (vA v0), some (vI v1), some (vA q5.1)] [] q5.2
    else
      (gF q5.2 1 5 q5.1).bind fun x6 =>
      if v1 < x6 then
        (gF q5.2 11 0 v0).bind fun x7 =>
        (gF q5.2 10 3 x7).bind fun x8 =>
        (gF q5.2 1 0 q5.1).bind fun x9 =>
        (gA q5.2 0 x9 v1).bind fun x10 =>
        (gF q5.2 1 1 q5.1).bind fun x11 =>
        (gA q5.2 0 x11 v1).bind fun x12 =>
        ((Cd d 3 [vA x8, vI x10, vI x12] q5.2).bind toI).bind fun q13 =>
        some ([vI q13.1], q13.2)
      else
        Rr (Cd d) 136 16 [some (vA v0), some (vI v1), some (vA q5.1)] [] q5.2 := (Cd_inst rfl rfl rfl hg).trans ((Rr_blk (Cd d) 136 [16] 32 0 _ [] hp).trans rfl)
set_option maxRecDepth 100000 in
theorem c136_16 (d : Nat) (o0 o1 o2 : Option AV) (hp : HP) : Rr (Cd d) 136 16 [o0, o1, o2] [] hp =
  some ([vI ((-1))], hp) := (Rr_blk (Cd d) 136 [16] 32 16 _ _ hp).trans rfl
set_option maxRecDepth 100000 in
theorem c137 (d : Nat) (v0 v1 : Int) (hp : HP) {n : Nat} (hg : gS hp v0 = some (11, n)) : Cd (d + 1) 137 [vA v0, vI v1] hp =
  (gF hp 11 0 v0).bind fun x1 =>
  (gF hp 11 0 v0).bind fun x2 =>
  (gF hp 10 3 x2).bind fun x3 =>
  (gF hp 0 0 x3).bind fun x4 =>
  ((Cd d 113 [vA x1, vI x4] hp).bind toA).bind fun q5 =>
  if v1 = (-1) then
    if q5.1 = 0 then none else if q5.1 < 0 then
      Rr (Cd d) 137 29 [some (vA v0), some (vI v1), some (vA q5.1)] [] q5.2
    else
      (gF q5.2 11 0 v0).bind fun x10 =>
      (gF q5.2 10 3 x10).bind fun x11 =>
      (gF q5.2 1 4 q5.1).bind fun x12 =>
      ((Cd d 4 [vA x11, vI x12] q5.2).bind toI).bind fun q13 =>
      if q13.1 = 0 then
        Rr (Cd d) 137 29 [some (vA v0), some (vI v1), some (vA q5.1)] [] q13.2
      else
        (gF q13.2 11 0 v0).bind fun x14 =>
        (gF q13.2 10 3 x14).bind fun x15 =>
        (gF q13.2 0 1 x15).bind fun x16 =>
        ((Cd d 12 [vA q5.1, vI x16] q13.2).bind toI).bind fun q17 =>
        if q17.1 = 0 then
          Rr (Cd d) 137 29 [some (vA v0), some (vI v1), some (vA q5.1)] [] q17.2
        else
          Rr (Cd d) 137 30 [some (vA v0), some (vI v1), some (vA q5.1)] [vI 1] q17.2
  else
    if q5.1 = 0 then none else if q5.1 < 0 then
      Rr (Cd d) 137 40 [some (vA v0), some (vI v1), some (vA q5.1)] [] q5.2
    else
      if v1 < 0 then
        Rr (Cd d) 137 40 [some (vA v0), some (vI v1), some (vA q5.1)] [] q5.2
      else
        (gF q5.2 1 4 q5.1).bind fun x6 =>
        if v1 < x6 then
          (gF q5.2 11 0 v0).bind fun x7 =>
          (gF q5.2 10 3 x7).bind fun x8 =>
          ((Cd d 5 [vA x8, vI v1] q5.2).bind toI).bind fun q9 =>
          some ([vI q9.1], q9.2)
        else
          Rr (Cd d) 137 40 [some (vA v0), some (vI v1), some (vA q5.1)] [] q5.2 := (Cd_inst rfl rfl rfl hg).trans ((Rr_blk (Cd d) 137 [29, 30, 40] 49 0 _ [] hp).trans rfl)
set_option maxRecDepth 100000 in
theorem c137_29 (d : Nat) (o0 o1 o2 : Option AV) (hp : HP) : Rr (Cd d) 137 29 [o0, o1, o2] [] hp =
  Rr (Cd d) 137 30 [o0, o1, o2] [vI 0] hp := (Rr_blk (Cd d) 137 [29, 30, 40] 49 29 _ _ hp).trans rfl
set_option maxRecDepth 100000 in
theorem c137_30 (d : Nat) (s0 : Int) (o0 o1 o2 : Option AV) (hp : HP) : Rr (Cd d) 137 30 [o0, o1, o2] [vI s0] hp =
  ((Cd d 159 [vI s0] hp).bind toI).bind fun q1 =>
  some ([vI q1.1], q1.2) := (Rr_blk (Cd d) 137 [29, 30, 40] 49 30 _ _ hp).trans rfl
set_option maxRecDepth 100000 in
theorem c137_40 (d : Nat) (o0 o1 o2 : Option AV) (hp : HP) : Rr (Cd d) 137 40 [o0, o1, o2] [] hp =
  some ([vI ((-1))], hp) := (Rr_blk (Cd d) 137 [29, 30, 40] 49 40 _ _ hp).trans rfl
set_option maxRecDepth 100000 in
theorem c138 (d : Nat) (v0 v1 v2 v3 v4 v5 : Int) (hp : HP) {n : Nat} (hg : gS hp v0 = some (11, n)) : Cd (d + 1) 138 [vA v0, vI v1, vI v2, vI v3, vI v4, vI v5] hp =
  (gF hp 11 0 v0).bind fun x1 =>
  (gF hp 10 4 x1).bind fun x2 =>
  ((Cd d 36 [vA x2, vI v1, vI v2, vI v3, vI v4, vI v5] hp).bind toI).bind fun q3 =>
  if q3.1 = 0 ∨ q3.1 = 1 then some ([vI q3.1], q3.2) else none := (Cd_inst rfl rfl rfl hg).trans ((Rr_blk (Cd d) 138 [] 11 0 _ [] hp).trans rfl)
set_option maxRecDepth 100000 in
theorem c139 (d : Nat) (v0 v1 v2 : Int) (hp : HP) {n : Nat} (hg : gS hp v0 = some (11, n)) : Cd (d + 1) 139 [vA v0, vI v1, vI v2] hp =
  ((Cd d 160 [vI v1] hp).bind toI).bind fun q1 =>
  if q1.1 = 0 then
    Rr (Cd d) 139 11 [some (vA v0), some (vI v1), some (vI v2)] [] q1.2
  else
    if v2 < 0 then
      Rr (Cd d) 139 11 [some (vA v0), some (vI v1), some (vI v2)] [] q1.2
    else
      (gF q1.2 11 0 v0).bind fun x2 =>
      (gF q1.2 10 4 x2).bind fun x3 =>
      (gF q1.2 3 4 x3).bind fun x4 =>
      if v2 < x4 then
        (gF q1.2 11 0 v0).bind fun x5 =>
        (gF q1.2 10 4 x5).bind fun x6 =>
        ((Cd d 38 [vA x6, vI v1, vI v2] q1.2).bind toI).bind fun q7 =>
        some ([vI q7.1], q7.2)
      else
        Rr (Cd d) 139 11 [some (vA v0), some (vI v1), some (vI v2)] [] q1.2 := (Cd_inst rfl rfl rfl hg).trans ((Rr_blk (Cd d) 139 [11] 21 0 _ [] hp).trans rfl)
set_option maxRecDepth 100000 in
theorem c139_11 (d : Nat) (o0 o1 o2 : Option AV) (hp : HP) : Rr (Cd d) 139 11 [o0, o1, o2] [] hp =
  some ([vI ((-1))], hp) := (Rr_blk (Cd d) 139 [11] 21 11 _ _ hp).trans rfl
set_option maxRecDepth 100000 in
theorem c140 (d : Nat) (v0 v1 : Int) (hp : HP) {n : Nat} (hg : gS hp v0 = some (11, n)) : Cd (d + 1) 140 [vA v0, vI v1] hp =
  if v1 = 0 then
    (gF hp 11 0 v0).bind fun x1 =>
    (gF hp 10 4 x1).bind fun x2 =>
    ((Cd d 39 [vA x2, vI 0] hp).bind toI).bind fun q3 =>
    if q3.1 = (-1) then
      Rr (Cd d) 140 12 [some (vA v0), some (vI v1)] [vI 1] q3.2
    else
      Rr (Cd d) 140 12 [some (vA v0), some (vI v1)] [vI 0] q3.2
  else
  if v1 = 1 then
    (gF hp 11 0 v0).bind fun x4 =>
    (gF hp 10 4 x4).bind fun x5 =>
    ((Cd d 42 [vA x5, vI 0, vI 1] hp).bind toI).bind fun q6 =>
    if q6.1 = 0 then
      (gF q6.2 11 0 v0).bind fun x7 =>
      (gF q6.2 10 4 x7).bind fun x8 =>
      ((Cd d 42 [vA x8, vI 0, vI 2] q6.2).bind toI).bind fun q9 =>
      if q9.1 = 0 then
        Rr (Cd d) 140 31 [some (vA v0), some (vI v1)] [vI 1] q9.2
      else
        Rr (Cd d) 140 30 [some (vA v0), some (vI v1)] [] q9.2
    else
      Rr (Cd d) 140 30 [some (vA v0), some (vI v1)] [] q6.2
  else
  if v1 = 2 then
    (gF hp 11 0 v0).bind fun x10 =>
    (gF hp 10 4 x10).bind fun x11 =>
    ((Cd d 39 [vA x11, vI (w32 (v1 - 2))] hp).bind toI).bind fun q12 =>
    some ([vI q12.1], q12.2)
  else
  if v1 = 3 then
    (gF hp 11 0 v0).bind fun x13 =>
    (gF hp 10 4 x13).bind fun x14 =>
    ((Cd d 39 [vA x14, vI (w32 (v1 - 2))] hp).bind toI).bind fun q15 =>
    some ([vI q15.1], q15.2)
  else
  if v1 = 4 then
    (gF hp 11 0 v0).bind fun x16 =>
    (gF hp 10 4 x16).bind fun x17 =>
    ((Cd d 39 [vA x17, vI (w32 (v1 - 2))] hp).bind toI).bind fun q18 =>
    some ([vI q18.1], q18.2)
  else
  if v1 = 5 then
    (gF hp 11 0 v0).bind fun x19 =>
    (gF hp 10 4 x19).bind fun x20 =>
    ((Cd d 39 [vA x20, vI (w32 (v1 - 2))] hp).bind toI).bind fun q21 =>
    some ([vI q21.1], q21.2)
  else
  if v1 = 6 then
    (gF hp 11 0 v0).bind fun x22 =>
    (gF hp 10 4 x22).bind fun x23 =>
    ((Cd d 42 [vA x23, vI 0, vI 1] hp).bind toI).bind fun q24 =>
    some ([vI q24.1], q24.2)
  else
  if v1 = 7 then
    (gF hp 11 0 v0).bind fun x25 =>
    (gF hp 10 4 x25).bind fun x26 =>
    ((Cd d 42 [vA x26, vI 0, vI 2] hp).bind toI).bind fun q27 =>
    some ([vI q27.1], q27.2)
  else
  if v1 = 8 then
    (gF hp 11 0 v0).bind fun x28 =>
    (gF hp 10 4 x28).bind fun x29 =>
    ((Cd d 42 [vA x29, vI 1, vI 2] hp).bind toI).bind fun q30 =>
    some ([vI q30.1], q30.2)
  else
  some ([vI ((-1))], hp) := (Cd_inst rfl rfl rfl hg).trans ((Rr_blk (Cd d) 140 [12, 30, 31] 65 0 _ [] hp).trans rfl)
set_option maxRecDepth 100000 in
theorem c140_12 (d : Nat) (s0 : Int) (o0 o1 : Option AV) (hp : HP) : Rr (Cd d) 140 12 [o0, o1] [vI s0] hp =
  ((Cd d 159 [vI s0] hp).bind toI).bind fun q1 =>
  some ([vI q1.1], q1.2) := (Rr_blk (Cd d) 140 [12, 30, 31] 65 12 _ _ hp).trans rfl
set_option maxRecDepth 100000 in
theorem c140_30 (d : Nat) (o0 o1 : Option AV) (hp : HP) : Rr (Cd d) 140 30 [o0, o1] [] hp =
  Rr (Cd d) 140 31 [o0, o1] [vI 0] hp := (Rr_blk (Cd d) 140 [12, 30, 31] 65 30 _ _ hp).trans rfl
set_option maxRecDepth 100000 in
theorem c140_31 (d : Nat) (s0 : Int) (o0 o1 : Option AV) (hp : HP) : Rr (Cd d) 140 31 [o0, o1] [vI s0] hp =
  ((Cd d 159 [vI s0] hp).bind toI).bind fun q1 =>
  some ([vI q1.1], q1.2) := (Rr_blk (Cd d) 140 [12, 30, 31] 65 31 _ _ hp).trans rfl
set_option maxRecDepth 100000 in
theorem c141 (d : Nat) (v0 v1 v2 v3 v4 v5 : Int) (hp : HP) {n : Nat} (hg : gS hp v0 = some (11, n)) : Cd (d + 1) 141 [vA v0, vI v1, vI v2, vI v3, vI v4, vI v5] hp =
  if v3 < 0 then
    Rr (Cd d) 141 21 [some (vA v0), some (vI v1), some (vI v2), some (vI v3), some (vI v4), some (vI v5)] [] hp
  else
    if 99 < v3 then
      Rr (Cd d) 141 21 [some (vA v0), some (vI v1), some (vI v2), some (vI v3), some (vI v4), some (vI v5)] [] hp
    else
      if v4 < 1 then
        Rr (Cd d) 141 21 [some (vA v0), some (vI v1), some (vI v2), some (vI v3), some (vI v4), some (vI v5)] [] hp
      else
        if 100 < v4 then
          Rr (Cd d) 141 21 [some (vA v0), some (vI v1), some (vI v2), some (vI v3), some (vI v4), some (vI v5)] [] hp
        else
          if v5 < 0 then
            Rr (Cd d) 141 21 [some (vA v0), some (vI v1), some (vI v2), some (vI v3), some (vI v4), some (vI v5)] [] hp
          else
            if 2 < v5 then
              Rr (Cd d) 141 21 [some (vA v0), some (vI v1), some (vI v2), some (vI v3), some (vI v4), some (vI v5)] [] hp
            else
              ((Cd d 152 [vA v0, vI v1, vI v2] hp).bind toI).bind fun q1 =>
              if q1.1 = 0 then
                Rr (Cd d) 141 21 [some (vA v0), some (vI v1), some (vI v2), some (vI v3), some (vI v4), some (vI v5)] [] q1.2
              else
                (gF q1.2 11 3 v0).bind fun x2 =>
                ((Cd d 60 [vA x2, vI v3, vI v4] q1.2).bind toV).bind fun q3 =>
                if v5 = 0 then
                  (gF q3 11 3 v0).bind fun x4 =>
                  (gF q3 4 11 x4).bind fun x5 =>
                  some ([vI x5], q3)
                else
                if v5 = 1 then
                  (gF q3 11 3 v0).bind fun x6 =>
                  (gF q3 4 16 x6).bind fun x7 =>
                  some ([vI x7], q3)
                else
                (gF q3 11 3 v0).bind fun x8 =>
                (gF q3 4 13 x8).bind fun x9 =>
                some ([vI x9], q3) := (Cd_inst rfl rfl rfl hg).trans ((Rr_blk (Cd d) 141 [21] 43 0 _ [] hp).trans rfl)
set_option maxRecDepth 100000 in
theorem c141_21 (d : Nat) (o0 o1 o2 o3 o4 o5 : Option AV) (hp : HP) : Rr (Cd d) 141 21 [o0, o1, o2, o3, o4, o5] [] hp =
  some ([vI ((-1))], hp) := (Rr_blk (Cd d) 141 [21] 43 21 _ _ hp).trans rfl
set_option maxRecDepth 100000 in
theorem c142 (d : Nat) (v0 v1 v2 v3 v4 v5 : Int) (hp : HP) {n : Nat} (hg : gS hp v0 = some (11, n)) : Cd (d + 1) 142 [vA v0, vI v1, vI v2, vI v3, vI v4, vI v5] hp =
  (gF hp 11 0 v0).bind fun x1 =>
  ((Cd d 114 [vA x1, vI v1] hp).bind toA).bind fun q2 =>
  (gF q2.2 11 0 v0).bind fun x3 =>
  ((Cd d 113 [vA x3, vI v2] q2.2).bind toA).bind fun q4 =>
  (gF q4.2 11 0 v0).bind fun x5 =>
  ((Cd d 113 [vA x5, vI v4] q4.2).bind toA).bind fun q6 =>
  if q2.1 = 0 then none else if q2.1 < 0 then
    Rr (Cd d) 142 21 [some (vA v0), some (vI v1), some (vI v2), some (vI v3), some (vI v4), some (vI v5), some (vA q2.1), some (vA q4.1), some (vA q6.1), none, none] [] q6.2
  else
    if q4.1 = 0 then none else if q4.1 < 0 then
      Rr (Cd d) 142 21 [some (vA v0), some (vI v1), some (vI v2), some (vI v3), some (vI v4), some (vI v5), some (vA q2.1), some (vA q4.1), some (vA q6.1), none, none] [] q6.2
    else
      if q6.1 = 0 then none else if q6.1 < 0 then
        Rr (Cd d) 142 21 [some (vA v0), some (vI v1), some (vI v2), some (vI v3), some (vI v4), some (vI v5), some (vA q2.1), some (vA q4.1), some (vA q6.1), none, none] [] q6.2
      else
        (gF q6.2 1 5 q4.1).bind fun x7 =>
        (gF q6.2 1 5 q6.1).bind fun x8 =>
        if x7 = x8 then
          (gF q6.2 1 5 q4.1).bind fun x9 =>
          if x9 = 0 then
            Rr (Cd d) 142 31 [some (vA v0), some (vI v1), some (vI v2), some (vI v3), some (vI v4), some (vI v5), some (vA q2.1), some (vA q4.1), some (vA q6.1), none, none] [] q6.2
          else
            ((Cd d 13 [vA q4.1] q6.2).bind toV).bind fun q10 =>
            ((Cd d 13 [vA q6.1] q10).bind toV).bind fun q11 =>
            ((Cd d 15 [vA q4.1, vI v3] q11).bind toI).bind fun q12 =>
            ((Cd d 15 [vA q6.1, vI v5] q12.2).bind toI).bind fun q13 =>
            if q12.1 = (-1) then
              Rr (Cd d) 142 51 [some (vA v0), some (vI v1), some (vI v2), some (vI v3), some (vI v4), some (vI v5), some (vA q2.1), some (vA q4.1), some (vA q6.1), some (vI q12.1), some (vI q13.1)] [] q13.2
            else
              if q13.1 = (-1) then
                Rr (Cd d) 142 51 [some (vA v0), some (vI v1), some (vI v2), some (vI v3), some (vI v4), some (vI v5), some (vA q2.1), some (vA q4.1), some (vA q6.1), some (vI q12.1), some (vI q13.1)] [] q13.2
              else
                (gF q13.2 8 1 q2.1).bind fun x14 =>
                ((Cd d 162 [vI x14] q13.2).bind toI).bind fun q15 =>
                ((Cd d 154 [vA q4.1, vI q12.1, vA q6.1, vI q13.1, vI q15.1] q15.2).bind toI).bind fun q16 =>
                some ([vI q16.1], q16.2)
        else
          Rr (Cd d) 142 31 [some (vA v0), some (vI v1), some (vI v2), some (vI v3), some (vI v4), some (vI v5), some (vA q2.1), some (vA q4.1), some (vA q6.1), none, none] [] q6.2 := (Cd_inst rfl rfl rfl hg).trans ((Rr_blk (Cd d) 142 [21, 31, 51] 63 0 _ [] hp).trans rfl)
set_option maxRecDepth 100000 in
theorem c142_21 (d : Nat) (o0 o1 o2 o3 o4 o5 o6 o7 o8 o9 o10 : Option AV) (hp : HP) : Rr (Cd d) 142 21 [o0, o1, o2, o3, o4, o5, o6, o7, o8, o9, o10] [] hp =
  some ([vI ((-1))], hp) := (Rr_blk (Cd d) 142 [21, 31, 51] 63 21 _ _ hp).trans rfl
set_option maxRecDepth 100000 in
theorem c142_31 (d : Nat) (o0 o1 o2 o3 o4 o5 o6 o7 o8 o9 o10 : Option AV) (hp : HP) : Rr (Cd d) 142 31 [o0, o1, o2, o3, o4, o5, o6, o7, o8, o9, o10] [] hp =
  some ([vI ((-1))], hp) := (Rr_blk (Cd d) 142 [21, 31, 51] 63 31 _ _ hp).trans rfl
set_option maxRecDepth 100000 in
theorem c142_51 (d : Nat) (o0 o1 o2 o3 o4 o5 o6 o7 o8 o9 o10 : Option AV) (hp : HP) : Rr (Cd d) 142 51 [o0, o1, o2, o3, o4, o5, o6, o7, o8, o9, o10] [] hp =
  some ([vI ((-1))], hp) := (Rr_blk (Cd d) 142 [21, 31, 51] 63 51 _ _ hp).trans rfl
set_option maxRecDepth 100000 in
theorem c143 (d : Nat) (v0 v1 : Int) (hp : HP) {n : Nat} (hg : gS hp v0 = some (11, n)) : Cd (d + 1) 143 [vA v0, vI v1] hp =
  if v1 < 1 then
    Rr (Cd d) 143 6 [some (vA v0), some (vI v1)] [] hp
  else
    if 3 < v1 then
      Rr (Cd d) 143 6 [some (vA v0), some (vI v1)] [] hp
    else
      (gF hp 11 0 v0).bind fun x1 =>
      (gF hp 10 5 x1).bind fun x2 =>
      ((Cd d 91 [vA x2, vI v1] hp).bind toV).bind fun q3 =>
      some ([vI 1], q3) := (Cd_inst rfl rfl rfl hg).trans ((Rr_blk (Cd d) 143 [6] 16 0 _ [] hp).trans rfl)
set_option maxRecDepth 100000 in
theorem c143_6 (d : Nat) (o0 o1 : Option AV) (hp : HP) : Rr (Cd d) 143 6 [o0, o1] [] hp =
  some ([vI 0], hp) := (Rr_blk (Cd d) 143 [6] 16 6 _ _ hp).trans rfl
set_option maxRecDepth 100000 in
theorem c144 (d : Nat) (v0 v1 v2 v3 : Int) (hp : HP) {n : Nat} (hg : gS hp v0 = some (11, n)) : Cd (d + 1) 144 [vA v0, vI v1, vI v2, vI v3] hp =
  (gF hp 11 0 v0).bind fun x1 =>
  (gF hp 10 5 x1).bind fun x2 =>
  ((Cd d 94 [vA x2, vI v1, vI v2, vI v3] hp).bind toI).bind fun q3 =>
  some ([vI q3.1], q3.2) := (Cd_inst rfl rfl rfl hg).trans ((Rr_blk (Cd d) 144 [] 9 0 _ [] hp).trans rfl)
set_option maxRecDepth 100000 in
theorem c145 (d : Nat) (v0 v1 : Int) (hp : HP) {n : Nat} (hg : gS hp v0 = some (11, n)) : Cd (d + 1) 145 [vA v0, vI v1] hp =
  if v1 = 0 then
    (gF hp 11 0 v0).bind fun x1 =>
    (gF hp 10 5 x1).bind fun x2 =>
    ((Cd d 98 [vA x2] hp).bind toI).bind fun q3 =>
    some ([vI q3.1], q3.2)
  else
  if v1 = 1 then
    (gF hp 11 0 v0).bind fun x4 =>
    (gF hp 10 5 x4).bind fun x5 =>
    ((Cd d 96 [vA x5] hp).bind toI).bind fun q6 =>
    some ([vI q6.1], q6.2)
  else
  if v1 = 2 then
    (gF hp 11 0 v0).bind fun x7 =>
    (gF hp 10 5 x7).bind fun x8 =>
    ((Cd d 97 [vA x8] hp).bind toI).bind fun q9 =>
    some ([vI q9.1], q9.2)
  else
  if v1 = 3 then
    (gF hp 11 0 v0).bind fun x10 =>
    (gF hp 10 5 x10).bind fun x11 =>
    ((Cd d 101 [vA x11] hp).bind toI).bind fun q12 =>
    some ([vI q12.1], q12.2)
  else
  if v1 < 1000 then
    Rr (Cd d) 145 33 [some (vA v0), some (vI v1)] [] hp
  else
    (gF hp 11 0 v0).bind fun x13 =>
    (gF hp 10 5 x13).bind fun x14 =>
    ((Cd d 95 [vA x14] hp).bind toI).bind fun q15 =>
    if v1 < w32 (1000 + q15.1) then
      (gF q15.2 11 0 v0).bind fun x16 =>
      (gF q15.2 10 5 x16).bind fun x17 =>
      ((Cd d 102 [vA x17, vI (w32 (v1 - 1000))] q15.2).bind toI).bind fun q18 =>
      some ([vI q18.1], q18.2)
    else
      Rr (Cd d) 145 33 [some (vA v0), some (vI v1)] [] q15.2 := (Cd_inst rfl rfl rfl hg).trans ((Rr_blk (Cd d) 145 [33] 44 0 _ [] hp).trans rfl)
set_option maxRecDepth 100000 in
theorem c145_33 (d : Nat) (o0 o1 : Option AV) (hp : HP) : Rr (Cd d) 145 33 [o0, o1] [] hp =
  some ([vI ((-1))], hp) := (Rr_blk (Cd d) 145 [33] 44 33 _ _ hp).trans rfl
set_option maxRecDepth 100000 in
theorem c146 (d : Nat) (v0 v1 v2 v3 v4 : Int) (hp : HP) {n : Nat} (hg : gS hp v0 = some (11, n)) : Cd (d + 1) 146 [vA v0, vI v1, vI v2, vI v3, vI v4] hp =
  (gF hp 11 0 v0).bind fun x1 =>
  ((Cd d 114 [vA x1, vI v1] hp).bind toA).bind fun q2 =>
  (gF q2.2 11 0 v0).bind fun x3 =>
  ((Cd d 113 [vA x3, vI v2] q2.2).bind toA).bind fun q4 =>
  (gF q4.2 11 0 v0).bind fun x5 =>
  ((Cd d 113 [vA x5, vI v3] q4.2).bind toA).bind fun q6 =>
  if q2.1 = 0 then none else if q2.1 < 0 then
    Rr (Cd d) 146 26 [some (vA v0), some (vI v1), some (vI v2), some (vI v3), some (vI v4), some (vA q2.1), some (vA q4.1), some (vA q6.1), none] [] q6.2
  else
    if q4.1 = 0 then none else if q4.1 < 0 then
      Rr (Cd d) 146 26 [some (vA v0), some (vI v1), some (vI v2), some (vI v3), some (vI v4), some (vA q2.1), some (vA q4.1), some (vA q6.1), none] [] q6.2
    else
      if q6.1 = 0 then none else if q6.1 < 0 then
        Rr (Cd d) 146 26 [some (vA v0), some (vI v1), some (vI v2), some (vI v3), some (vI v4), some (vA q2.1), some (vA q4.1), some (vA q6.1), none] [] q6.2
      else
        if v4 < 0 then
          Rr (Cd d) 146 26 [some (vA v0), some (vI v1), some (vI v2), some (vI v3), some (vI v4), some (vA q2.1), some (vA q4.1), some (vA q6.1), none] [] q6.2
        else
          if 4 < v4 then
            Rr (Cd d) 146 26 [some (vA v0), some (vI v1), some (vI v2), some (vI v3), some (vI v4), some (vA q2.1), some (vA q4.1), some (vA q6.1), none] [] q6.2
          else
            ((Cd d 13 [vA q4.1] q6.2).bind toV).bind fun q7 =>
            ((Cd d 13 [vA q6.1] q7).bind toV).bind fun q8 =>
            (gF q8 1 8 q4.1).bind fun x9 =>
            if x9 = 0 then
              Rr (Cd d) 146 38 [some (vA v0), some (vI v1), some (vI v2), some (vI v3), some (vI v4), some (vA q2.1), some (vA q4.1), some (vA q6.1), none] [] q8
            else
              (gF q8 1 8 q6.1).bind fun x10 =>
              if 0 < x10 then
                Rr (Cd d) 146 38 [some (vA v0), some (vI v1), some (vI v2), some (vI v3), some (vI v4), some (vA q2.1), some (vA q4.1), some (vA q6.1), none] [] q8
              else
                ((Cd d 156 [vA v0, vA q2.1, vA q4.1, vA q6.1] q8).bind toI).bind fun q11 =>
                if q11.1 = (-1) then
                  Rr (Cd d) 146 55 [some (vA v0), some (vI v1), some (vI v2), some (vI v3), some (vI v4), some (vA q2.1), some (vA q4.1), some (vA q6.1), some (vI q11.1)] [vI ((-1))] q11.2
                else
                  ((Cd d 157 [vA q2.1, vI q11.1, vI v4] q11.2).bind toI).bind fun q12 =>
                  Rr (Cd d) 146 55 [some (vA v0), some (vI v1), some (vI v2), some (vI v3), some (vI v4), some (vA q2.1), some (vA q4.1), some (vA q6.1), some (vI q11.1)] [vI q12.1] q12.2 := (Cd_inst rfl rfl rfl hg).trans ((Rr_blk (Cd d) 146 [26, 38, 55] 57 0 _ [] hp).trans rfl)
set_option maxRecDepth 100000 in
theorem c146_26 (d : Nat) (o0 o1 o2 o3 o4 o5 o6 o7 o8 : Option AV) (hp : HP) : Rr (Cd d) 146 26 [o0, o1, o2, o3, o4, o5, o6, o7, o8] [] hp =
  some ([vI ((-1))], hp) := (Rr_blk (Cd d) 146 [26, 38, 55] 57 26 _ _ hp).trans rfl
set_option maxRecDepth 100000 in
theorem c146_38 (d : Nat) (o0 o1 o2 o3 o4 o5 o6 o7 o8 : Option AV) (hp : HP) : Rr (Cd d) 146 38 [o0, o1, o2, o3, o4, o5, o6, o7, o8] [] hp =
  some ([vI ((-1))], hp) := (Rr_blk (Cd d) 146 [26, 38, 55] 57 38 _ _ hp).trans rfl
set_option maxRecDepth 100000 in
theorem c146_55 (d : Nat) (s0 : Int) (o0 o1 o2 o3 o4 o5 o6 o7 o8 : Option AV) (hp : HP) : Rr (Cd d) 146 55 [o0, o1, o2, o3, o4, o5, o6, o7, o8] [vI s0] hp =
  some ([vI s0], hp) := (Rr_blk (Cd d) 146 [26, 38, 55] 57 55 _ _ hp).trans rfl
set_option maxRecDepth 100000 in
theorem c147 (d : Nat) (v0 : Int) (hp : HP) {n : Nat} (hg : gS hp v0 = some (11, n)) : Cd (d + 1) 147 [vA v0] hp =
  (gF hp 11 1 v0).bind fun x1 =>
  (gF hp 11 0 v0).bind fun x2 =>
  ((Cd d 115 [vA x1, vA x2] hp).bind toV).bind fun q3 =>
  (gF q3 11 0 v0).bind fun x4 =>
  (gF q3 10 7 x4).bind fun x5 =>
  some ([vI x5], q3) := (Cd_inst rfl rfl rfl hg).trans ((Rr_blk (Cd d) 147 [] 10 0 _ [] hp).trans rfl)
set_option maxRecDepth 100000 in
theorem c148 (d : Nat) (v0 : Int) (hp : HP) {n : Nat} (hg : gS hp v0 = some (11, n)) : Cd (d + 1) 148 [vA v0] hp =
  (gF hp 11 0 v0).bind fun x1 =>
  (gF hp 11 1 v0).bind fun x2 =>
  ((Cd d 115 [vA x1, vA x2] hp).bind toV).bind fun q3 =>
  (gF q3 11 0 v0).bind fun x4 =>
  (gF q3 10 7 x4).bind fun x5 =>
  some ([vI x5], q3) := (Cd_inst rfl rfl rfl hg).trans ((Rr_blk (Cd d) 148 [] 10 0 _ [] hp).trans rfl)
set_option maxRecDepth 100000 in
theorem c149 (d : Nat) (v0 v1 : Int) (hp : HP) {n : Nat} (hg : gS hp v0 = some (11, n)) : Cd (d + 1) 149 [vA v0, vI v1] hp =
  if v1 = 0 then
    (gF hp 11 0 v0).bind fun x1 =>
    (gF hp 10 6 x1).bind fun x2 =>
    some ([vI x2], hp)
  else
  if v1 = 1 then
    (gF hp 11 0 v0).bind fun x3 =>
    (gF hp 10 7 x3).bind fun x4 =>
    some ([vI x4], hp)
  else
  if v1 = 2 then
    (gF hp 11 0 v0).bind fun x5 =>
    (gF hp 10 5 x5).bind fun x6 =>
    (gF hp 7 2 x6).bind fun x7 =>
    some ([vI x7], hp)
  else
  if v1 = 3 then
    (gF hp 11 0 v0).bind fun x8 =>
    (gF hp 10 5 x8).bind fun x9 =>
    (gF hp 7 1 x9).bind fun x10 =>
    some ([vI x10], hp)
  else
  if v1 = 4 then
    (gF hp 11 2 v0).bind fun x11 =>
    (gF hp 6 5 x11).bind fun x12 =>
    some ([vI x12], hp)
  else
  if v1 = 5 then
    (gF hp 11 0 v0).bind fun x13 =>
    (gF hp 10 2 x13).bind fun x14 =>
    ((Cd d 109 [vA x14] hp).bind toI).bind fun q15 =>
    some ([vI q15.1], q15.2)
  else
  if v1 < 10 then
    Rr (Cd d) 149 35 [some (vA v0), some (vI v1)] [] hp
  else
    if 59 < v1 then
      Rr (Cd d) 149 35 [some (vA v0), some (vI v1)] [] hp
    else
      if v1 < 30 then
        ((Cd d 150 [vA v0, vI (idiv v1 10), vI (irem v1 10)] hp).bind toI).bind fun q17 =>
        Rr (Cd d) 149 57 [some (vA v0), some (vI v1)] [vI q17.1] q17.2
      else
        ((Cd d 151 [vA v0, vI (idiv v1 10), vI (irem v1 10)] hp).bind toI).bind fun q16 =>
        Rr (Cd d) 149 57 [some (vA v0), some (vI v1)] [vI q16.1] q16.2 := (Cd_inst rfl rfl rfl hg).trans ((Rr_blk (Cd d) 149 [35, 57] 59 0 _ [] hp).trans rfl)
set_option maxRecDepth 100000 in
theorem c149_35 (d : Nat) (o0 o1 : Option AV) (hp : HP) : Rr (Cd d) 149 35 [o0, o1] [] hp =
  some ([vI ((-1))], hp) := (Rr_blk (Cd d) 149 [35, 57] 59 35 _ _ hp).trans rfl
set_option maxRecDepth 100000 in
theorem c149_57 (d : Nat) (s0 : Int) (o0 o1 : Option AV) (hp : HP) : Rr (Cd d) 149 57 [o0, o1] [vI s0] hp =
  some ([vI s0], hp) := (Rr_blk (Cd d) 149 [35, 57] 59 57 _ _ hp).trans rfl
set_option maxRecDepth 100000 in
theorem c150 (d : Nat) (v0 v1 v2 : Int) (hp : HP) {n : Nat} (hg : gS hp v0 = some (11, n)) : Cd (d + 1) 150 [vA v0, vI v1, vI v2] hp =
  (gF hp 11 0 v0).bind fun x1 =>
  ((Cd d 113 [vA x1, vI v2] hp).bind toA).bind fun q2 =>
  if q2.1 = 0 then none else if q2.1 < 0 then
    some ([vI ((-1))], q2.2)
  else
    if v1 = 1 then
      (gF q2.2 1 4 q2.1).bind fun x4 =>
      Rr (Cd d) 150 17 [some (vA v0), some (vI v1), some (vI v2), some (vA q2.1)] [vI x4] q2.2
    else
      (gF q2.2 1 5 q2.1).bind fun x3 =>
      Rr (Cd d) 150 17 [some (vA v0), some (vI v1), some (vI v2), some (vA q2.1)] [vI x3] q2.2 := (Cd_inst rfl rfl rfl hg).trans ((Rr_blk (Cd d) 150 [17] 19 0 _ [] hp).trans rfl)
set_option maxRecDepth 100000 in
theorem c150_17 (d : Nat) (s0 : Int) (o0 o1 o2 o3 : Option AV) (hp : HP) : Rr (Cd d) 150 17 [o0, o1, o2, o3] [vI s0] hp =
  some ([vI s0], hp) := (Rr_blk (Cd d) 150 [17] 19 17 _ _ hp).trans rfl
set_option maxRecDepth 100000 in
theorem c151 (d : Nat) (v0 v1 v2 : Int) (hp : HP) {n : Nat} (hg : gS hp v0 = some (11, n)) : Cd (d + 1) 151 [vA v0, vI v1, vI v2] hp =
  (gF hp 11 0 v0).bind fun x1 =>
  ((Cd d 114 [vA x1, vI v2] hp).bind toA).bind fun q2 =>
  if q2.1 = 0 then none else if q2.1 < 0 then
    some ([vI ((-1))], q2.2)
  else
    if v1 = 3 then
      (gF q2.2 8 1 q2.1).bind fun x3 =>
      some ([vI x3], q2.2)
    else
    if v1 = 4 then
      (gF q2.2 8 3 q2.1).bind fun x4 =>
      ((Cd d 159 [vI x4] q2.2).bind toI).bind fun q5 =>
      some ([vI q5.1], q5.2)
    else
    if v1 = 5 then
      (gF q2.2 8 2 q2.1).bind fun x6 =>
      some ([vI x6], q2.2)
    else
    some ([vI ((-1))], q2.2) := (Cd_inst rfl rfl rfl hg).trans ((Rr_blk (Cd d) 151 [] 24 0 _ [] hp).trans rfl)
set_option maxRecDepth 100000 in
theorem c152 (d : Nat) (v0 v1 v2 : Int) (hp : HP) {n : Nat} (hg : gS hp v0 = some (11, n)) : Cd (d + 1) 152 [vA v0, vI v1, vI v2] hp =
  (gF hp 11 0 v0).bind fun x1 =>
  ((Cd d 114 [vA x1, vI v1] hp).bind toA).bind fun q2 =>
  (gF q2.2 11 0 v0).bind fun x3 =>
  ((Cd d 113 [vA x3, vI v2] q2.2).bind toA).bind fun q4 =>
  if q2.1 = 0 then none else if q2.1 < 0 then
    Rr (Cd d) 152 14 [some (vA v0), some (vI v1), some (vI v2), some (vA q2.1), some (vA q4.1)] [] q4.2
  else
    if q4.1 = 0 then none else if q4.1 < 0 then
      Rr (Cd d) 152 14 [some (vA v0), some (vI v1), some (vI v2), some (vA q2.1), some (vA q4.1)] [] q4.2
    else
      ((Cd d 13 [vA q4.1] q4.2).bind toV).bind fun q5 =>
      (gF q5 11 3 v0).bind fun x6 =>
      (gF q5 8 1 q2.1).bind fun x7 =>
      (gF q5 8 3 q2.1).bind fun x8 =>
      (gF q5 8 2 q2.1).bind fun x9 =>
      (gF q5 8 0 q2.1).bind fun x10 =>
      ((Cd d 45 [vA x6, vA q4.1, vI x7, vI x8, vI x9, vA x10] q5).bind toV).bind fun q11 =>
      some ([vI 1], q11) := (Cd_inst rfl rfl rfl hg).trans ((Rr_blk (Cd d) 152 [14] 33 0 _ [] hp).trans rfl)
set_option maxRecDepth 100000 in
theorem c152_14 (d : Nat) (o0 o1 o2 o3 o4 : Option AV) (hp : HP) : Rr (Cd d) 152 14 [o0, o1, o2, o3, o4] [] hp =
  some ([vI 0], hp) := (Rr_blk (Cd d) 152 [14] 33 14 _ _ hp).trans rfl
set_option maxRecDepth 100000 in
theorem c153 (d : Nat) (v0 v1 : Int) (hp : HP) {n : Nat} (hg : gS hp v0 = some (11, n)) : Cd (d + 1) 153 [vA v0, vI v1] hp =
  (gF hp 11 5 v0).bind fun x1 =>
  ((Cd d 63 [vA x1, vI v1] hp).bind toV).bind fun q2 =>
  (gF q2 11 6 v0).bind fun x3 =>
  ((Cd d 63 [vA x3, vI 1] q2).bind toV).bind fun q4 =>
  Rr (Cd d) 153 10 [some (vA v0), some (vI v1), some (vI 1)] [] q4 := (Cd_inst rfl rfl rfl hg).trans ((Rr_blk (Cd d) 153 [10] 38 0 _ [] hp).trans rfl)
set_option maxRecDepth 100000 in
theorem c153_10 (d : Nat) (v0 v2 : Int) (o1 : Option AV) (hp : HP) : Rr (Cd d) 153 10 [some (vA v0), o1, some (vI v2)] [] hp =
  if v2 < 500 then
    (gF hp 11 5 v0).bind fun x1 =>
    (gF hp 11 3 v0).bind fun x2 =>
    (gF hp 4 9 x2).bind fun x3 =>
    ((Cd d 64 [vA x1, vI x3] hp).bind toV).bind fun q4 =>
    (gF q4 11 6 v0).bind fun x5 =>
    (gF q4 11 3 v0).bind fun x6 =>
    (gF q4 4 8 x6).bind fun x7 =>
    ((Cd d 64 [vA x5, vI x7] q4).bind toV).bind fun q8 =>
    (gF q8 11 5 v0).bind fun x9 =>
    (gF q8 11 6 v0).bind fun x10 =>
    ((Cd d 65 [vA x9, vA x10] q8).bind toI).bind fun q11 =>
    if q11.1 = 0 then
      some ([vI v2], q11.2)
    else
      Rr (Cd d) 153 10 [some (vA v0), o1, some (vI (w32 (v2 + 1)))] [] q11.2
  else
    some ([vI ((-1))], hp) := (Rr_blk (Cd d) 153 [10] 38 10 _ _ hp).trans rfl
set_option maxRecDepth 100000 in
theorem c154 (d : Nat) (v0 v1 v2 v3 v4 : Int) (hp : HP) : Cd (d + 1) 154 [vA v0, vI v1, vA v2, vI v3, vI v4] hp =
  Rr (Cd d) 154 4 [some (vA v0), some (vI v1), some (vA v2), some (vI v3), some (vI v4), some (vI 0), some (vI 0), none, none, none] [] hp := (Rr_blk (Cd d) 154 [4, 16] 39 0 _ [] hp).trans rfl
set_option maxRecDepth 100000 in
theorem c154_4 (d : Nat) (v0 v1 v2 v3 v4 v5 v6 : Int) (o7 o8 o9 : Option AV) (hp : HP) : Rr (Cd d) 154 4 [some (vA v0), some (vI v1), some (vA v2), some (vI v3), some (vI v4), some (vI v5), some (vI v6), o7, o8, o9] [] hp =
  (gF hp 1 5 v0).bind fun x1 =>
  if v6 < x1 then
    ((Cd d 16 [vA v0, vI v6, vI v1, vI v4] hp).bind toI).bind fun q2 =>
    Rr (Cd d) 154 16 [some (vA v0), some (vI v1), some (vA v2), some (vI v3), some (vI v4), some (vI v5), some (vI v6), some (vI q2.1), some (vI 0), o9] [] q2.2
  else
    some ([vI v5], hp) := (Rr_blk (Cd d) 154 [4, 16] 39 4 _ _ hp).trans rfl
set_option maxRecDepth 100000 in
theorem c154_16 (d : Nat) (v0 v1 v2 v3 v4 v5 v6 v7 v8 : Int) (o9 : Option AV) (hp : HP) : Rr (Cd d) 154 16 [some (vA v0), some (vI v1), some (vA v2), some (vI v3), some (vI v4), some (vI v5), some (vI v6), some (vI v7), some (vI v8), o9] [] hp =
  (gF hp 1 5 v2).bind fun x1 =>
  if v8 < x1 then
    ((Cd d 16 [vA v2, vI v8, vI v3, vI v4] hp).bind toI).bind fun q2 =>
    ((Cd d 155 [vI v7, vI q2.1] q2.2).bind toI).bind fun q3 =>
    Rr (Cd d) 154 16 [some (vA v0), some (vI v1), some (vA v2), some (vI v3), some (vI v4), some (vI (w32 (v5 + q3.1))), some (vI v6), some (vI v7), some (vI (w32 (v8 + 1))), some (vI q2.1)] [] q3.2
  else
    Rr (Cd d) 154 4 [some (vA v0), some (vI v1), some (vA v2), some (vI v3), some (vI v4), some (vI v5), some (vI (w32 (v6 + 1))), some (vI v7), some (vI v8), o9] [] hp := (Rr_blk (Cd d) 154 [4, 16] 39 16 _ _ hp).trans rfl
set_option maxRecDepth 100000 in
theorem c155 (d : Nat) (v0 v1 : Int) (hp : HP) : Cd (d + 1) 155 [vI v0, vI v1] hp =
  ((Cd d 284 [vI v0] hp).bind toI).bind fun q1 =>
  ((Cd d 284 [vI v1] q1.2).bind toI).bind fun q2 =>
  some ([vI (w32 (w32 (q1.1 * (w32 (6 - q2.1))) + (w32 ((w32 (6 - q1.1)) * q2.1))))], q2.2) := (Rr_blk (Cd d) 155 [] 19 0 _ [] hp).trans rfl
set_option maxRecDepth 100000 in
theorem c156 (d : Nat) (v0 v1 v2 v3 : Int) (hp : HP) {n : Nat} (hg : gS hp v0 = some (11, n)) : Cd (d + 1) 156 [vA v0, vA v1, vA v2, vA v3] hp =
  Rr (Cd d) 156 2 [some (vA v0), some (vA v1), some (vA v2), some (vA v3), some (vI 0), none] [] hp := (Cd_inst rfl rfl rfl hg).trans ((Rr_blk (Cd d) 156 [2, 7, 25] 32 0 _ [] hp).trans rfl)
set_option maxRecDepth 100000 in
theorem c156_2 (d : Nat) (v0 v1 v2 v3 v4 : Int) (o5 : Option AV) (hp : HP) : Rr (Cd d) 156 2 [some (vA v0), some (vA v1), some (vA v2), some (vA v3), some (vI v4), o5] [] hp =
  if 4 < v4 then
    some ([vI ((-1))], hp)
  else
    Rr (Cd d) 156 7 [some (vA v0), some (vA v1), some (vA v2), some (vA v3), some (vI v4), some (vI 0)] [] hp := (Rr_blk (Cd d) 156 [2, 7, 25] 32 2 _ _ hp).trans rfl
set_option maxRecDepth 100000 in
theorem c156_7 (d : Nat) (v0 v1 v2 v3 v4 v5 : Int) (hp : HP) : Rr (Cd d) 156 7 [some (vA v0), some (vA v1), some (vA v2), some (vA v3), some (vI v4), some (vI v5)] [] hp =
  if v5 < 48 then
    ((Cd d 157 [vA v1, vI v5, vI 0] hp).bind toI).bind fun q1 =>
    if q1.1 = v4 then
      ((Cd d 158 [vA v0, vA v1, vA v2, vA v3, vI v5] q1.2).bind toI).bind fun q2 =>
      if q2.1 = 0 then
        Rr (Cd d) 156 25 [some (vA v0), some (vA v1), some (vA v2), some (vA v3), some (vI v4), some (vI v5)] [] q2.2
      else
        some ([vI v5], q2.2)
    else
      Rr (Cd d) 156 25 [some (vA v0), some (vA v1), some (vA v2), some (vA v3), some (vI v4), some (vI v5)] [] q1.2
  else
    Rr (Cd d) 156 2 [some (vA v0), some (vA v1), some (vA v2), some (vA v3), some (vI (w32 (v4 + 1))), some (vI v5)] [] hp := (Rr_blk (Cd d) 156 [2, 7, 25] 32 7 _ _ hp).trans rfl
set_option maxRecDepth 100000 in
theorem c156_25 (d : Nat) (v0 v1 v2 v3 v4 v5 : Int) (hp : HP) : Rr (Cd d) 156 25 [some (vA v0), some (vA v1), some (vA v2), some (vA v3), some (vI v4), some (vI v5)] [] hp =
  Rr (Cd d) 156 7 [some (vA v0), some (vA v1), some (vA v2), some (vA v3), some (vI v4), some (vI (w32 (v5 + 1)))] [] hp := (Rr_blk (Cd d) 156 [2, 7, 25] 32 25 _ _ hp).trans rfl
set_option maxRecDepth 100000 in
theorem c157 (d : Nat) (v0 v1 v2 : Int) (hp : HP) : Cd (d + 1) 157 [vA v0, vI v1, vI v2] hp =
  (gL hp 4).bind fun x1 =>
  if x1 = 0 then none else
  (gA hp 0 4 (irem (idiv v1 12) x1)).bind fun x2 =>
  if v2 = 0 then
    (gF hp 8 1 v0).bind fun x3 =>
    if x2 = x3 then
      Rr (Cd d) 157 34 [some (vA v0), some (vI v1), some (vI v2), some (vI x2), some (vI (irem (idiv v1 6) 2)), some (vI (irem (idiv v1 2) 3)), some (vI (irem v1 2))] [vI 0] hp
    else
      Rr (Cd d) 157 34 [some (vA v0), some (vI v1), some (vI v2), some (vI x2), some (vI (irem (idiv v1 6) 2)), some (vI (irem (idiv v1 2) 3)), some (vI (irem v1 2))] [vI 1] hp
  else
  if v2 = 1 then
    some ([vI x2], hp)
  else
  if v2 = 2 then
    some ([vI (irem (idiv v1 6) 2)], hp)
  else
  if v2 = 3 then
    some ([vI (irem (idiv v1 2) 3)], hp)
  else
  some ([vI (irem v1 2)], hp) := (Rr_blk (Cd d) 157 [34, 43, 52] 66 0 _ [] hp).trans rfl
set_option maxRecDepth 100000 in
theorem c157_34 (d : Nat) (v0 v4 v5 v6 s0 : Int) (o1 o2 o3 : Option AV) (hp : HP) : Rr (Cd d) 157 34 [some (vA v0), o1, o2, o3, some (vI v4), some (vI v5), some (vI v6)] [vI s0] hp =
  ((Cd d 159 [vI s0] hp).bind toI).bind fun q1 =>
  (gF q1.2 8 3 v0).bind fun x2 =>
  ((Cd d 159 [vI x2] q1.2).bind toI).bind fun q3 =>
  if v4 = q3.1 then
    Rr (Cd d) 157 43 [some (vA v0), o1, o2, o3, some (vI v4), some (vI v5), some (vI v6)] [vI 0, vI q1.1] q3.2
  else
    Rr (Cd d) 157 43 [some (vA v0), o1, o2, o3, some (vI v4), some (vI v5), some (vI v6)] [vI 1, vI q1.1] q3.2 := (Rr_blk (Cd d) 157 [34, 43, 52] 66 34 _ _ hp).trans rfl
set_option maxRecDepth 100000 in
theorem c157_43 (d : Nat) (v0 v5 v6 s0 s1 : Int) (o1 o2 o3 o4 : Option AV) (hp : HP) : Rr (Cd d) 157 43 [some (vA v0), o1, o2, o3, o4, some (vI v5), some (vI v6)] [vI s1, vI s0] hp =
  ((Cd d 159 [vI s1] hp).bind toI).bind fun q1 =>
  (gF q1.2 8 2 v0).bind fun x2 =>
  if v5 = x2 then
    Rr (Cd d) 157 52 [some (vA v0), o1, o2, o3, o4, some (vI v5), some (vI v6)] [vI 0, vI (w32 (s0 + q1.1))] q1.2
  else
    Rr (Cd d) 157 52 [some (vA v0), o1, o2, o3, o4, some (vI v5), some (vI v6)] [vI 1, vI (w32 (s0 + q1.1))] q1.2 := (Rr_blk (Cd d) 157 [34, 43, 52] 66 43 _ _ hp).trans rfl
set_option maxRecDepth 100000 in
theorem c157_52 (d : Nat) (v6 s0 s1 : Int) (o0 o1 o2 o3 o4 o5 : Option AV) (hp : HP) : Rr (Cd d) 157 52 [o0, o1, o2, o3, o4, o5, some (vI v6)] [vI s1, vI s0] hp =
  ((Cd d 159 [vI s1] hp).bind toI).bind fun q1 =>
  some ([vI (w32 (w32 (s0 + q1.1) + v6))], q1.2) := (Rr_blk (Cd d) 157 [34, 43, 52] 66 52 _ _ hp).trans rfl
set_option maxRecDepth 100000 in
theorem c158 (d : Nat) (v0 v1 v2 v3 v4 : Int) (hp : HP) {n : Nat} (hg : gS hp v0 = some (11, n)) : Cd (d + 1) 158 [vA v0, vA v1, vA v2, vA v3, vI v4] hp =
  ((Cd d 157 [vA v1, vI v4, vI 1] hp).bind toI).bind fun q1 =>
  ((Cd d 157 [vA v1, vI v4, vI 2] q1.2).bind toI).bind fun q2 =>
  if q2.1 = 1 then
    Rr (Cd d) 158 14 [some (vA v0), some (vA v1), some (vA v2), some (vA v3), some (vI v4), some (vI q1.1), none, none, none] [vI 1] q2.2
  else
    Rr (Cd d) 158 14 [some (vA v0), some (vA v1), some (vA v2), some (vA v3), some (vI v4), some (vI q1.1), none, none, none] [vI 0] q2.2 := (Cd_inst rfl rfl rfl hg).trans ((Rr_blk (Cd d) 158 [14, 31, 49, 72] 74 0 _ [] hp).trans rfl)
set_option maxRecDepth 100000 in
theorem c158_14 (d : Nat) (v0 v1 v2 v3 v4 v5 s0 : Int) (o6 o7 o8 : Option AV) (hp : HP) : Rr (Cd d) 158 14 [some (vA v0), some (vA v1), some (vA v2), some (vA v3), some (vI v4), some (vI v5), o6, o7, o8] [vI s0] hp =
  ((Cd d 157 [vA v1, vI v4, vI 3] hp).bind toI).bind fun q1 =>
  ((Cd d 157 [vA v1, vI v4, vI 4] q1.2).bind toI).bind fun q2 =>
  if q2.1 = 1 then
    (gF q2.2 11 4 v0).bind fun x4 =>
    Rr (Cd d) 158 31 [some (vA v0), some (vA v1), some (vA v2), some (vA v3), some (vI v4), some (vI v5), some (vI s0), some (vI q1.1), o8] [vA x4] q2.2
  else
    (gF q2.2 8 0 v1).bind fun x3 =>
    Rr (Cd d) 158 31 [some (vA v0), some (vA v1), some (vA v2), some (vA v3), some (vI v4), some (vI v5), some (vI s0), some (vI q1.1), o8] [vA x3] q2.2 := (Rr_blk (Cd d) 158 [14, 31, 49, 72] 74 14 _ _ hp).trans rfl
set_option maxRecDepth 100000 in
theorem c158_31 (d : Nat) (v0 v2 v3 v5 v6 v7 s0 : Int) (o1 o4 o8 : Option AV) (hp : HP) : Rr (Cd d) 158 31 [some (vA v0), o1, some (vA v2), some (vA v3), o4, some (vI v5), some (vI v6), some (vI v7), o8] [vA s0] hp =
  (gF hp 11 3 v0).bind fun x1 =>
  ((Cd d 45 [vA x1, vA v2, vI v5, vI v6, vI v7, vA s0] hp).bind toV).bind fun q2 =>
  (gF q2 11 3 v0).bind fun x3 =>
  ((Cd d 53 [vA x3, vI 2] q2).bind toI).bind fun q4 =>
  if q4.1 = 0 then
    (gF q4.2 11 3 v0).bind fun x5 =>
    ((Cd d 49 [vA x5] q4.2).bind toI).bind fun q6 =>
    if q6.1 = 0 then
      (gF q6.2 11 3 v0).bind fun x7 =>
      ((Cd d 45 [vA x7, vA v3, vI v5, vI v6, vI v7, vA s0] q6.2).bind toV).bind fun q8 =>
      (gF q8 11 3 v0).bind fun x9 =>
      ((Cd d 51 [vA x9] q8).bind toV).bind fun q10 =>
      (gF q10 11 3 v0).bind fun x11 =>
      (gF q10 4 9 x11).bind fun x12 =>
      (gF q10 11 3 v0).bind fun x13 =>
      (gF q10 4 8 x13).bind fun x14 =>
      if x12 < x14 then
        Rr (Cd d) 158 72 [some (vA v0), o1, some (vA v2), some (vA v3), o4, some (vI v5), some (vI v6), some (vI v7), some (vA s0)] [vI 1] q10
      else
        Rr (Cd d) 158 72 [some (vA v0), o1, some (vA v2), some (vA v3), o4, some (vI v5), some (vI v6), some (vI v7), some (vA s0)] [vI 0] q10
    else
      Rr (Cd d) 158 49 [some (vA v0), o1, some (vA v2), some (vA v3), o4, some (vI v5), some (vI v6), some (vI v7), some (vA s0)] [] q6.2
  else
    Rr (Cd d) 158 49 [some (vA v0), o1, some (vA v2), some (vA v3), o4, some (vI v5), some (vI v6), some (vI v7), some (vA s0)] [] q4.2 := (Rr_blk (Cd d) 158 [14, 31, 49, 72] 74 31 _ _ hp).trans rfl
set_option maxRecDepth 100000 in
theorem c158_49 (d : Nat) (o0 o1 o2 o3 o4 o5 o6 o7 o8 : Option AV) (hp : HP) : Rr (Cd d) 158 49 [o0, o1, o2, o3, o4, o5, o6, o7, o8] [] hp =
  some ([vI 0], hp) := (Rr_blk (Cd d) 158 [14, 31, 49, 72] 74 49 _ _ hp).trans rfl
set_option maxRecDepth 100000 in
theorem c158_72 (d : Nat) (s0 : Int) (o0 o1 o2 o3 o4 o5 o6 o7 o8 : Option AV) (hp : HP) : Rr (Cd d) 158 72 [o0, o1, o2, o3, o4, o5, o6, o7, o8] [vI s0] hp =
  if s0 = 0 ∨ s0 = 1 then some ([vI s0], hp) else none := (Rr_blk (Cd d) 158 [14, 31, 49, 72] 74 72 _ _ hp).trans rfl
