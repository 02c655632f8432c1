/-! the methods as equations, written by a program -/
set_option maxRecDepth 100000 in
theorem c302 (d : Nat) (v0 : Int) (hp : HP) : Cd (d + 1) 302 [vA v0] hp =
  ((Cd d 116 [vA ((hp.1.length : Int))] (mk hp 11 7)).bind toV).bind fun q1 =>
  ((Cd d 170 [vA ((q1.1.length : Int))] (mk q1 12 44)).bind toV).bind fun q2 =>
  Rr (Cd d) 302 10 [some (vA v0), some (vA ((hp.1.length : Int))), some (vA ((q1.1.length : Int))), some (vI 0)] [] q2 := (Rr_blk (Cd d) 302 [10, 22, 39, 76, 103, 140, 157, 194, 251, 268, 275, 292, 349, 386, 423, 460, 507, 544, 582, 619, 656, 673, 690, 747, 774, 791, 848, 905, 922, 959, 976, 1023, 1030, 1037, 1054] 1059 0 _ [] hp).trans rfl
set_option maxRecDepth 100000 in
theorem c302_10 (d : Nat) (v0 v1 v2 v3 : Int) (hp : HP) : Rr (Cd d) 302 10 [some (vA v0), some (vA v1), some (vA v2), some (vI v3)] [] hp =
  (gL hp v0).bind fun x1 =>
  if w32 (x1 - 6) < v3 then
    some ([vI 1], hp)
  else
    (gA hp 0 v0 v3).bind fun x2 =>
    if iand x2 63 = 0 then
      Rr (Cd d) 302 22 [some (vA v0), some (vA v1), some (vA v2), some (vI v3)] [] hp
    else
    if iand x2 63 = 1 then
      Rr (Cd d) 302 39 [some (vA v0), some (vA v1), some (vA v2), some (vI v3)] [] hp
    else
    if iand x2 63 = 2 then
      Rr (Cd d) 302 76 [some (vA v0), some (vA v1), some (vA v2), some (vI v3)] [] hp
    else
    if iand x2 63 = 3 then
      Rr (Cd d) 302 103 [some (vA v0), some (vA v1), some (vA v2), some (vI v3)] [] hp
    else
    if iand x2 63 = 4 then
      Rr (Cd d) 302 140 [some (vA v0), some (vA v1), some (vA v2), some (vI v3)] [] hp
    else
    if iand x2 63 = 5 then
      Rr (Cd d) 302 157 [some (vA v0), some (vA v1), some (vA v2), some (vI v3)] [] hp
    else
    if iand x2 63 = 6 then
      Rr (Cd d) 302 194 [some (vA v0), some (vA v1), some (vA v2), some (vI v3)] [] hp
    else
    if iand x2 63 = 7 then
      Rr (Cd d) 302 251 [some (vA v0), some (vA v1), some (vA v2), some (vI v3)] [] hp
    else
    if iand x2 63 = 8 then
      Rr (Cd d) 302 268 [some (vA v0), some (vA v1), some (vA v2), some (vI v3)] [] hp
    else
    if iand x2 63 = 9 then
      Rr (Cd d) 302 275 [some (vA v0), some (vA v1), some (vA v2), some (vI v3)] [] hp
    else
    if iand x2 63 = 10 then
      Rr (Cd d) 302 292 [some (vA v0), some (vA v1), some (vA v2), some (vI v3)] [] hp
    else
    if iand x2 63 = 11 then
      Rr (Cd d) 302 349 [some (vA v0), some (vA v1), some (vA v2), some (vI v3)] [] hp
    else
    if iand x2 63 = 12 then
      Rr (Cd d) 302 386 [some (vA v0), some (vA v1), some (vA v2), some (vI v3)] [] hp
    else
    if iand x2 63 = 13 then
      Rr (Cd d) 302 423 [some (vA v0), some (vA v1), some (vA v2), some (vI v3)] [] hp
    else
    if iand x2 63 = 14 then
      Rr (Cd d) 302 460 [some (vA v0), some (vA v1), some (vA v2), some (vI v3)] [] hp
    else
    if iand x2 63 = 15 then
      Rr (Cd d) 302 507 [some (vA v0), some (vA v1), some (vA v2), some (vI v3)] [] hp
    else
    if iand x2 63 = 16 then
      Rr (Cd d) 302 544 [some (vA v0), some (vA v1), some (vA v2), some (vI v3)] [] hp
    else
    if iand x2 63 = 17 then
      Rr (Cd d) 302 582 [some (vA v0), some (vA v1), some (vA v2), some (vI v3)] [] hp
    else
    if iand x2 63 = 18 then
      Rr (Cd d) 302 619 [some (vA v0), some (vA v1), some (vA v2), some (vI v3)] [] hp
    else
    if iand x2 63 = 19 then
      Rr (Cd d) 302 656 [some (vA v0), some (vA v1), some (vA v2), some (vI v3)] [] hp
    else
    if iand x2 63 = 20 then
      Rr (Cd d) 302 673 [some (vA v0), some (vA v1), some (vA v2), some (vI v3)] [] hp
    else
    if iand x2 63 = 21 then
      Rr (Cd d) 302 690 [some (vA v0), some (vA v1), some (vA v2), some (vI v3)] [] hp
    else
    if iand x2 63 = 22 then
      Rr (Cd d) 302 747 [some (vA v0), some (vA v1), some (vA v2), some (vI v3)] [] hp
    else
    if iand x2 63 = 23 then
      Rr (Cd d) 302 774 [some (vA v0), some (vA v1), some (vA v2), some (vI v3)] [] hp
    else
    if iand x2 63 = 24 then
      Rr (Cd d) 302 791 [some (vA v0), some (vA v1), some (vA v2), some (vI v3)] [] hp
    else
    if iand x2 63 = 25 then
      Rr (Cd d) 302 848 [some (vA v0), some (vA v1), some (vA v2), some (vI v3)] [] hp
    else
    if iand x2 63 = 26 then
      Rr (Cd d) 302 905 [some (vA v0), some (vA v1), some (vA v2), some (vI v3)] [] hp
    else
    if iand x2 63 = 27 then
      Rr (Cd d) 302 922 [some (vA v0), some (vA v1), some (vA v2), some (vI v3)] [] hp
    else
    if iand x2 63 = 28 then
      Rr (Cd d) 302 959 [some (vA v0), some (vA v1), some (vA v2), some (vI v3)] [] hp
    else
    if iand x2 63 = 29 then
      Rr (Cd d) 302 976 [some (vA v0), some (vA v1), some (vA v2), some (vI v3)] [] hp
    else
    if iand x2 63 = 30 then
      Rr (Cd d) 302 1023 [some (vA v0), some (vA v1), some (vA v2), some (vI v3)] [] hp
    else
    if iand x2 63 = 31 then
      Rr (Cd d) 302 1030 [some (vA v0), some (vA v1), some (vA v2), some (vI v3)] [] hp
    else
    if iand x2 63 = 32 then
      Rr (Cd d) 302 1037 [some (vA v0), some (vA v1), some (vA v2), some (vI v3)] [] hp
    else
    Rr (Cd d) 302 1054 [some (vA v0), some (vA v1), some (vA v2), some (vI v3)] [] hp := (Rr_blk (Cd d) 302 [10, 22, 39, 76, 103, 140, 157, 194, 251, 268, 275, 292, 349, 386, 423, 460, 507, 544, 582, 619, 656, 673, 690, 747, 774, 791, 848, 905, 922, 959, 976, 1023, 1030, 1037, 1054] 1059 10 _ _ hp).trans rfl
set_option maxRecDepth 100000 in
theorem c302_22 (d : Nat) (v0 v1 v2 v3 : Int) (hp : HP) : Rr (Cd d) 302 22 [some (vA v0), some (vA v1), some (vA v2), some (vI v3)] [] hp =
  (gA hp 0 v0 (w32 (v3 + 1))).bind fun x1 =>
  ((Cd d 117 [vA v1, vI x1] hp).bind toI).bind fun q2 =>
  (gA q2.2 0 v0 (w32 (v3 + 1))).bind fun x3 =>
  ((Cd d 175 [vA v2, vI x3] q2.2).bind toI).bind fun q4 =>
  if q2.1 = q4.1 then
    Rr (Cd d) 302 1054 [some (vA v0), some (vA v1), some (vA v2), some (vI v3)] [] q4.2
  else
    some ([vI 0], q4.2) := (Rr_blk (Cd d) 302 [10, 22, 39, 76, 103, 140, 157, 194, 251, 268, 275, 292, 349, 386, 423, 460, 507, 544, 582, 619, 656, 673, 690, 747, 774, 791, 848, 905, 922, 959, 976, 1023, 1030, 1037, 1054] 1059 22 _ _ hp).trans rfl
set_option maxRecDepth 100000 in
theorem c302_39 (d : Nat) (v0 v1 v2 v3 : Int) (hp : HP) : Rr (Cd d) 302 39 [some (vA v0), some (vA v1), some (vA v2), some (vI v3)] [] hp =
  (gA hp 0 v0 (w32 (v3 + 1))).bind fun x1 =>
  (gA hp 0 v0 (w32 (v3 + 2))).bind fun x2 =>
  (gA hp 0 v0 (w32 (v3 + 3))).bind fun x3 =>
  ((Cd d 118 [vA v1, vI x1, vI x2, vI x3] hp).bind toI).bind fun q4 =>
  (gA q4.2 0 v0 (w32 (v3 + 1))).bind fun x5 =>
  (gA q4.2 0 v0 (w32 (v3 + 2))).bind fun x6 =>
  (gA q4.2 0 v0 (w32 (v3 + 3))).bind fun x7 =>
  ((Cd d 179 [vA v2, vI x5, vI x6, vI x7] q4.2).bind toI).bind fun q8 =>
  if q4.1 = q8.1 then
    Rr (Cd d) 302 1054 [some (vA v0), some (vA v1), some (vA v2), some (vI v3)] [] q8.2
  else
    some ([vI 0], q8.2) := (Rr_blk (Cd d) 302 [10, 22, 39, 76, 103, 140, 157, 194, 251, 268, 275, 292, 349, 386, 423, 460, 507, 544, 582, 619, 656, 673, 690, 747, 774, 791, 848, 905, 922, 959, 976, 1023, 1030, 1037, 1054] 1059 39 _ _ hp).trans rfl
set_option maxRecDepth 100000 in
theorem c302_76 (d : Nat) (v0 v1 v2 v3 : Int) (hp : HP) : Rr (Cd d) 302 76 [some (vA v0), some (vA v1), some (vA v2), some (vI v3)] [] hp =
  (gA hp 0 v0 (w32 (v3 + 1))).bind fun x1 =>
  (gA hp 0 v0 (w32 (v3 + 2))).bind fun x2 =>
  ((Cd d 119 [vA v1, vI x1, vI x2] hp).bind toI).bind fun q3 =>
  (gA q3.2 0 v0 (w32 (v3 + 1))).bind fun x4 =>
  (gA q3.2 0 v0 (w32 (v3 + 2))).bind fun x5 =>
  ((Cd d 184 [vA v2, vI x4, vI x5] q3.2).bind toI).bind fun q6 =>
  if q3.1 = q6.1 then
    Rr (Cd d) 302 1054 [some (vA v0), some (vA v1), some (vA v2), some (vI v3)] [] q6.2
  else
    some ([vI 0], q6.2) := (Rr_blk (Cd d) 302 [10, 22, 39, 76, 103, 140, 157, 194, 251, 268, 275, 292, 349, 386, 423, 460, 507, 544, 582, 619, 656, 673, 690, 747, 774, 791, 848, 905, 922, 959, 976, 1023, 1030, 1037, 1054] 1059 76 _ _ hp).trans rfl
set_option maxRecDepth 100000 in
theorem c302_103 (d : Nat) (v0 v1 v2 v3 : Int) (hp : HP) : Rr (Cd d) 302 103 [some (vA v0), some (vA v1), some (vA v2), some (vI v3)] [] hp =
  (gA hp 0 v0 (w32 (v3 + 1))).bind fun x1 =>
  (gA hp 0 v0 (w32 (v3 + 2))).bind fun x2 =>
  (gA hp 0 v0 (w32 (v3 + 3))).bind fun x3 =>
  ((Cd d 120 [vA v1, vI x1, vI x2, vI x3] hp).bind toI).bind fun q4 =>
  (gA q4.2 0 v0 (w32 (v3 + 1))).bind fun x5 =>
  (gA q4.2 0 v0 (w32 (v3 + 2))).bind fun x6 =>
  (gA q4.2 0 v0 (w32 (v3 + 3))).bind fun x7 =>
  ((Cd d 186 [vA v2, vI x5, vI x6, vI x7] q4.2).bind toI).bind fun q8 =>
  if q4.1 = q8.1 then
    Rr (Cd d) 302 1054 [some (vA v0), some (vA v1), some (vA v2), some (vI v3)] [] q8.2
  else
    some ([vI 0], q8.2) := (Rr_blk (Cd d) 302 [10, 22, 39, 76, 103, 140, 157, 194, 251, 268, 275, 292, 349, 386, 423, 460, 507, 544, 582, 619, 656, 673, 690, 747, 774, 791, 848, 905, 922, 959, 976, 1023, 1030, 1037, 1054] 1059 103 _ _ hp).trans rfl
set_option maxRecDepth 100000 in
theorem c302_140 (d : Nat) (v0 v1 v2 v3 : Int) (hp : HP) : Rr (Cd d) 302 140 [some (vA v0), some (vA v1), some (vA v2), some (vI v3)] [] hp =
  (gA hp 0 v0 (w32 (v3 + 1))).bind fun x1 =>
  ((Cd d 121 [vA v1, vI x1] hp).bind toI).bind fun q2 =>
  (gA q2.2 0 v0 (w32 (v3 + 1))).bind fun x3 =>
  ((Cd d 189 [vA v2, vI x3] q2.2).bind toI).bind fun q4 =>
  if q2.1 = q4.1 then
    Rr (Cd d) 302 1054 [some (vA v0), some (vA v1), some (vA v2), some (vI v3)] [] q4.2
  else
    some ([vI 0], q4.2) := (Rr_blk (Cd d) 302 [10, 22, 39, 76, 103, 140, 157, 194, 251, 268, 275, 292, 349, 386, 423, 460, 507, 544, 582, 619, 656, 673, 690, 747, 774, 791, 848, 905, 922, 959, 976, 1023, 1030, 1037, 1054] 1059 140 _ _ hp).trans rfl
set_option maxRecDepth 100000 in
theorem c302_157 (d : Nat) (v0 v1 v2 v3 : Int) (hp : HP) : Rr (Cd d) 302 157 [some (vA v0), some (vA v1), some (vA v2), some (vI v3)] [] hp =
  (gA hp 0 v0 (w32 (v3 + 1))).bind fun x1 =>
  (gA hp 0 v0 (w32 (v3 + 2))).bind fun x2 =>
  (gA hp 0 v0 (w32 (v3 + 3))).bind fun x3 =>
  ((Cd d 122 [vA v1, vI x1, vI x2, vI x3] hp).bind toI).bind fun q4 =>
  (gA q4.2 0 v0 (w32 (v3 + 1))).bind fun x5 =>
  (gA q4.2 0 v0 (w32 (v3 + 2))).bind fun x6 =>
  (gA q4.2 0 v0 (w32 (v3 + 3))).bind fun x7 =>
  ((Cd d 191 [vA v2, vI x5, vI x6, vI x7] q4.2).bind toI).bind fun q8 =>
  if q4.1 = q8.1 then
    Rr (Cd d) 302 1054 [some (vA v0), some (vA v1), some (vA v2), some (vI v3)] [] q8.2
  else
    some ([vI 0], q8.2) := (Rr_blk (Cd d) 302 [10, 22, 39, 76, 103, 140, 157, 194, 251, 268, 275, 292, 349, 386, 423, 460, 507, 544, 582, 619, 656, 673, 690, 747, 774, 791, 848, 905, 922, 959, 976, 1023, 1030, 1037, 1054] 1059 157 _ _ hp).trans rfl
set_option maxRecDepth 100000 in
theorem c302_194 (d : Nat) (v0 v1 v2 v3 : Int) (hp : HP) : Rr (Cd d) 302 194 [some (vA v0), some (vA v1), some (vA v2), some (vI v3)] [] hp =
  (gA hp 0 v0 (w32 (v3 + 1))).bind fun x1 =>
  (gA hp 0 v0 (w32 (v3 + 2))).bind fun x2 =>
  (gA hp 0 v0 (w32 (v3 + 3))).bind fun x3 =>
  (gA hp 0 v0 (w32 (v3 + 4))).bind fun x4 =>
  (gA hp 0 v0 (w32 (v3 + 5))).bind fun x5 =>
  ((Cd d 123 [vA v1, vI x1, vI x2, vI x3, vI x4, vI x5] hp).bind toI).bind fun q6 =>
  (gA q6.2 0 v0 (w32 (v3 + 1))).bind fun x7 =>
  (gA q6.2 0 v0 (w32 (v3 + 2))).bind fun x8 =>
  (gA q6.2 0 v0 (w32 (v3 + 3))).bind fun x9 =>
  (gA q6.2 0 v0 (w32 (v3 + 4))).bind fun x10 =>
  (gA q6.2 0 v0 (w32 (v3 + 5))).bind fun x11 =>
  ((Cd d 193 [vA v2, vI x7, vI x8, vI x9, vI x10, vI x11] q6.2).bind toI).bind fun q12 =>
  if q6.1 = q12.1 then
    Rr (Cd d) 302 1054 [some (vA v0), some (vA v1), some (vA v2), some (vI v3)] [] q12.2
  else
    some ([vI 0], q12.2) := (Rr_blk (Cd d) 302 [10, 22, 39, 76, 103, 140, 157, 194, 251, 268, 275, 292, 349, 386, 423, 460, 507, 544, 582, 619, 656, 673, 690, 747, 774, 791, 848, 905, 922, 959, 976, 1023, 1030, 1037, 1054] 1059 194 _ _ hp).trans rfl
set_option maxRecDepth 100000 in
theorem c302_251 (d : Nat) (v0 v1 v2 v3 : Int) (hp : HP) : Rr (Cd d) 302 251 [some (vA v0), some (vA v1), some (vA v2), some (vI v3)] [] hp =
  (gA hp 0 v0 (w32 (v3 + 1))).bind fun x1 =>
  ((Cd d 124 [vA v1, vI x1] hp).bind toI).bind fun q2 =>
  (gA q2.2 0 v0 (w32 (v3 + 1))).bind fun x3 =>
  ((Cd d 194 [vA v2, vI x3] q2.2).bind toI).bind fun q4 =>
  if q2.1 = q4.1 then
    Rr (Cd d) 302 1054 [some (vA v0), some (vA v1), some (vA v2), some (vI v3)] [] q4.2
  else
    some ([vI 0], q4.2) := (Rr_blk (Cd d) 302 [10, 22, 39, 76, 103, 140, 157, 194, 251, 268, 275, 292, 349, 386, 423, 460, 507, 544, 582, 619, 656, 673, 690, 747, 774, 791, 848, 905, 922, 959, 976, 1023, 1030, 1037, 1054] 1059 251 _ _ hp).trans rfl
set_option maxRecDepth 100000 in
theorem c302_268 (d : Nat) (v0 v1 v2 v3 : Int) (hp : HP) : Rr (Cd d) 302 268 [some (vA v0), some (vA v1), some (vA v2), some (vI v3)] [] hp =
  ((Cd d 125 [vA v1] hp).bind toI).bind fun q1 =>
  ((Cd d 219 [vA v2] q1.2).bind toI).bind fun q2 =>
  if q1.1 = q2.1 then
    Rr (Cd d) 302 1054 [some (vA v0), some (vA v1), some (vA v2), some (vI v3)] [] q2.2
  else
    some ([vI 0], q2.2) := (Rr_blk (Cd d) 302 [10, 22, 39, 76, 103, 140, 157, 194, 251, 268, 275, 292, 349, 386, 423, 460, 507, 544, 582, 619, 656, 673, 690, 747, 774, 791, 848, 905, 922, 959, 976, 1023, 1030, 1037, 1054] 1059 268 _ _ hp).trans rfl
set_option maxRecDepth 100000 in
theorem c302_275 (d : Nat) (v0 v1 v2 v3 : Int) (hp : HP) : Rr (Cd d) 302 275 [some (vA v0), some (vA v1), some (vA v2), some (vI v3)] [] hp =
  (gA hp 0 v0 (w32 (v3 + 1))).bind fun x1 =>
  ((Cd d 126 [vA v1, vI x1] hp).bind toI).bind fun q2 =>
  (gA q2.2 0 v0 (w32 (v3 + 1))).bind fun x3 =>
  ((Cd d 220 [vA v2, vI x3] q2.2).bind toI).bind fun q4 =>
  if q2.1 = q4.1 then
    Rr (Cd d) 302 1054 [some (vA v0), some (vA v1), some (vA v2), some (vI v3)] [] q4.2
  else
    some ([vI 0], q4.2) := (Rr_blk (Cd d) 302 [10, 22, 39, 76, 103, 140, 157, 194, 251, 268, 275, 292, 349, 386, 423, 460, 507, 544, 582, 619, 656, 673, 690, 747, 774, 791, 848, 905, 922, 959, 976, 1023, 1030, 1037, 1054] 1059 275 _ _ hp).trans rfl
set_option maxRecDepth 100000 in
theorem c302_292 (d : Nat) (v0 v1 v2 v3 : Int) (hp : HP) : Rr (Cd d) 302 292 [some (vA v0), some (vA v1), some (vA v2), some (vI v3)] [] hp =
  (gA hp 0 v0 (w32 (v3 + 1))).bind fun x1 =>
  (gA hp 0 v0 (w32 (v3 + 2))).bind fun x2 =>
  (gA hp 0 v0 (w32 (v3 + 3))).bind fun x3 =>
  (gA hp 0 v0 (w32 (v3 + 4))).bind fun x4 =>
  (gA hp 0 v0 (w32 (v3 + 5))).bind fun x5 =>
  ((Cd d 127 [vA v1, vI x1, vI x2, vI x3, vI x4, vI x5] hp).bind toI).bind fun q6 =>
  (gA q6.2 0 v0 (w32 (v3 + 1))).bind fun x7 =>
  (gA q6.2 0 v0 (w32 (v3 + 2))).bind fun x8 =>
  (gA q6.2 0 v0 (w32 (v3 + 3))).bind fun x9 =>
  (gA q6.2 0 v0 (w32 (v3 + 4))).bind fun x10 =>
  (gA q6.2 0 v0 (w32 (v3 + 5))).bind fun x11 =>
  ((Cd d 233 [vA v2, vI x7, vI x8, vI x9, vI x10, vI x11] q6.2).bind toI).bind fun q12 =>
  if q6.1 = q12.1 then
    Rr (Cd d) 302 1054 [some (vA v0), some (vA v1), some (vA v2), some (vI v3)] [] q12.2
  else
    some ([vI 0], q12.2) := (Rr_blk (Cd d) 302 [10, 22, 39, 76, 103, 140, 157, 194, 251, 268, 275, 292, 349, 386, 423, 460, 507, 544, 582, 619, 656, 673, 690, 747, 774, 791, 848, 905, 922, 959, 976, 1023, 1030, 1037, 1054] 1059 292 _ _ hp).trans rfl
set_option maxRecDepth 100000 in
theorem c302_349 (d : Nat) (v0 v1 v2 v3 : Int) (hp : HP) : Rr (Cd d) 302 349 [some (vA v0), some (vA v1), some (vA v2), some (vI v3)] [] hp =
  (gA hp 0 v0 (w32 (v3 + 1))).bind fun x1 =>
  (gA hp 0 v0 (w32 (v3 + 2))).bind fun x2 =>
  (gA hp 0 v0 (w32 (v3 + 3))).bind fun x3 =>
  ((Cd d 128 [vA v1, vI x1, vI x2, vI x3] hp).bind toI).bind fun q4 =>
  (gA q4.2 0 v0 (w32 (v3 + 1))).bind fun x5 =>
  (gA q4.2 0 v0 (w32 (v3 + 2))).bind fun x6 =>
  (gA q4.2 0 v0 (w32 (v3 + 3))).bind fun x7 =>
  ((Cd d 235 [vA v2, vI x5, vI x6, vI x7] q4.2).bind toI).bind fun q8 =>
  if q4.1 = q8.1 then
    Rr (Cd d) 302 1054 [some (vA v0), some (vA v1), some (vA v2), some (vI v3)] [] q8.2
  else
    some ([vI 0], q8.2) := (Rr_blk (Cd d) 302 [10, 22, 39, 76, 103, 140, 157, 194, 251, 268, 275, 292, 349, 386, 423, 460, 507, 544, 582, 619, 656, 673, 690, 747, 774, 791, 848, 905, 922, 959, 976, 1023, 1030, 1037, 1054] 1059 349 _ _ hp).trans rfl
set_option maxRecDepth 100000 in
theorem c302_386 (d : Nat) (v0 v1 v2 v3 : Int) (hp : HP) : Rr (Cd d) 302 386 [some (vA v0), some (vA v1), some (vA v2), some (vI v3)] [] hp =
  (gA hp 0 v0 (w32 (v3 + 1))).bind fun x1 =>
  (gA hp 0 v0 (w32 (v3 + 2))).bind fun x2 =>
  (gA hp 0 v0 (w32 (v3 + 3))).bind fun x3 =>
  ((Cd d 129 [vA v1, vI x1, vI x2, vI x3] hp).bind toI).bind fun q4 =>
  (gA q4.2 0 v0 (w32 (v3 + 1))).bind fun x5 =>
  (gA q4.2 0 v0 (w32 (v3 + 2))).bind fun x6 =>
  (gA q4.2 0 v0 (w32 (v3 + 3))).bind fun x7 =>
  ((Cd d 237 [vA v2, vI x5, vI x6, vI x7] q4.2).bind toI).bind fun q8 =>
  if q4.1 = q8.1 then
    Rr (Cd d) 302 1054 [some (vA v0), some (vA v1), some (vA v2), some (vI v3)] [] q8.2
  else
    some ([vI 0], q8.2) := (Rr_blk (Cd d) 302 [10, 22, 39, 76, 103, 140, 157, 194, 251, 268, 275, 292, 349, 386, 423, 460, 507, 544, 582, 619, 656, 673, 690, 747, 774, 791, 848, 905, 922, 959, 976, 1023, 1030, 1037, 1054] 1059 386 _ _ hp).trans rfl
set_option maxRecDepth 100000 in
theorem c302_423 (d : Nat) (v0 v1 v2 v3 : Int) (hp : HP) : Rr (Cd d) 302 423 [some (vA v0), some (vA v1), some (vA v2), some (vI v3)] [] hp =
  (gA hp 0 v0 (w32 (v3 + 1))).bind fun x1 =>
  (gA hp 0 v0 (w32 (v3 + 2))).bind fun x2 =>
  (gA hp 0 v0 (w32 (v3 + 3))).bind fun x3 =>
  ((Cd d 130 [vA v1, vI x1, vI x2, vI x3] hp).bind toI).bind fun q4 =>
  (gA q4.2 0 v0 (w32 (v3 + 1))).bind fun x5 =>
  (gA q4.2 0 v0 (w32 (v3 + 2))).bind fun x6 =>
  (gA q4.2 0 v0 (w32 (v3 + 3))).bind fun x7 =>
  ((Cd d 240 [vA v2, vI x5, vI x6, vI x7] q4.2).bind toI).bind fun q8 =>
  if q4.1 = q8.1 then
    Rr (Cd d) 302 1054 [some (vA v0), some (vA v1), some (vA v2), some (vI v3)] [] q8.2
  else
    some ([vI 0], q8.2) := (Rr_blk (Cd d) 302 [10, 22, 39, 76, 103, 140, 157, 194, 251, 268, 275, 292, 349, 386, 423, 460, 507, 544, 582, 619, 656, 673, 690, 747, 774, 791, 848, 905, 922, 959, 976, 1023, 1030, 1037, 1054] 1059 423 _ _ hp).trans rfl
set_option maxRecDepth 100000 in
theorem c302_460 (d : Nat) (v0 v1 v2 v3 : Int) (hp : HP) : Rr (Cd d) 302 460 [some (vA v0), some (vA v1), some (vA v2), some (vI v3)] [] hp =
  (gA hp 0 v0 (w32 (v3 + 1))).bind fun x1 =>
  (gA hp 0 v0 (w32 (v3 + 2))).bind fun x2 =>
  (gA hp 0 v0 (w32 (v3 + 3))).bind fun x3 =>
  (gA hp 0 v0 (w32 (v3 + 4))).bind fun x4 =>
  ((Cd d 131 [vA v1, vI x1, vI x2, vI x3, vI x4] hp).bind toI).bind fun q5 =>
  (gA q5.2 0 v0 (w32 (v3 + 1))).bind fun x6 =>
  (gA q5.2 0 v0 (w32 (v3 + 2))).bind fun x7 =>
  (gA q5.2 0 v0 (w32 (v3 + 3))).bind fun x8 =>
  (gA q5.2 0 v0 (w32 (v3 + 4))).bind fun x9 =>
  ((Cd d 246 [vA v2, vI x6, vI x7, vI x8, vI x9] q5.2).bind toI).bind fun q10 =>
  if q5.1 = q10.1 then
    Rr (Cd d) 302 1054 [some (vA v0), some (vA v1), some (vA v2), some (vI v3)] [] q10.2
  else
    some ([vI 0], q10.2) := (Rr_blk (Cd d) 302 [10, 22, 39, 76, 103, 140, 157, 194, 251, 268, 275, 292, 349, 386, 423, 460, 507, 544, 582, 619, 656, 673, 690, 747, 774, 791, 848, 905, 922, 959, 976, 1023, 1030, 1037, 1054] 1059 460 _ _ hp).trans rfl
set_option maxRecDepth 100000 in
theorem c302_507 (d : Nat) (v0 v1 v2 v3 : Int) (hp : HP) : Rr (Cd d) 302 507 [some (vA v0), some (vA v1), some (vA v2), some (vI v3)] [] hp =
  (gA hp 0 v0 (w32 (v3 + 1))).bind fun x1 =>
  (gA hp 0 v0 (w32 (v3 + 2))).bind fun x2 =>
  (gA hp 0 v0 (w32 (v3 + 3))).bind fun x3 =>
  ((Cd d 132 [vA v1, vI x1, vI x2, vI x3] hp).bind toI).bind fun q4 =>
  (gA q4.2 0 v0 (w32 (v3 + 1))).bind fun x5 =>
  (gA q4.2 0 v0 (w32 (v3 + 2))).bind fun x6 =>
  (gA q4.2 0 v0 (w32 (v3 + 3))).bind fun x7 =>
  ((Cd d 247 [vA v2, vI x5, vI x6, vI x7] q4.2).bind toI).bind fun q8 =>
  if q4.1 = q8.1 then
    Rr (Cd d) 302 1054 [some (vA v0), some (vA v1), some (vA v2), some (vI v3)] [] q8.2
  else
    some ([vI 0], q8.2) := (Rr_blk (Cd d) 302 [10, 22, 39, 76, 103, 140, 157, 194, 251, 268, 275, 292, 349, 386, 423, 460, 507, 544, 582, 619, 656, 673, 690, 747, 774, 791, 848, 905, 922, 959, 976, 1023, 1030, 1037, 1054] 1059 507 _ _ hp).trans rfl
set_option maxRecDepth 100000 in
theorem c302_544 (d : Nat) (v0 v1 v2 v3 : Int) (hp : HP) : Rr (Cd d) 302 544 [some (vA v0), some (vA v1), some (vA v2), some (vI v3)] [] hp =
  (gA hp 0 v0 (w32 (v3 + 1))).bind fun x1 =>
  (gA hp 0 v0 (w32 (v3 + 2))).bind fun x2 =>
  (gA hp 0 v0 (w32 (v3 + 3))).bind fun x3 =>
  ((Cd d 133 [vA v1, vI x1, vI x2, vI x3] hp).bind toL).bind fun q4 =>
  (gA q4.2 0 v0 (w32 (v3 + 1))).bind fun x5 =>
  (gA q4.2 0 v0 (w32 (v3 + 2))).bind fun x6 =>
  (gA q4.2 0 v0 (w32 (v3 + 3))).bind fun x7 =>
  ((Cd d 251 [vA v2, vI x5, vI x6, vI x7] q4.2).bind toL).bind fun q8 =>
  if lcmp q4.1 q8.1 = 0 then
    Rr (Cd d) 302 1054 [some (vA v0), some (vA v1), some (vA v2), some (vI v3)] [] q8.2
  else
    some ([vI 0], q8.2) := (Rr_blk (Cd d) 302 [10, 22, 39, 76, 103, 140, 157, 194, 251, 268, 275, 292, 349, 386, 423, 460, 507, 544, 582, 619, 656, 673, 690, 747, 774, 791, 848, 905, 922, 959, 976, 1023, 1030, 1037, 1054] 1059 544 _ _ hp).trans rfl
set_option maxRecDepth 100000 in
theorem c302_582 (d : Nat) (v0 v1 v2 v3 : Int) (hp : HP) : Rr (Cd d) 302 582 [some (vA v0), some (vA v1), some (vA v2), some (vI v3)] [] hp =
  (gA hp 0 v0 (w32 (v3 + 1))).bind fun x1 =>
  (gA hp 0 v0 (w32 (v3 + 2))).bind fun x2 =>
  (gA hp 0 v0 (w32 (v3 + 3))).bind fun x3 =>
  ((Cd d 134 [vA v1, vI x1, vI x2, vI x3] hp).bind toI).bind fun q4 =>
  (gA q4.2 0 v0 (w32 (v3 + 1))).bind fun x5 =>
  (gA q4.2 0 v0 (w32 (v3 + 2))).bind fun x6 =>
  (gA q4.2 0 v0 (w32 (v3 + 3))).bind fun x7 =>
  ((Cd d 253 [vA v2, vI x5, vI x6, vI x7] q4.2).bind toI).bind fun q8 =>
  if q4.1 = q8.1 then
    Rr (Cd d) 302 1054 [some (vA v0), some (vA v1), some (vA v2), some (vI v3)] [] q8.2
  else
    some ([vI 0], q8.2) := (Rr_blk (Cd d) 302 [10, 22, 39, 76, 103, 140, 157, 194, 251, 268, 275, 292, 349, 386, 423, 460, 507, 544, 582, 619, 656, 673, 690, 747, 774, 791, 848, 905, 922, 959, 976, 1023, 1030, 1037, 1054] 1059 582 _ _ hp).trans rfl
set_option maxRecDepth 100000 in
theorem c302_619 (d : Nat) (v0 v1 v2 v3 : Int) (hp : HP) : Rr (Cd d) 302 619 [some (vA v0), some (vA v1), some (vA v2), some (vI v3)] [] hp =
  (gA hp 0 v0 (w32 (v3 + 1))).bind fun x1 =>
  (gA hp 0 v0 (w32 (v3 + 2))).bind fun x2 =>
  (gA hp 0 v0 (w32 (v3 + 3))).bind fun x3 =>
  ((Cd d 135 [vA v1, vI x1, vI x2, vI x3] hp).bind toI).bind fun q4 =>
  (gA q4.2 0 v0 (w32 (v3 + 1))).bind fun x5 =>
  (gA q4.2 0 v0 (w32 (v3 + 2))).bind fun x6 =>
  (gA q4.2 0 v0 (w32 (v3 + 3))).bind fun x7 =>
  ((Cd d 254 [vA v2, vI x5, vI x6, vI x7] q4.2).bind toI).bind fun q8 =>
  if q4.1 = q8.1 then
    Rr (Cd d) 302 1054 [some (vA v0), some (vA v1), some (vA v2), some (vI v3)] [] q8.2
  else
    some ([vI 0], q8.2) := (Rr_blk (Cd d) 302 [10, 22, 39, 76, 103, 140, 157, 194, 251, 268, 275, 292, 349, 386, 423, 460, 507, 544, 582, 619, 656, 673, 690, 747, 774, 791, 848, 905, 922, 959, 976, 1023, 1030, 1037, 1054] 1059 619 _ _ hp).trans rfl
set_option maxRecDepth 100000 in
theorem c302_656 (d : Nat) (v0 v1 v2 v3 : Int) (hp : HP) : Rr (Cd d) 302 656 [some (vA v0), some (vA v1), some (vA v2), some (vI v3)] [] hp =
  (gA hp 0 v0 (w32 (v3 + 1))).bind fun x1 =>
  ((Cd d 136 [vA v1, vI x1] hp).bind toI).bind fun q2 =>
  (gA q2.2 0 v0 (w32 (v3 + 1))).bind fun x3 =>
  ((Cd d 256 [vA v2, vI x3] q2.2).bind toI).bind fun q4 =>
  if q2.1 = q4.1 then
    Rr (Cd d) 302 1054 [some (vA v0), some (vA v1), some (vA v2), some (vI v3)] [] q4.2
  else
    some ([vI 0], q4.2) := (Rr_blk (Cd d) 302 [10, 22, 39, 76, 103, 140, 157, 194, 251, 268, 275, 292, 349, 386, 423, 460, 507, 544, 582, 619, 656, 673, 690, 747, 774, 791, 848, 905, 922, 959, 976, 1023, 1030, 1037, 1054] 1059 656 _ _ hp).trans rfl
set_option maxRecDepth 100000 in
theorem c302_673 (d : Nat) (v0 v1 v2 v3 : Int) (hp : HP) : Rr (Cd d) 302 673 [some (vA v0), some (vA v1), some (vA v2), some (vI v3)] [] hp =
  (gA hp 0 v0 (w32 (v3 + 1))).bind fun x1 =>
  ((Cd d 137 [vA v1, vI x1] hp).bind toI).bind fun q2 =>
  (gA q2.2 0 v0 (w32 (v3 + 1))).bind fun x3 =>
  ((Cd d 258 [vA v2, vI x3] q2.2).bind toI).bind fun q4 =>
  if q2.1 = q4.1 then
    Rr (Cd d) 302 1054 [some (vA v0), some (vA v1), some (vA v2), some (vI v3)] [] q4.2
  else
    some ([vI 0], q4.2) := (Rr_blk (Cd d) 302 [10, 22, 39, 76, 103, 140, 157, 194, 251, 268, 275, 292, 349, 386, 423, 460, 507, 544, 582, 619, 656, 673, 690, 747, 774, 791, 848, 905, 922, 959, 976, 1023, 1030, 1037, 1054] 1059 673 _ _ hp).trans rfl
set_option maxRecDepth 100000 in
theorem c302_690 (d : Nat) (v0 v1 v2 v3 : Int) (hp : HP) : Rr (Cd d) 302 690 [some (vA v0), some (vA v1), some (vA v2), some (vI v3)] [] hp =
  (gA hp 0 v0 (w32 (v3 + 1))).bind fun x1 =>
  (gA hp 0 v0 (w32 (v3 + 2))).bind fun x2 =>
  (gA hp 0 v0 (w32 (v3 + 3))).bind fun x3 =>
  (gA hp 0 v0 (w32 (v3 + 4))).bind fun x4 =>
  (gA hp 0 v0 (w32 (v3 + 5))).bind fun x5 =>
  ((Cd d 138 [vA v1, vI x1, vI x2, vI x3, vI x4, vI x5] hp).bind toI).bind fun q6 =>
  (gA q6.2 0 v0 (w32 (v3 + 1))).bind fun x7 =>
  (gA q6.2 0 v0 (w32 (v3 + 2))).bind fun x8 =>
  (gA q6.2 0 v0 (w32 (v3 + 3))).bind fun x9 =>
  (gA q6.2 0 v0 (w32 (v3 + 4))).bind fun x10 =>
  (gA q6.2 0 v0 (w32 (v3 + 5))).bind fun x11 =>
  ((Cd d 259 [vA v2, vI x7, vI x8, vI x9, vI x10, vI x11] q6.2).bind toI).bind fun q12 =>
  if q6.1 = q12.1 then
    Rr (Cd d) 302 1054 [some (vA v0), some (vA v1), some (vA v2), some (vI v3)] [] q12.2
  else
    some ([vI 0], q12.2) := (Rr_blk (Cd d) 302 [10, 22, 39, 76, 103, 140, 157, 194, 251, 268, 275, 292, 349, 386, 423, 460, 507, 544, 582, 619, 656, 673, 690, 747, 774, 791, 848, 905, 922, 959, 976, 1023, 1030, 1037, 1054] 1059 690 _ _ hp).trans rfl
set_option maxRecDepth 100000 in
theorem c302_747 (d : Nat) (v0 v1 v2 v3 : Int) (hp : HP) : Rr (Cd d) 302 747 [some (vA v0), some (vA v1), some (vA v2), some (vI v3)] [] hp =
  (gA hp 0 v0 (w32 (v3 + 1))).bind fun x1 =>
  (gA hp 0 v0 (w32 (v3 + 2))).bind fun x2 =>
  ((Cd d 139 [vA v1, vI x1, vI x2] hp).bind toI).bind fun q3 =>
  (gA q3.2 0 v0 (w32 (v3 + 1))).bind fun x4 =>
  (gA q3.2 0 v0 (w32 (v3 + 2))).bind fun x5 =>
  ((Cd d 261 [vA v2, vI x4, vI x5] q3.2).bind toI).bind fun q6 =>
  if q3.1 = q6.1 then
    Rr (Cd d) 302 1054 [some (vA v0), some (vA v1), some (vA v2), some (vI v3)] [] q6.2
  else
    some ([vI 0], q6.2) := (Rr_blk (Cd d) 302 [10, 22, 39, 76, 103, 140, 157, 194, 251, 268, 275, 292, 349, 386, 423, 460, 507, 544, 582, 619, 656, 673, 690, 747, 774, 791, 848, 905, 922, 959, 976, 1023, 1030, 1037, 1054] 1059 747 _ _ hp).trans rfl
set_option maxRecDepth 100000 in
theorem c302_774 (d : Nat) (v0 v1 v2 v3 : Int) (hp : HP) : Rr (Cd d) 302 774 [some (vA v0), some (vA v1), some (vA v2), some (vI v3)] [] hp =
  (gA hp 0 v0 (w32 (v3 + 1))).bind fun x1 =>
  ((Cd d 140 [vA v1, vI x1] hp).bind toI).bind fun q2 =>
  (gA q2.2 0 v0 (w32 (v3 + 1))).bind fun x3 =>
  ((Cd d 265 [vA v2, vI x3] q2.2).bind toI).bind fun q4 =>
  if q2.1 = q4.1 then
    Rr (Cd d) 302 1054 [some (vA v0), some (vA v1), some (vA v2), some (vI v3)] [] q4.2
  else
    some ([vI 0], q4.2) := (Rr_blk (Cd d) 302 [10, 22, 39, 76, 103, 140, 157, 194, 251, 268, 275, 292, 349, 386, 423, 460, 507, 544, 582, 619, 656, 673, 690, 747, 774, 791, 848, 905, 922, 959, 976, 1023, 1030, 1037, 1054] 1059 774 _ _ hp).trans rfl
set_option maxRecDepth 100000 in
theorem c302_791 (d : Nat) (v0 v1 v2 v3 : Int) (hp : HP) : Rr (Cd d) 302 791 [some (vA v0), some (vA v1), some (vA v2), some (vI v3)] [] hp =
  (gA hp 0 v0 (w32 (v3 + 1))).bind fun x1 =>
  (gA hp 0 v0 (w32 (v3 + 2))).bind fun x2 =>
  (gA hp 0 v0 (w32 (v3 + 3))).bind fun x3 =>
  (gA hp 0 v0 (w32 (v3 + 4))).bind fun x4 =>
  (gA hp 0 v0 (w32 (v3 + 5))).bind fun x5 =>
  ((Cd d 141 [vA v1, vI x1, vI x2, vI x3, vI x4, vI x5] hp).bind toI).bind fun q6 =>
  (gA q6.2 0 v0 (w32 (v3 + 1))).bind fun x7 =>
  (gA q6.2 0 v0 (w32 (v3 + 2))).bind fun x8 =>
  (gA q6.2 0 v0 (w32 (v3 + 3))).bind fun x9 =>
  (gA q6.2 0 v0 (w32 (v3 + 4))).bind fun x10 =>
  (gA q6.2 0 v0 (w32 (v3 + 5))).bind fun x11 =>
  ((Cd d 266 [vA v2, vI x7, vI x8, vI x9, vI x10, vI x11] q6.2).bind toI).bind fun q12 =>
  if q6.1 = q12.1 then
    Rr (Cd d) 302 1054 [some (vA v0), some (vA v1), some (vA v2), some (vI v3)] [] q12.2
  else
    some ([vI 0], q12.2) := (Rr_blk (Cd d) 302 [10, 22, 39, 76, 103, 140, 157, 194, 251, 268, 275, 292, 349, 386, 423, 460, 507, 544, 582, 619, 656, 673, 690, 747, 774, 791, 848, 905, 922, 959, 976, 1023, 1030, 1037, 1054] 1059 791 _ _ hp).trans rfl
set_option maxRecDepth 100000 in
theorem c302_848 (d : Nat) (v0 v1 v2 v3 : Int) (hp : HP) : Rr (Cd d) 302 848 [some (vA v0), some (vA v1), some (vA v2), some (vI v3)] [] hp =
  (gA hp 0 v0 (w32 (v3 + 1))).bind fun x1 =>
  (gA hp 0 v0 (w32 (v3 + 2))).bind fun x2 =>
  (gA hp 0 v0 (w32 (v3 + 3))).bind fun x3 =>
  (gA hp 0 v0 (w32 (v3 + 4))).bind fun x4 =>
  (gA hp 0 v0 (w32 (v3 + 5))).bind fun x5 =>
  ((Cd d 142 [vA v1, vI x1, vI x2, vI x3, vI x4, vI x5] hp).bind toI).bind fun q6 =>
  (gA q6.2 0 v0 (w32 (v3 + 1))).bind fun x7 =>
  (gA q6.2 0 v0 (w32 (v3 + 2))).bind fun x8 =>
  (gA q6.2 0 v0 (w32 (v3 + 3))).bind fun x9 =>
  (gA q6.2 0 v0 (w32 (v3 + 4))).bind fun x10 =>
  (gA q6.2 0 v0 (w32 (v3 + 5))).bind fun x11 =>
  ((Cd d 267 [vA v2, vI x7, vI x8, vI x9, vI x10, vI x11] q6.2).bind toI).bind fun q12 =>
  if q6.1 = q12.1 then
    Rr (Cd d) 302 1054 [some (vA v0), some (vA v1), some (vA v2), some (vI v3)] [] q12.2
  else
    some ([vI 0], q12.2) := (Rr_blk (Cd d) 302 [10, 22, 39, 76, 103, 140, 157, 194, 251, 268, 275, 292, 349, 386, 423, 460, 507, 544, 582, 619, 656, 673, 690, 747, 774, 791, 848, 905, 922, 959, 976, 1023, 1030, 1037, 1054] 1059 848 _ _ hp).trans rfl
set_option maxRecDepth 100000 in
theorem c302_905 (d : Nat) (v0 v1 v2 v3 : Int) (hp : HP) : Rr (Cd d) 302 905 [some (vA v0), some (vA v1), some (vA v2), some (vI v3)] [] hp =
  (gA hp 0 v0 (w32 (v3 + 1))).bind fun x1 =>
  ((Cd d 143 [vA v1, vI x1] hp).bind toI).bind fun q2 =>
  (gA q2.2 0 v0 (w32 (v3 + 1))).bind fun x3 =>
  ((Cd d 268 [vA v2, vI x3] q2.2).bind toI).bind fun q4 =>
  if q2.1 = q4.1 then
    Rr (Cd d) 302 1054 [some (vA v0), some (vA v1), some (vA v2), some (vI v3)] [] q4.2
  else
    some ([vI 0], q4.2) := (Rr_blk (Cd d) 302 [10, 22, 39, 76, 103, 140, 157, 194, 251, 268, 275, 292, 349, 386, 423, 460, 507, 544, 582, 619, 656, 673, 690, 747, 774, 791, 848, 905, 922, 959, 976, 1023, 1030, 1037, 1054] 1059 905 _ _ hp).trans rfl
set_option maxRecDepth 100000 in
theorem c302_922 (d : Nat) (v0 v1 v2 v3 : Int) (hp : HP) : Rr (Cd d) 302 922 [some (vA v0), some (vA v1), some (vA v2), some (vI v3)] [] hp =
  (gA hp 0 v0 (w32 (v3 + 1))).bind fun x1 =>
  (gA hp 0 v0 (w32 (v3 + 2))).bind fun x2 =>
  (gA hp 0 v0 (w32 (v3 + 3))).bind fun x3 =>
  ((Cd d 144 [vA v1, vI x1, vI x2, vI x3] hp).bind toI).bind fun q4 =>
  (gA q4.2 0 v0 (w32 (v3 + 1))).bind fun x5 =>
  (gA q4.2 0 v0 (w32 (v3 + 2))).bind fun x6 =>
  (gA q4.2 0 v0 (w32 (v3 + 3))).bind fun x7 =>
  ((Cd d 270 [vA v2, vI x5, vI x6, vI x7] q4.2).bind toI).bind fun q8 =>
  if q4.1 = q8.1 then
    Rr (Cd d) 302 1054 [some (vA v0), some (vA v1), some (vA v2), some (vI v3)] [] q8.2
  else
    some ([vI 0], q8.2) := (Rr_blk (Cd d) 302 [10, 22, 39, 76, 103, 140, 157, 194, 251, 268, 275, 292, 349, 386, 423, 460, 507, 544, 582, 619, 656, 673, 690, 747, 774, 791, 848, 905, 922, 959, 976, 1023, 1030, 1037, 1054] 1059 922 _ _ hp).trans rfl
set_option maxRecDepth 100000 in
theorem c302_959 (d : Nat) (v0 v1 v2 v3 : Int) (hp : HP) : Rr (Cd d) 302 959 [some (vA v0), some (vA v1), some (vA v2), some (vI v3)] [] hp =
  (gA hp 0 v0 (w32 (v3 + 1))).bind fun x1 =>
  ((Cd d 145 [vA v1, vI x1] hp).bind toI).bind fun q2 =>
  (gA q2.2 0 v0 (w32 (v3 + 1))).bind fun x3 =>
  ((Cd d 275 [vA v2, vI x3] q2.2).bind toI).bind fun q4 =>
  if q2.1 = q4.1 then
    Rr (Cd d) 302 1054 [some (vA v0), some (vA v1), some (vA v2), some (vI v3)] [] q4.2
  else
    some ([vI 0], q4.2) := (Rr_blk (Cd d) 302 [10, 22, 39, 76, 103, 140, 157, 194, 251, 268, 275, 292, 349, 386, 423, 460, 507, 544, 582, 619, 656, 673, 690, 747, 774, 791, 848, 905, 922, 959, 976, 1023, 1030, 1037, 1054] 1059 959 _ _ hp).trans rfl
set_option maxRecDepth 100000 in
theorem c302_976 (d : Nat) (v0 v1 v2 v3 : Int) (hp : HP) : Rr (Cd d) 302 976 [some (vA v0), some (vA v1), some (vA v2), some (vI v3)] [] hp =
  (gA hp 0 v0 (w32 (v3 + 1))).bind fun x1 =>
  (gA hp 0 v0 (w32 (v3 + 2))).bind fun x2 =>
  (gA hp 0 v0 (w32 (v3 + 3))).bind fun x3 =>
  (gA hp 0 v0 (w32 (v3 + 4))).bind fun x4 =>
  ((Cd d 146 [vA v1, vI x1, vI x2, vI x3, vI x4] hp).bind toI).bind fun q5 =>
  (gA q5.2 0 v0 (w32 (v3 + 1))).bind fun x6 =>
  (gA q5.2 0 v0 (w32 (v3 + 2))).bind fun x7 =>
  (gA q5.2 0 v0 (w32 (v3 + 3))).bind fun x8 =>
  (gA q5.2 0 v0 (w32 (v3 + 4))).bind fun x9 =>
  ((Cd d 278 [vA v2, vI x6, vI x7, vI x8, vI x9] q5.2).bind toI).bind fun q10 =>
  if q5.1 = q10.1 then
    Rr (Cd d) 302 1054 [some (vA v0), some (vA v1), some (vA v2), some (vI v3)] [] q10.2
  else
    some ([vI 0], q10.2) := (Rr_blk (Cd d) 302 [10, 22, 39, 76, 103, 140, 157, 194, 251, 268, 275, 292, 349, 386, 423, 460, 507, 544, 582, 619, 656, 673, 690, 747, 774, 791, 848, 905, 922, 959, 976, 1023, 1030, 1037, 1054] 1059 976 _ _ hp).trans rfl
set_option maxRecDepth 100000 in
theorem c302_1023 (d : Nat) (v0 v1 v2 v3 : Int) (hp : HP) : Rr (Cd d) 302 1023 [some (vA v0), some (vA v1), some (vA v2), some (vI v3)] [] hp =
  ((Cd d 147 [vA v1] hp).bind toI).bind fun q1 =>
  ((Cd d 279 [vA v2] q1.2).bind toI).bind fun q2 =>
  if q1.1 = q2.1 then
    Rr (Cd d) 302 1054 [some (vA v0), some (vA v1), some (vA v2), some (vI v3)] [] q2.2
  else
    some ([vI 0], q2.2) := (Rr_blk (Cd d) 302 [10, 22, 39, 76, 103, 140, 157, 194, 251, 268, 275, 292, 349, 386, 423, 460, 507, 544, 582, 619, 656, 673, 690, 747, 774, 791, 848, 905, 922, 959, 976, 1023, 1030, 1037, 1054] 1059 1023 _ _ hp).trans rfl
set_option maxRecDepth 100000 in
theorem c302_1030 (d : Nat) (v0 v1 v2 v3 : Int) (hp : HP) : Rr (Cd d) 302 1030 [some (vA v0), some (vA v1), some (vA v2), some (vI v3)] [] hp =
  ((Cd d 148 [vA v1] hp).bind toI).bind fun q1 =>
  ((Cd d 280 [vA v2] q1.2).bind toI).bind fun q2 =>
  if q1.1 = q2.1 then
    Rr (Cd d) 302 1054 [some (vA v0), some (vA v1), some (vA v2), some (vI v3)] [] q2.2
  else
    some ([vI 0], q2.2) := (Rr_blk (Cd d) 302 [10, 22, 39, 76, 103, 140, 157, 194, 251, 268, 275, 292, 349, 386, 423, 460, 507, 544, 582, 619, 656, 673, 690, 747, 774, 791, 848, 905, 922, 959, 976, 1023, 1030, 1037, 1054] 1059 1030 _ _ hp).trans rfl
set_option maxRecDepth 100000 in
theorem c302_1037 (d : Nat) (v0 v1 v2 v3 : Int) (hp : HP) : Rr (Cd d) 302 1037 [some (vA v0), some (vA v1), some (vA v2), some (vI v3)] [] hp =
  (gA hp 0 v0 (w32 (v3 + 1))).bind fun x1 =>
  ((Cd d 149 [vA v1, vI x1] hp).bind toI).bind fun q2 =>
  (gA q2.2 0 v0 (w32 (v3 + 1))).bind fun x3 =>
  ((Cd d 282 [vA v2, vI x3] q2.2).bind toI).bind fun q4 =>
  if q2.1 = q4.1 then
    Rr (Cd d) 302 1054 [some (vA v0), some (vA v1), some (vA v2), some (vI v3)] [] q4.2
  else
    some ([vI 0], q4.2) := (Rr_blk (Cd d) 302 [10, 22, 39, 76, 103, 140, 157, 194, 251, 268, 275, 292, 349, 386, 423, 460, 507, 544, 582, 619, 656, 673, 690, 747, 774, 791, 848, 905, 922, 959, 976, 1023, 1030, 1037, 1054] 1059 1037 _ _ hp).trans rfl
set_option maxRecDepth 100000 in
theorem c302_1054 (d : Nat) (v0 v1 v2 v3 : Int) (hp : HP) : Rr (Cd d) 302 1054 [some (vA v0), some (vA v1), some (vA v2), some (vI v3)] [] hp =
  Rr (Cd d) 302 10 [some (vA v0), some (vA v1), some (vA v2), some (vI (w32 (v3 + 6)))] [] hp := (Rr_blk (Cd d) 302 [10, 22, 39, 76, 103, 140, 157, 194, 251, 268, 275, 292, 349, 386, 423, 460, 507, 544, 582, 619, 656, 673, 690, 747, 774, 791, 848, 905, 922, 959, 976, 1023, 1030, 1037, 1054] 1059 1054 _ _ hp).trans rfl
