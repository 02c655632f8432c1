/-! the methods as equations, written by a program -/
set_option maxRecDepth 100000 in
theorem c250 (d : Nat) (v0 v1 v2 : Int) (hp : HP) {n : Nat} (hg : gS hp v0 = some (12, n)) : Cd (d + 1) 250 [vA v0, vI v1, vI v2] hp =
  (gF hp 12 28 v0).bind fun x1 =>
  if x1 = 0 then
    Rr (Cd d) 250 6 [some (vA v0), some (vI v1), some (vI v2), none, none, none, none, none] [vL 1] hp
  else
    Rr (Cd d) 250 6 [some (vA v0), some (vI v1), some (vI v2), none, none, none, none, none] [vL 0] hp := (Cd_inst rfl rfl rfl hg).trans ((Rr_blk (Cd d) 250 [6, 9, 20, 36, 37, 46, 50, 52, 73, 90, 99, 101] 104 0 _ [] hp).trans rfl)
set_option maxRecDepth 100000 in
theorem c250_6 (d : Nat) (v0 v1 v2 s0 : Int) (o3 o4 o5 o6 o7 : Option AV) (hp : HP) : Rr (Cd d) 250 6 [some (vA v0), some (vI v1), some (vI v2), o3, o4, o5, o6, o7] [vL s0] hp =
  Rr (Cd d) 250 9 [some (vA v0), some (vI v1), some (vI v2), some (vL s0), none, some (vI 0), o6, o7] [] hp := (Rr_blk (Cd d) 250 [6, 9, 20, 36, 37, 46, 50, 52, 73, 90, 99, 101] 104 6 _ _ hp).trans rfl
set_option maxRecDepth 100000 in
theorem c250_9 (d : Nat) (v0 v1 v2 v3 v5 : Int) (o4 o6 o7 : Option AV) (hp : HP) : Rr (Cd d) 250 9 [some (vA v0), some (vI v1), some (vI v2), some (vL v3), o4, some (vI v5), o6, o7] [] hp =
  (gF hp 12 25 v0).bind fun x1 =>
  if v5 < x1 then
    (gF hp 12 28 v0).bind fun x2 =>
    if x2 = 0 then
      Rr (Cd d) 250 50 [some (vA v0), some (vI v1), some (vI v2), some (vL v3), o4, some (vI v5), o6, o7] [] hp
    else
      Rr (Cd d) 250 20 [some (vA v0), some (vI v1), some (vI v2), some (vL v3), o4, some (vI v5), some (vI 1), some (vI 0)] [] hp
  else
    Rr (Cd d) 250 50 [some (vA v0), some (vI v1), some (vI v2), some (vL v3), o4, some (vI v5), o6, o7] [] hp := (Rr_blk (Cd d) 250 [6, 9, 20, 36, 37, 46, 50, 52, 73, 90, 99, 101] 104 9 _ _ hp).trans rfl
set_option maxRecDepth 100000 in
theorem c250_20 (d : Nat) (v0 v1 v2 v3 v5 v6 v7 : Int) (o4 : Option AV) (hp : HP) : Rr (Cd d) 250 20 [some (vA v0), some (vI v1), some (vI v2), some (vL v3), o4, some (vI v5), some (vI v6), some (vI v7)] [] hp =
  if v7 < 20 then
    if v6 = 0 then
      Rr (Cd d) 250 36 [some (vA v0), some (vI v1), some (vI v2), some (vL v3), o4, some (vI v5), some (vI v6), some (vI v7)] [] hp
    else
      ((Cd d 223 [vA v0, vI v5] hp).bind toI).bind fun q1 =>
      ((Cd d 249 [vA v0, vI v1, vI v2, vI v7, vI q1.1] q1.2).bind toI).bind fun q2 =>
      if q2.1 = 0 then
        Rr (Cd d) 250 36 [some (vA v0), some (vI v1), some (vI v2), some (vL v3), o4, some (vI v5), some (vI v6), some (vI v7)] [] q2.2
      else
        Rr (Cd d) 250 37 [some (vA v0), some (vI v1), some (vI v2), some (vL v3), o4, some (vI v5), some (vI v6), some (vI v7)] [vI 1] q2.2
  else
    if v6 = 0 then
      Rr (Cd d) 250 46 [some (vA v0), some (vI v1), some (vI v2), some (vL v3), o4, some (vI v5), some (vI v6), some (vI v7)] [vL 0, vL v3] hp
    else
      Rr (Cd d) 250 46 [some (vA v0), some (vI v1), some (vI v2), some (vL v3), o4, some (vI v5), some (vI v6), some (vI v7)] [vL 1, vL v3] hp := (Rr_blk (Cd d) 250 [6, 9, 20, 36, 37, 46, 50, 52, 73, 90, 99, 101] 104 20 _ _ hp).trans rfl
set_option maxRecDepth 100000 in
theorem c250_36 (d : Nat) (v0 v1 v2 v3 v5 v7 : Int) (o4 o6 : Option AV) (hp : HP) : Rr (Cd d) 250 36 [some (vA v0), some (vI v1), some (vI v2), some (vL v3), o4, some (vI v5), o6, some (vI v7)] [] hp =
  Rr (Cd d) 250 37 [some (vA v0), some (vI v1), some (vI v2), some (vL v3), o4, some (vI v5), o6, some (vI v7)] [vI 0] hp := (Rr_blk (Cd d) 250 [6, 9, 20, 36, 37, 46, 50, 52, 73, 90, 99, 101] 104 36 _ _ hp).trans rfl
set_option maxRecDepth 100000 in
theorem c250_37 (d : Nat) (v0 v1 v2 v3 v5 v7 s0 : Int) (o4 o6 : Option AV) (hp : HP) : Rr (Cd d) 250 37 [some (vA v0), some (vI v1), some (vI v2), some (vL v3), o4, some (vI v5), o6, some (vI v7)] [vI s0] hp =
  Rr (Cd d) 250 20 [some (vA v0), some (vI v1), some (vI v2), some (vL v3), o4, some (vI v5), some (vI s0), some (vI (w32 (v7 + 1)))] [] hp := (Rr_blk (Cd d) 250 [6, 9, 20, 36, 37, 46, 50, 52, 73, 90, 99, 101] 104 37 _ _ hp).trans rfl
set_option maxRecDepth 100000 in
theorem c250_46 (d : Nat) (v0 v1 v2 v5 s0 s1 : Int) (o3 o4 o6 o7 : Option AV) (hp : HP) : Rr (Cd d) 250 46 [some (vA v0), some (vI v1), some (vI v2), o3, o4, some (vI v5), o6, o7] [vL s1, vL s0] hp =
  Rr (Cd d) 250 9 [some (vA v0), some (vI v1), some (vI v2), some (vL (w64 (s0 + s1))), none, some (vI (w32 (v5 + 1))), o6, o7] [] hp := (Rr_blk (Cd d) 250 [6, 9, 20, 36, 37, 46, 50, 52, 73, 90, 99, 101] 104 46 _ _ hp).trans rfl
set_option maxRecDepth 100000 in
theorem c250_50 (d : Nat) (v0 v1 v2 v3 : Int) (o4 o5 o6 o7 : Option AV) (hp : HP) : Rr (Cd d) 250 50 [some (vA v0), some (vI v1), some (vI v2), some (vL v3), o4, o5, o6, o7] [] hp =
  Rr (Cd d) 250 52 [some (vA v0), some (vI v1), some (vI v2), some (vL v3), o4, some (vI 0), o6, o7] [] hp := (Rr_blk (Cd d) 250 [6, 9, 20, 36, 37, 46, 50, 52, 73, 90, 99, 101] 104 50 _ _ hp).trans rfl
set_option maxRecDepth 100000 in
theorem c250_52 (d : Nat) (v0 v1 v2 v3 v5 : Int) (o4 o6 o7 : Option AV) (hp : HP) : Rr (Cd d) 250 52 [some (vA v0), some (vI v1), some (vI v2), some (vL v3), o4, some (vI v5), o6, o7] [] hp =
  if v5 < 20 then
    (gF hp 12 28 v0).bind fun x1 =>
    if x1 = 0 then
      (gF hp 12 0 v0).bind fun x2 =>
      (gA hp 0 x2 (w32 (20 + v1))).bind fun x3 =>
      ((Cd d 248 [vA v0, vI v5, vI x3] hp).bind toI).bind fun q4 =>
      if q4.1 = 0 then
        Rr (Cd d) 250 99 [some (vA v0), some (vI v1), some (vI v2), some (vL v3), o4, some (vI v5), o6, o7] [] q4.2
      else
        Rr (Cd d) 250 73 [some (vA v0), some (vI v1), some (vI v2), some (vL v3), o4, some (vI v5), some (vI 0), some (vI 0)] [] q4.2
    else
      Rr (Cd d) 250 101 [some (vA v0), some (vI v1), some (vI v2), some (vL v3), o4, some (vI v5), o6, o7] [] hp
  else
    Rr (Cd d) 250 101 [some (vA v0), some (vI v1), some (vI v2), some (vL v3), o4, some (vI v5), o6, o7] [] hp := (Rr_blk (Cd d) 250 [6, 9, 20, 36, 37, 46, 50, 52, 73, 90, 99, 101] 104 52 _ _ hp).trans rfl
set_option maxRecDepth 100000 in
theorem c250_73 (d : Nat) (v0 v1 v2 v3 v5 v6 v7 : Int) (o4 : Option AV) (hp : HP) : Rr (Cd d) 250 73 [some (vA v0), some (vI v1), some (vI v2), some (vL v3), o4, some (vI v5), some (vI v6), some (vI v7)] [] hp =
  (gF hp 12 25 v0).bind fun x1 =>
  if v7 < x1 then
    ((Cd d 223 [vA v0, vI v7] hp).bind toI).bind fun q2 =>
    ((Cd d 249 [vA v0, vI v1, vI v2, vI v5, vI q2.1] q2.2).bind toI).bind fun q3 =>
    if q3.1 = 0 then
      Rr (Cd d) 250 90 [some (vA v0), some (vI v1), some (vI v2), some (vL v3), o4, some (vI v5), some (vI v6), some (vI v7)] [vI 0, vI v6] q3.2
    else
      Rr (Cd d) 250 90 [some (vA v0), some (vI v1), some (vI v2), some (vL v3), o4, some (vI v5), some (vI v6), some (vI v7)] [vI 1, vI v6] q3.2
  else
    Rr (Cd d) 250 99 [some (vA v0), some (vI v1), some (vI v2), some (vL (w64 (v3 * v6))), none, some (vI v5), some (vI v6), some (vI v7)] [] hp := (Rr_blk (Cd d) 250 [6, 9, 20, 36, 37, 46, 50, 52, 73, 90, 99, 101] 104 73 _ _ hp).trans rfl
set_option maxRecDepth 100000 in
theorem c250_90 (d : Nat) (v0 v1 v2 v3 v5 v7 s0 s1 : Int) (o4 o6 : Option AV) (hp : HP) : Rr (Cd d) 250 90 [some (vA v0), some (vI v1), some (vI v2), some (vL v3), o4, some (vI v5), o6, some (vI v7)] [vI s1, vI s0] hp =
  Rr (Cd d) 250 73 [some (vA v0), some (vI v1), some (vI v2), some (vL v3), o4, some (vI v5), some (vI (w32 (s0 + s1))), some (vI (w32 (v7 + 1)))] [] hp := (Rr_blk (Cd d) 250 [6, 9, 20, 36, 37, 46, 50, 52, 73, 90, 99, 101] 104 90 _ _ hp).trans rfl
set_option maxRecDepth 100000 in
theorem c250_99 (d : Nat) (v0 v1 v2 v3 v5 : Int) (o4 o6 o7 : Option AV) (hp : HP) : Rr (Cd d) 250 99 [some (vA v0), some (vI v1), some (vI v2), some (vL v3), o4, some (vI v5), o6, o7] [] hp =
  Rr (Cd d) 250 52 [some (vA v0), some (vI v1), some (vI v2), some (vL v3), o4, some (vI (w32 (v5 + 1))), o6, o7] [] hp := (Rr_blk (Cd d) 250 [6, 9, 20, 36, 37, 46, 50, 52, 73, 90, 99, 101] 104 99 _ _ hp).trans rfl
set_option maxRecDepth 100000 in
theorem c250_101 (d : Nat) (v3 : Int) (o0 o1 o2 o4 o5 o6 o7 : Option AV) (hp : HP) : Rr (Cd d) 250 101 [o0, o1, o2, some (vL v3), o4, o5, o6, o7] [] hp =
  some ([vL v3], hp) := (Rr_blk (Cd d) 250 [6, 9, 20, 36, 37, 46, 50, 52, 73, 90, 99, 101] 104 101 _ _ hp).trans rfl
set_option maxRecDepth 100000 in
theorem c251 (d : Nat) (v0 v1 v2 v3 : Int) (hp : HP) {n : Nat} (hg : gS hp v0 = some (12, n)) : Cd (d + 1) 251 [vA v0, vI v1, vI v2, vI v3] hp =
  ((Cd d 221 [vA v0, vI v1] hp).bind toI).bind fun q1 =>
  if q1.1 = 0 then
    Rr (Cd d) 251 8 [some (vA v0), some (vI v1), some (vI v2), some (vI v3)] [] q1.2
  else
    ((Cd d 173 [vA v0, vI v2] q1.2).bind toI).bind fun q2 =>
    if q2.1 = 0 then
      Rr (Cd d) 251 8 [some (vA v0), some (vI v1), some (vI v2), some (vI v3)] [] q2.2
    else
      ((Cd d 222 [vA v0, vI v1] q2.2).bind toV).bind fun q3 =>
      ((Cd d 183 [vA v0, vI v2] q3).bind toV).bind fun q4 =>
      (gF q4 12 6 v0).bind fun x5 =>
      ((Cd d 172 [vI v3, vI 0, vI (w32 (x5 - 1))] q4).bind toI).bind fun q6 =>
      if q6.1 = 0 then
        Rr (Cd d) 251 33 [some (vA v0), some (vI v1), some (vI v2), some (vI v3)] [vL ((-1))] q6.2
      else
        (gF q6.2 12 5 v0).bind fun x7 =>
        (gA q6.2 0 x7 v3).bind fun x8 =>
        ((Cd d 250 [vA v0, vI v2, vI x8] q6.2).bind toL).bind fun q9 =>
        Rr (Cd d) 251 33 [some (vA v0), some (vI v1), some (vI v2), some (vI v3)] [vL q9.1] q9.2 := (Cd_inst rfl rfl rfl hg).trans ((Rr_blk (Cd d) 251 [8, 33] 35 0 _ [] hp).trans rfl)
set_option maxRecDepth 100000 in
theorem c251_8 (d : Nat) (o0 o1 o2 o3 : Option AV) (hp : HP) : Rr (Cd d) 251 8 [o0, o1, o2, o3] [] hp =
  some ([vL ((-1))], hp) := (Rr_blk (Cd d) 251 [8, 33] 35 8 _ _ hp).trans rfl
set_option maxRecDepth 100000 in
theorem c251_33 (d : Nat) (s0 : Int) (o0 o1 o2 o3 : Option AV) (hp : HP) : Rr (Cd d) 251 33 [o0, o1, o2, o3] [vL s0] hp =
  some ([vL s0], hp) := (Rr_blk (Cd d) 251 [8, 33] 35 33 _ _ hp).trans rfl
set_option maxRecDepth 100000 in
theorem c252 (d : Nat) (v0 v1 v2 v3 : Int) (hp : HP) {n : Nat} (hg : gS hp v0 = some (12, n)) : Cd (d + 1) 252 [vA v0, vI v1, vI v2, vI v3] hp =
  Rr (Cd d) 252 2 [some (vA v0), some (vI v1), some (vI v2), some (vI v3), some (vI 0)] [] hp := (Cd_inst rfl rfl rfl hg).trans ((Rr_blk (Cd d) 252 [2] 19 0 _ [] hp).trans rfl)
set_option maxRecDepth 100000 in
theorem c252_2 (d : Nat) (v0 v1 v2 v3 v4 : Int) (hp : HP) : Rr (Cd d) 252 2 [some (vA v0), some (vI v1), some (vI v2), some (vI v3), some (vI v4)] [] hp =
  if v4 < 6 then
    ((Cd d 185 [vA v0, vI v1, vI v2, vI v4] hp).bind toI).bind fun q1 =>
    if q1.1 = v3 then
      some ([vI 1], q1.2)
    else
      Rr (Cd d) 252 2 [some (vA v0), some (vI v1), some (vI v2), some (vI v3), some (vI (w32 (v4 + 1)))] [] q1.2
  else
    some ([vI 0], hp) := (Rr_blk (Cd d) 252 [2] 19 2 _ _ hp).trans rfl
set_option maxRecDepth 100000 in
theorem c253 (d : Nat) (v0 v1 v2 v3 : Int) (hp : HP) {n : Nat} (hg : gS hp v0 = some (12, n)) : Cd (d + 1) 253 [vA v0, vI v1, vI v2, vI v3] hp =
  ((Cd d 221 [vA v0, vI v1] hp).bind toI).bind fun q1 =>
  if q1.1 = 0 then
    Rr (Cd d) 253 13 [some (vA v0), some (vI v1), some (vI v2), some (vI v3), none, none, none, none] [] q1.2
  else
    ((Cd d 173 [vA v0, vI v2] q1.2).bind toI).bind fun q2 =>
    if q2.1 = 0 then
      Rr (Cd d) 253 13 [some (vA v0), some (vI v1), some (vI v2), some (vI v3), none, none, none, none] [] q2.2
    else
      ((Cd d 172 [vI v3, vI 0, vI 2] q2.2).bind toI).bind fun q3 =>
      if q3.1 = 0 then
        Rr (Cd d) 253 13 [some (vA v0), some (vI v1), some (vI v2), some (vI v3), none, none, none, none] [] q3.2
      else
        ((Cd d 222 [vA v0, vI v1] q3.2).bind toV).bind fun q4 =>
        ((Cd d 183 [vA v0, vI v2] q4).bind toV).bind fun q5 =>
        Rr (Cd d) 253 29 [some (vA v0), some (vI v1), some (vI v2), some (vI v3), some (vI 0), some (vI ((-1))), some (vI 1), some (vI 0)] [] q5 := (Cd_inst rfl rfl rfl hg).trans ((Rr_blk (Cd d) 253 [13, 29, 48, 65, 66, 67, 82, 85] 87 0 _ [] hp).trans rfl)
set_option maxRecDepth 100000 in
theorem c253_13 (d : Nat) (o0 o1 o2 o3 o4 o5 o6 o7 : Option AV) (hp : HP) : Rr (Cd d) 253 13 [o0, o1, o2, o3, o4, o5, o6, o7] [] hp =
  some ([vI ((-1))], hp) := (Rr_blk (Cd d) 253 [13, 29, 48, 65, 66, 67, 82, 85] 87 13 _ _ hp).trans rfl
set_option maxRecDepth 100000 in
theorem c253_29 (d : Nat) (v0 v2 v3 v4 v5 v6 v7 : Int) (o1 : Option AV) (hp : HP) : Rr (Cd d) 253 29 [some (vA v0), o1, some (vI v2), some (vI v3), some (vI v4), some (vI v5), some (vI v6), some (vI v7)] [] hp =
  (gF hp 12 6 v0).bind fun x1 =>
  if v7 < x1 then
    (gF hp 12 5 v0).bind fun x2 =>
    (gA hp 0 x2 v7).bind fun x3 =>
    ((Cd d 250 [vA v0, vI v2, vI x3] hp).bind toL).bind fun q4 =>
    if lcmp q4.1 0 = 0 then
      Rr (Cd d) 253 67 [some (vA v0), o1, some (vI v2), some (vI v3), some (vI v4), some (vI v5), some (vI v6), some (vI v7)] [] q4.2
    else
      if v5 < 0 then
        Rr (Cd d) 253 48 [some (vA v0), o1, some (vI v2), some (vI v3), some (vI v4), some (vI v7), some (vI v6), some (vI v7)] [] q4.2
      else
        Rr (Cd d) 253 48 [some (vA v0), o1, some (vI v2), some (vI v3), some (vI v4), some (vI v5), some (vI v6), some (vI v7)] [] q4.2
  else
    if v3 = 0 then
      Rr (Cd d) 253 85 [some (vA v0), o1, some (vI v2), some (vI v3), some (vI v4), some (vI v5), some (vI v6), some (vI v7)] [vI v4] hp
    else
      if v3 = 1 then
        if v6 = 0 then
          Rr (Cd d) 253 82 [some (vA v0), o1, some (vI v2), some (vI v3), some (vI v4), some (vI v5), some (vI v6), some (vI v7)] [] hp
        else
          if 0 < v4 then
            Rr (Cd d) 253 85 [some (vA v0), o1, some (vI v2), some (vI v3), some (vI v4), some (vI v5), some (vI v6), some (vI v7)] [vI 1] hp
          else
            Rr (Cd d) 253 82 [some (vA v0), o1, some (vI v2), some (vI v3), some (vI v4), some (vI v5), some (vI v6), some (vI v7)] [] hp
      else
        Rr (Cd d) 253 85 [some (vA v0), o1, some (vI v2), some (vI v3), some (vI v4), some (vI v5), some (vI v6), some (vI v7)] [vI v5] hp := (Rr_blk (Cd d) 253 [13, 29, 48, 65, 66, 67, 82, 85] 87 29 _ _ hp).trans rfl
set_option maxRecDepth 100000 in
theorem c253_48 (d : Nat) (v0 v2 v3 v4 v5 v6 v7 : Int) (o1 : Option AV) (hp : HP) : Rr (Cd d) 253 48 [some (vA v0), o1, some (vI v2), some (vI v3), some (vI v4), some (vI v5), some (vI v6), some (vI v7)] [] hp =
  if v6 = 0 then
    Rr (Cd d) 253 65 [some (vA v0), o1, some (vI v2), some (vI v3), some (vI (w32 (v4 + 1))), some (vI v5), some (vI v6), some (vI v7)] [] hp
  else
    (gF hp 12 5 v0).bind fun x1 =>
    (gA hp 0 x1 v5).bind fun x2 =>
    (gF hp 12 5 v0).bind fun x3 =>
    (gA hp 0 x3 v7).bind fun x4 =>
    ((Cd d 252 [vA v0, vI v2, vI x2, vI x4] hp).bind toI).bind fun q5 =>
    if q5.1 = 0 then
      Rr (Cd d) 253 65 [some (vA v0), o1, some (vI v2), some (vI v3), some (vI (w32 (v4 + 1))), some (vI v5), some (vI v6), some (vI v7)] [] q5.2
    else
      Rr (Cd d) 253 66 [some (vA v0), o1, some (vI v2), some (vI v3), some (vI (w32 (v4 + 1))), some (vI v5), some (vI v6), some (vI v7)] [vI 1] q5.2 := (Rr_blk (Cd d) 253 [13, 29, 48, 65, 66, 67, 82, 85] 87 48 _ _ hp).trans rfl
set_option maxRecDepth 100000 in
theorem c253_65 (d : Nat) (v0 v2 v3 v4 v5 v7 : Int) (o1 o6 : Option AV) (hp : HP) : Rr (Cd d) 253 65 [some (vA v0), o1, some (vI v2), some (vI v3), some (vI v4), some (vI v5), o6, some (vI v7)] [] hp =
  Rr (Cd d) 253 66 [some (vA v0), o1, some (vI v2), some (vI v3), some (vI v4), some (vI v5), o6, some (vI v7)] [vI 0] hp := (Rr_blk (Cd d) 253 [13, 29, 48, 65, 66, 67, 82, 85] 87 65 _ _ hp).trans rfl
set_option maxRecDepth 100000 in
theorem c253_66 (d : Nat) (v0 v2 v3 v4 v5 v7 s0 : Int) (o1 o6 : Option AV) (hp : HP) : Rr (Cd d) 253 66 [some (vA v0), o1, some (vI v2), some (vI v3), some (vI v4), some (vI v5), o6, some (vI v7)] [vI s0] hp =
  Rr (Cd d) 253 67 [some (vA v0), o1, some (vI v2), some (vI v3), some (vI v4), some (vI v5), some (vI s0), some (vI v7)] [] hp := (Rr_blk (Cd d) 253 [13, 29, 48, 65, 66, 67, 82, 85] 87 66 _ _ hp).trans rfl
set_option maxRecDepth 100000 in
theorem c253_67 (d : Nat) (v0 v2 v3 v4 v5 v6 v7 : Int) (o1 : Option AV) (hp : HP) : Rr (Cd d) 253 67 [some (vA v0), o1, some (vI v2), some (vI v3), some (vI v4), some (vI v5), some (vI v6), some (vI v7)] [] hp =
  Rr (Cd d) 253 29 [some (vA v0), o1, some (vI v2), some (vI v3), some (vI v4), some (vI v5), some (vI v6), some (vI (w32 (v7 + 1)))] [] hp := (Rr_blk (Cd d) 253 [13, 29, 48, 65, 66, 67, 82, 85] 87 67 _ _ hp).trans rfl
set_option maxRecDepth 100000 in
theorem c253_82 (d : Nat) (o0 o1 o2 o3 o4 o5 o6 o7 : Option AV) (hp : HP) : Rr (Cd d) 253 82 [o0, o1, o2, o3, o4, o5, o6, o7] [] hp =
  Rr (Cd d) 253 85 [o0, o1, o2, o3, o4, o5, o6, o7] [vI 0] hp := (Rr_blk (Cd d) 253 [13, 29, 48, 65, 66, 67, 82, 85] 87 82 _ _ hp).trans rfl
set_option maxRecDepth 100000 in
theorem c253_85 (d : Nat) (s0 : Int) (o0 o1 o2 o3 o4 o5 o6 o7 : Option AV) (hp : HP) : Rr (Cd d) 253 85 [o0, o1, o2, o3, o4, o5, o6, o7] [vI s0] hp =
  some ([vI s0], hp) := (Rr_blk (Cd d) 253 [13, 29, 48, 65, 66, 67, 82, 85] 87 85 _ _ hp).trans rfl
set_option maxRecDepth 100000 in
theorem c254 (d : Nat) (v0 v1 v2 v3 : Int) (hp : HP) {n : Nat} (hg : gS hp v0 = some (12, n)) : Cd (d + 1) 254 [vA v0, vI v1, vI v2, vI v3] hp =
  ((Cd d 173 [vA v0, vI v1] hp).bind toI).bind fun q1 =>
  if q1.1 = 0 then
    Rr (Cd d) 254 18 [some (vA v0), some (vI v1), some (vI v2), some (vI v3), none] [] q1.2
  else
    ((Cd d 180 [vA v0, vI v1] q1.2).bind toI).bind fun q2 =>
    ((Cd d 172 [vI v2, vI 0, vI (w32 (q2.1 - 1))] q2.2).bind toI).bind fun q3 =>
    if q3.1 = 0 then
      Rr (Cd d) 254 18 [some (vA v0), some (vI v1), some (vI v2), some (vI v3), none] [] q3.2
    else
      ((Cd d 172 [vI v3, vI 0, vI 5] q3.2).bind toI).bind fun q4 =>
      if q4.1 = 0 then
        Rr (Cd d) 254 18 [some (vA v0), some (vI v1), some (vI v2), some (vI v3), none] [] q4.2
      else
        (gF q4.2 12 0 v0).bind fun x5 =>
        (pA q4.2 0 x5 4 1).bind fun h6 =>
        (gF h6 12 0 v0).bind fun x7 =>
        (pA h6 0 x7 5 v1).bind fun h8 =>
        Rr (Cd d) 254 32 [some (vA v0), some (vI v1), some (vI v2), some (vI v3), some (vI 0)] [] h8 := (Cd_inst rfl rfl rfl hg).trans ((Rr_blk (Cd d) 254 [18, 32, 58] 71 0 _ [] hp).trans rfl)
set_option maxRecDepth 100000 in
theorem c254_18 (d : Nat) (o0 o1 o2 o3 o4 : Option AV) (hp : HP) : Rr (Cd d) 254 18 [o0, o1, o2, o3, o4] [] hp =
  some ([vI 0], hp) := (Rr_blk (Cd d) 254 [18, 32, 58] 71 18 _ _ hp).trans rfl
set_option maxRecDepth 100000 in
theorem c254_32 (d : Nat) (v0 v1 v2 v3 v4 : Int) (hp : HP) : Rr (Cd d) 254 32 [some (vA v0), some (vI v1), some (vI v2), some (vI v3), some (vI v4)] [] hp =
  if v4 < 7 then
    (gF hp 12 0 v0).bind fun x1 =>
    (gF hp 12 0 v0).bind fun x2 =>
    (gA hp 0 x2 (w32 (20 + v1))).bind fun x3 =>
    if v4 < x3 then
      ((Cd d 181 [vA v0, vI v1, vI v2, vI v4] hp).bind toI).bind fun q4 =>
      ((Cd d 174 [vA v0, vI v3, vI q4.1] q4.2).bind toI).bind fun q5 =>
      Rr (Cd d) 254 58 [some (vA v0), some (vI v1), some (vI v2), some (vI v3), some (vI v4)] [vI q5.1, vI (w32 (300 + v4)), vA x1] q5.2
    else
      Rr (Cd d) 254 58 [some (vA v0), some (vI v1), some (vI v2), some (vI v3), some (vI v4)] [vI 0, vI (w32 (300 + v4)), vA x1] hp
  else
    some ([vI 1], hp) := (Rr_blk (Cd d) 254 [18, 32, 58] 71 32 _ _ hp).trans rfl
set_option maxRecDepth 100000 in
theorem c254_58 (d : Nat) (v0 v1 v2 v3 v4 s0 s1 s2 : Int) (hp : HP) : Rr (Cd d) 254 58 [some (vA v0), some (vI v1), some (vI v2), some (vI v3), some (vI v4)] [vI s2, vI s1, vA s0] hp =
  (pA hp 0 s0 s1 s2).bind fun h1 =>
  (gF h1 12 0 v0).bind fun x2 =>
  (pA h1 0 x2 (w32 (310 + v4)) 0).bind fun h3 =>
  Rr (Cd d) 254 32 [some (vA v0), some (vI v1), some (vI v2), some (vI v3), some (vI (w32 (v4 + 1)))] [] h3 := (Rr_blk (Cd d) 254 [18, 32, 58] 71 58 _ _ hp).trans rfl
set_option maxRecDepth 100000 in
theorem c255 (d : Nat) (v0 : Int) (hp : HP) {n : Nat} (hg : gS hp v0 = some (12, n)) : Cd (d + 1) 255 [vA v0] hp =
  Rr (Cd d) 255 4 [some (vA v0), some (vI 0), some (vI 0)] [] hp := (Cd_inst rfl rfl rfl hg).trans ((Rr_blk (Cd d) 255 [4] 21 0 _ [] hp).trans rfl)
set_option maxRecDepth 100000 in
theorem c255_4 (d : Nat) (v0 v1 v2 : Int) (hp : HP) : Rr (Cd d) 255 4 [some (vA v0), some (vI v1), some (vI v2)] [] hp =
  if v2 < 7 then
    (gF hp 12 0 v0).bind fun x1 =>
    (gA hp 0 x1 (w32 (310 + v2))).bind fun x2 =>
    Rr (Cd d) 255 4 [some (vA v0), some (vI (w32 (v1 + x2))), some (vI (w32 (v2 + 1)))] [] hp
  else
    some ([vI v1], hp) := (Rr_blk (Cd d) 255 [4] 21 4 _ _ hp).trans rfl
set_option maxRecDepth 100000 in
theorem c256 (d : Nat) (v0 v1 : Int) (hp : HP) {n : Nat} (hg : gS hp v0 = some (12, n)) : Cd (d + 1) 256 [vA v0, vI v1] hp =
  (gF hp 12 0 v0).bind fun x1 =>
  (gA hp 0 x1 4).bind fun x2 =>
  if x2 = 0 then
    Rr (Cd d) 256 20 [some (vA v0), some (vI v1)] [] hp
  else
    (gF hp 12 0 v0).bind fun x3 =>
    (gF hp 12 0 v0).bind fun x4 =>
    (gA hp 0 x4 5).bind fun x5 =>
    (gA hp 0 x3 (w32 (24 + x5))).bind fun x6 =>
    ((Cd d 172 [vI v1, vI 0, vI (w32 (x6 - 1))] hp).bind toI).bind fun q7 =>
    if q7.1 = 0 then
      Rr (Cd d) 256 20 [some (vA v0), some (vI v1)] [] q7.2
    else
      (gF q7.2 12 0 v0).bind fun x8 =>
      (gF q7.2 12 0 v0).bind fun x9 =>
      (gA q7.2 0 x9 5).bind fun x10 =>
      ((Cd d 176 [vA v0, vI x10, vI v1] q7.2).bind toI).bind fun q11 =>
      (pA q11.2 0 x8 (w32 (310 + q11.1)) 1).bind fun h12 =>
      (gF h12 12 0 v0).bind fun x13 =>
      (gF h12 12 0 v0).bind fun x14 =>
      (gA h12 0 x14 5).bind fun x15 =>
      ((Cd d 177 [vA v0, vI x15, vI v1] h12).bind toI).bind fun q16 =>
      (pA q16.2 0 x13 (w32 (310 + q16.1)) 1).bind fun h17 =>
      ((Cd d 255 [vA v0] h17).bind toI).bind fun q18 =>
      some ([vI q18.1], q18.2) := (Cd_inst rfl rfl rfl hg).trans ((Rr_blk (Cd d) 256 [20] 52 0 _ [] hp).trans rfl)
set_option maxRecDepth 100000 in
theorem c256_20 (d : Nat) (o0 o1 : Option AV) (hp : HP) : Rr (Cd d) 256 20 [o0, o1] [] hp =
  some ([vI ((-1))], hp) := (Rr_blk (Cd d) 256 [20] 52 20 _ _ hp).trans rfl
set_option maxRecDepth 100000 in
theorem c257 (d : Nat) (v0 : Int) (hp : HP) {n : Nat} (hg : gS hp v0 = some (12, n)) : Cd (d + 1) 257 [vA v0] hp =
  (gF hp 12 0 v0).bind fun x1 =>
  (gA hp 0 x1 5).bind fun x2 =>
  (gF hp 12 0 v0).bind fun x3 =>
  (gA hp 0 x3 4).bind fun x4 =>
  if x4 = 0 then
    Rr (Cd d) 257 19 [some (vA v0), some (vI x2), none] [] hp
  else
    ((Cd d 255 [vA v0] hp).bind toI).bind fun q5 =>
    (gF q5.2 12 0 v0).bind fun x6 =>
    (gA q5.2 0 x6 (w32 (20 + x2))).bind fun x7 =>
    if q5.1 < x7 then
      Rr (Cd d) 257 19 [some (vA v0), some (vI x2), none] [] q5.2
    else
      Rr (Cd d) 257 23 [some (vA v0), some (vI x2), some (vI 0)] [] q5.2 := (Cd_inst rfl rfl rfl hg).trans ((Rr_blk (Cd d) 257 [19, 23] 57 0 _ [] hp).trans rfl)
set_option maxRecDepth 100000 in
theorem c257_19 (d : Nat) (o0 o1 o2 : Option AV) (hp : HP) : Rr (Cd d) 257 19 [o0, o1, o2] [] hp =
  some ([vI 0], hp) := (Rr_blk (Cd d) 257 [19, 23] 57 19 _ _ hp).trans rfl
set_option maxRecDepth 100000 in
theorem c257_23 (d : Nat) (v0 v1 v2 : Int) (hp : HP) : Rr (Cd d) 257 23 [some (vA v0), some (vI v1), some (vI v2)] [] hp =
  (gF hp 12 0 v0).bind fun x1 =>
  (gA hp 0 x1 (w32 (24 + v1))).bind fun x2 =>
  if v2 < x2 then
    (gF hp 12 0 v0).bind fun x3 =>
    ((Cd d 176 [vA v0, vI v1, vI v2] hp).bind toI).bind fun q4 =>
    (gA q4.2 0 x3 (w32 (300 + q4.1))).bind fun x5 =>
    (gF q4.2 12 0 v0).bind fun x6 =>
    ((Cd d 177 [vA v0, vI v1, vI v2] q4.2).bind toI).bind fun q7 =>
    (gA q7.2 0 x6 (w32 (300 + q7.1))).bind fun x8 =>
    if x5 = x8 then
      some ([vI 0], q7.2)
    else
      Rr (Cd d) 257 23 [some (vA v0), some (vI v1), some (vI (w32 (v2 + 1)))] [] q7.2
  else
    some ([vI 1], hp) := (Rr_blk (Cd d) 257 [19, 23] 57 23 _ _ hp).trans rfl
set_option maxRecDepth 100000 in
theorem c258 (d : Nat) (v0 v1 : Int) (hp : HP) {n : Nat} (hg : gS hp v0 = some (12, n)) : Cd (d + 1) 258 [vA v0, vI v1] hp =
  if v1 = (-1) then
    ((Cd d 257 [vA v0] hp).bind toI).bind fun q8 =>
    if q8.1 = 0 then
      Rr (Cd d) 258 9 [some (vA v0), some (vI v1)] [vI 0] q8.2
    else
      Rr (Cd d) 258 9 [some (vA v0), some (vI v1)] [vI 1] q8.2
  else
    (gF hp 12 0 v0).bind fun x1 =>
    (gA hp 0 x1 4).bind fun x2 =>
    if x2 = 1 then
      ((Cd d 172 [vI v1, vI 0, vI 6] hp).bind toI).bind fun q3 =>
      if q3.1 = 0 then
        Rr (Cd d) 258 36 [some (vA v0), some (vI v1)] [] q3.2
      else
        (gF q3.2 12 0 v0).bind fun x4 =>
        (gA q3.2 0 x4 (w32 (310 + v1))).bind fun x5 =>
        if x5 = 1 then
          (gF q3.2 12 0 v0).bind fun x6 =>
          (gA q3.2 0 x6 (w32 (300 + v1))).bind fun x7 =>
          Rr (Cd d) 258 37 [some (vA v0), some (vI v1)] [vI x7] q3.2
        else
          Rr (Cd d) 258 36 [some (vA v0), some (vI v1)] [] q3.2
    else
      Rr (Cd d) 258 36 [some (vA v0), some (vI v1)] [] hp := (Cd_inst rfl rfl rfl hg).trans ((Rr_blk (Cd d) 258 [9, 36, 37] 39 0 _ [] hp).trans rfl)
set_option maxRecDepth 100000 in
theorem c258_9 (d : Nat) (s0 : Int) (o0 o1 : Option AV) (hp : HP) : Rr (Cd d) 258 9 [o0, o1] [vI s0] hp =
  some ([vI s0], hp) := (Rr_blk (Cd d) 258 [9, 36, 37] 39 9 _ _ hp).trans rfl
set_option maxRecDepth 100000 in
theorem c258_36 (d : Nat) (o0 o1 : Option AV) (hp : HP) : Rr (Cd d) 258 36 [o0, o1] [] hp =
  Rr (Cd d) 258 37 [o0, o1] [vI ((-1))] hp := (Rr_blk (Cd d) 258 [9, 36, 37] 39 36 _ _ hp).trans rfl
set_option maxRecDepth 100000 in
theorem c258_37 (d : Nat) (s0 : Int) (o0 o1 : Option AV) (hp : HP) : Rr (Cd d) 258 37 [o0, o1] [vI s0] hp =
  some ([vI s0], hp) := (Rr_blk (Cd d) 258 [9, 36, 37] 39 37 _ _ hp).trans rfl
set_option maxRecDepth 100000 in
theorem c259 (d : Nat) (v0 v1 v2 v3 v4 v5 : Int) (hp : HP) {n : Nat} (hg : gS hp v0 = some (12, n)) : Cd (d + 1) 259 [vA v0, vI v1, vI v2, vI v3, vI v4, vI v5] hp =
  ((Cd d 172 [vI v1, vI 0, vI 63] hp).bind toI).bind fun q1 =>
  if q1.1 = 0 then
    Rr (Cd d) 259 25 [some (vA v0), some (vI v1), some (vI v2), some (vI v3), some (vI v4), some (vI v5)] [] q1.2
  else
    ((Cd d 172 [vI v2, vI 0, vI 63] q1.2).bind toI).bind fun q2 =>
    if q2.1 = 0 then
      Rr (Cd d) 259 25 [some (vA v0), some (vI v1), some (vI v2), some (vI v3), some (vI v4), some (vI v5)] [] q2.2
    else
      ((Cd d 172 [vI v3, vI 0, vI 63] q2.2).bind toI).bind fun q3 =>
      if q3.1 = 0 then
        Rr (Cd d) 259 25 [some (vA v0), some (vI v1), some (vI v2), some (vI v3), some (vI v4), some (vI v5)] [] q3.2
      else
        ((Cd d 172 [vI v4, vI 1, vI 64] q3.2).bind toI).bind fun q4 =>
        if q4.1 = 0 then
          Rr (Cd d) 259 25 [some (vA v0), some (vI v1), some (vI v2), some (vI v3), some (vI v4), some (vI v5)] [] q4.2
        else
          ((Cd d 172 [vI v5, vI 1, vI 32] q4.2).bind toI).bind fun q5 =>
          if q5.1 = 0 then
            Rr (Cd d) 259 25 [some (vA v0), some (vI v1), some (vI v2), some (vI v3), some (vI v4), some (vI v5)] [] q5.2
          else
            (gF q5.2 12 0 v0).bind fun x6 =>
            (pA q5.2 0 x6 10 v1).bind fun h7 =>
            (gF h7 12 0 v0).bind fun x8 =>
            (pA h7 0 x8 11 v2).bind fun h9 =>
            (gF h9 12 0 v0).bind fun x10 =>
            (pA h9 0 x10 12 v3).bind fun h11 =>
            (gF h11 12 0 v0).bind fun x12 =>
            (pA h11 0 x12 13 v4).bind fun h13 =>
            (gF h13 12 0 v0).bind fun x14 =>
            (pA h13 0 x14 14 v5).bind fun h15 =>
            some ([vI 1], h15) := (Cd_inst rfl rfl rfl hg).trans ((Rr_blk (Cd d) 259 [25] 55 0 _ [] hp).trans rfl)
set_option maxRecDepth 100000 in
theorem c259_25 (d : Nat) (o0 o1 o2 o3 o4 o5 : Option AV) (hp : HP) : Rr (Cd d) 259 25 [o0, o1, o2, o3, o4, o5] [] hp =
  some ([vI 0], hp) := (Rr_blk (Cd d) 259 [25] 55 25 _ _ hp).trans rfl
set_option maxRecDepth 100000 in
theorem c260 (d : Nat) (v0 v1 v2 : Int) (hp : HP) {n : Nat} (hg : gS hp v0 = some (12, n)) : Cd (d + 1) 260 [vA v0, vI v1, vI v2] hp =
  (gF hp 12 0 v0).bind fun x1 =>
  (gA hp 0 x1 10).bind fun x2 =>
  (gF hp 12 0 v0).bind fun x3 =>
  (gA hp 0 x3 11).bind fun x4 =>
  (gF hp 12 0 v0).bind fun x5 =>
  (gA hp 0 x5 12).bind fun x6 =>
  (gF hp 12 0 v0).bind fun x7 =>
  (gA hp 0 x7 13).bind fun x8 =>
  if x8 = 0 then none else
  some ([vI (irem (w32 (w32 (w32 (x2 * v1) + (w32 (x4 * v2))) + (w32 ((w32 (x6 * v1)) * v2)))) x8)], hp) := (Cd_inst rfl rfl rfl hg).trans ((Rr_blk (Cd d) 260 [] 29 0 _ [] hp).trans rfl)
set_option maxRecDepth 100000 in
theorem c261 (d : Nat) (v0 v1 v2 : Int) (hp : HP) {n : Nat} (hg : gS hp v0 = some (12, n)) : Cd (d + 1) 261 [vA v0, vI v1, vI v2] hp =
  ((Cd d 172 [vI v1, vI 0, vI 2] hp).bind toI).bind fun q1 =>
  if q1.1 = 0 then
    Rr (Cd d) 261 20 [some (vA v0), some (vI v1), some (vI v2)] [] q1.2
  else
    (gF q1.2 12 0 v0).bind fun x2 =>
    (gA q1.2 0 x2 14).bind fun x3 =>
    ((Cd d 172 [vI v2, vI 0, vI (w32 (x3 - 1))] q1.2).bind toI).bind fun q4 =>
    if q4.1 = 0 then
      Rr (Cd d) 261 20 [some (vA v0), some (vI v1), some (vI v2)] [] q4.2
    else
      ((Cd d 260 [vA v0, vI v1, vI v2] q4.2).bind toI).bind fun q5 =>
      Rr (Cd d) 261 21 [some (vA v0), some (vI v1), some (vI v2)] [vI q5.1] q5.2 := (Cd_inst rfl rfl rfl hg).trans ((Rr_blk (Cd d) 261 [20, 21] 23 0 _ [] hp).trans rfl)
set_option maxRecDepth 100000 in
theorem c261_20 (d : Nat) (o0 o1 o2 : Option AV) (hp : HP) : Rr (Cd d) 261 20 [o0, o1, o2] [] hp =
  Rr (Cd d) 261 21 [o0, o1, o2] [vI ((-1))] hp := (Rr_blk (Cd d) 261 [20, 21] 23 20 _ _ hp).trans rfl
set_option maxRecDepth 100000 in
theorem c261_21 (d : Nat) (s0 : Int) (o0 o1 o2 : Option AV) (hp : HP) : Rr (Cd d) 261 21 [o0, o1, o2] [vI s0] hp =
  some ([vI s0], hp) := (Rr_blk (Cd d) 261 [20, 21] 23 21 _ _ hp).trans rfl
set_option maxRecDepth 100000 in
theorem c262 (d : Nat) (v0 v1 v2 : Int) (hp : HP) {n : Nat} (hg : gS hp v0 = some (12, n)) : Cd (d + 1) 262 [vA v0, vI v1, vI v2] hp =
  Rr (Cd d) 262 4 [some (vA v0), some (vI v1), some (vI v2), some (vI 0), some (vI 0)] [] hp := (Cd_inst rfl rfl rfl hg).trans ((Rr_blk (Cd d) 262 [4, 20] 27 0 _ [] hp).trans rfl)
set_option maxRecDepth 100000 in
theorem c262_4 (d : Nat) (v0 v1 v2 v3 v4 : Int) (hp : HP) : Rr (Cd d) 262 4 [some (vA v0), some (vI v1), some (vI v2), some (vI v3), some (vI v4)] [] hp =
  (gF hp 12 0 v0).bind fun x1 =>
  (gA hp 0 x1 14).bind fun x2 =>
  if v4 < x2 then
    ((Cd d 260 [vA v0, vI v1, vI v4] hp).bind toI).bind fun q3 =>
    if q3.1 = v2 then
      Rr (Cd d) 262 20 [some (vA v0), some (vI v1), some (vI v2), some (vI v3), some (vI v4)] [vI 1, vI v3] q3.2
    else
      Rr (Cd d) 262 20 [some (vA v0), some (vI v1), some (vI v2), some (vI v3), some (vI v4)] [vI 0, vI v3] q3.2
  else
    some ([vI v3], hp) := (Rr_blk (Cd d) 262 [4, 20] 27 4 _ _ hp).trans rfl
set_option maxRecDepth 100000 in
theorem c262_20 (d : Nat) (v0 v1 v2 v4 s0 s1 : Int) (o3 : Option AV) (hp : HP) : Rr (Cd d) 262 20 [some (vA v0), some (vI v1), some (vI v2), o3, some (vI v4)] [vI s1, vI s0] hp =
  Rr (Cd d) 262 4 [some (vA v0), some (vI v1), some (vI v2), some (vI (w32 (s0 + s1))), some (vI (w32 (v4 + 1)))] [] hp := (Rr_blk (Cd d) 262 [4, 20] 27 20 _ _ hp).trans rfl
set_option maxRecDepth 100000 in
theorem c263 (d : Nat) (v0 v1 : Int) (hp : HP) {n : Nat} (hg : gS hp v0 = some (12, n)) : Cd (d + 1) 263 [vA v0, vI v1] hp =
  (gF hp 12 0 v0).bind fun x1 =>
  (gA hp 0 x1 14).bind fun x2 =>
  Rr (Cd d) 263 7 [some (vA v0), some (vI v1), some (vI x2), some (vI 0), none] [] hp := (Cd_inst rfl rfl rfl hg).trans ((Rr_blk (Cd d) 263 [7, 14, 68, 69] 76 0 _ [] hp).trans rfl)
set_option maxRecDepth 100000 in
theorem c263_7 (d : Nat) (v0 v1 v2 v3 : Int) (o4 : Option AV) (hp : HP) : Rr (Cd d) 263 7 [some (vA v0), some (vI v1), some (vI v2), some (vI v3), o4] [] hp =
  if v3 < w32 (3 * v2) then
    Rr (Cd d) 263 14 [some (vA v0), some (vI v1), some (vI v2), some (vI v3), some (vI 0)] [] hp
  else
    some ([vI ((-1))], hp) := (Rr_blk (Cd d) 263 [7, 14, 68, 69] 76 7 _ _ hp).trans rfl
set_option maxRecDepth 100000 in
theorem c263_14 (d : Nat) (v0 v1 v2 v3 v4 : Int) (hp : HP) : Rr (Cd d) 263 14 [some (vA v0), some (vI v1), some (vI v2), some (vI v3), some (vI v4)] [] hp =
  if v4 < w32 (3 * v2) then
    if v2 = 0 then none else
    if v2 = 0 then none else
    if idiv v3 v2 = idiv v4 v2 then
      Rr (Cd d) 263 69 [some (vA v0), some (vI v1), some (vI v2), some (vI v3), some (vI v4)] [] hp
    else
      if v2 = 0 then none else
      if v2 = 0 then none else
      ((Cd d 260 [vA v0, vI (idiv v3 v2), vI (irem v3 v2)] hp).bind toI).bind fun q1 =>
      if v2 = 0 then none else
      if v2 = 0 then none else
      ((Cd d 260 [vA v0, vI (idiv v4 v2), vI (irem v4 v2)] q1.2).bind toI).bind fun q2 =>
      if q1.1 = q2.1 then
        if v1 = 2 then
          if v2 = 0 then none else
          Rr (Cd d) 263 68 [some (vA v0), some (vI v1), some (vI v2), some (vI v3), some (vI v4)] [vI (idiv v3 v2)] q2.2
        else
          if v1 = 3 then
            if v2 = 0 then none else
            Rr (Cd d) 263 68 [some (vA v0), some (vI v1), some (vI v2), some (vI v3), some (vI v4)] [vI (irem v3 v2)] q2.2
          else
            if v1 = 4 then
              if v2 = 0 then none else
              Rr (Cd d) 263 68 [some (vA v0), some (vI v1), some (vI v2), some (vI v3), some (vI v4)] [vI (idiv v4 v2)] q2.2
            else
              if v2 = 0 then none else
              Rr (Cd d) 263 68 [some (vA v0), some (vI v1), some (vI v2), some (vI v3), some (vI v4)] [vI (irem v4 v2)] q2.2
      else
        Rr (Cd d) 263 69 [some (vA v0), some (vI v1), some (vI v2), some (vI v3), some (vI v4)] [] q2.2
  else
    Rr (Cd d) 263 7 [some (vA v0), some (vI v1), some (vI v2), some (vI (w32 (v3 + 1))), some (vI v4)] [] hp := (Rr_blk (Cd d) 263 [7, 14, 68, 69] 76 14 _ _ hp).trans rfl
set_option maxRecDepth 100000 in
theorem c263_68 (d : Nat) (s0 : Int) (o0 o1 o2 o3 o4 : Option AV) (hp : HP) : Rr (Cd d) 263 68 [o0, o1, o2, o3, o4] [vI s0] hp =
  some ([vI s0], hp) := (Rr_blk (Cd d) 263 [7, 14, 68, 69] 76 68 _ _ hp).trans rfl
set_option maxRecDepth 100000 in
theorem c263_69 (d : Nat) (v0 v1 v2 v3 v4 : Int) (hp : HP) : Rr (Cd d) 263 69 [some (vA v0), some (vI v1), some (vI v2), some (vI v3), some (vI v4)] [] hp =
  Rr (Cd d) 263 14 [some (vA v0), some (vI v1), some (vI v2), some (vI v3), some (vI (w32 (v4 + 1)))] [] hp := (Rr_blk (Cd d) 263 [7, 14, 68, 69] 76 69 _ _ hp).trans rfl
set_option maxRecDepth 100000 in
theorem c264 (d : Nat) (v0 v1 v2 : Int) (hp : HP) {n : Nat} (hg : gS hp v0 = some (12, n)) : Cd (d + 1) 264 [vA v0, vI v1, vI v2] hp =
  Rr (Cd d) 264 4 [some (vA v0), some (vI v1), some (vI v2), some (vI 0), some (vI 0)] [] hp := (Cd_inst rfl rfl rfl hg).trans ((Rr_blk (Cd d) 264 [4, 31] 38 0 _ [] hp).trans rfl)
set_option maxRecDepth 100000 in
theorem c264_4 (d : Nat) (v0 v1 v2 v3 v4 : Int) (hp : HP) : Rr (Cd d) 264 4 [some (vA v0), some (vI v1), some (vI v2), some (vI v3), some (vI v4)] [] hp =
  (gF hp 12 0 v0).bind fun x1 =>
  (gA hp 0 x1 13).bind fun x2 =>
  if v4 < x2 then
    ((Cd d 262 [vA v0, vI v1, vI v4] hp).bind toI).bind fun q3 =>
    ((Cd d 262 [vA v0, vI v2, vI v4] q3.2).bind toI).bind fun q4 =>
    if q4.1 < q3.1 then
      ((Cd d 262 [vA v0, vI v1, vI v4] q4.2).bind toI).bind fun q5 =>
      ((Cd d 262 [vA v0, vI v2, vI v4] q5.2).bind toI).bind fun q6 =>
      Rr (Cd d) 264 31 [some (vA v0), some (vI v1), some (vI v2), some (vI v3), some (vI v4)] [vI (w32 (q5.1 - q6.1)), vI v3] q6.2
    else
      Rr (Cd d) 264 31 [some (vA v0), some (vI v1), some (vI v2), some (vI v3), some (vI v4)] [vI 0, vI v3] q4.2
  else
    some ([vI v3], hp) := (Rr_blk (Cd d) 264 [4, 31] 38 4 _ _ hp).trans rfl
set_option maxRecDepth 100000 in
theorem c264_31 (d : Nat) (v0 v1 v2 v4 s0 s1 : Int) (o3 : Option AV) (hp : HP) : Rr (Cd d) 264 31 [some (vA v0), some (vI v1), some (vI v2), o3, some (vI v4)] [vI s1, vI s0] hp =
  Rr (Cd d) 264 4 [some (vA v0), some (vI v1), some (vI v2), some (vI (w32 (s0 + s1))), some (vI (w32 (v4 + 1)))] [] hp := (Rr_blk (Cd d) 264 [4, 31] 38 31 _ _ hp).trans rfl
set_option maxRecDepth 100000 in
theorem c265 (d : Nat) (v0 v1 : Int) (hp : HP) {n : Nat} (hg : gS hp v0 = some (12, n)) : Cd (d + 1) 265 [vA v0, vI v1] hp =
  ((Cd d 172 [vI v1, vI 0, vI 8] hp).bind toI).bind fun q1 =>
  if q1.1 = 0 then
    some ([vI ((-1))], q1.2)
  else
    if v1 = 0 then
      ((Cd d 263 [vA v0, vI 2] q1.2).bind toI).bind fun q8 =>
      if q8.1 < 0 then
        Rr (Cd d) 265 16 [some (vA v0), some (vI v1)] [vI 1] q8.2
      else
        Rr (Cd d) 265 16 [some (vA v0), some (vI v1)] [vI 0] q8.2
    else
      if v1 = 1 then
        ((Cd d 264 [vA v0, vI 0, vI 1] q1.2).bind toI).bind fun q5 =>
        ((Cd d 264 [vA v0, vI 0, vI 2] q5.2).bind toI).bind fun q6 =>
        ((Cd d 264 [vA v0, vI 1, vI 2] q6.2).bind toI).bind fun q7 =>
        if w32 (w32 (q5.1 + q6.1) + q7.1) = 0 then
          Rr (Cd d) 265 38 [some (vA v0), some (vI v1)] [vI 1] q7.2
        else
          Rr (Cd d) 265 38 [some (vA v0), some (vI v1)] [vI 0] q7.2
      else
        if v1 < 6 then
          ((Cd d 263 [vA v0, vI v1] q1.2).bind toI).bind fun q4 =>
          Rr (Cd d) 265 60 [some (vA v0), some (vI v1)] [vI q4.1] q4.2
        else
          if v1 = 6 then
            ((Cd d 264 [vA v0, vI 0, vI 1] q1.2).bind toI).bind fun q3 =>
            Rr (Cd d) 265 60 [some (vA v0), some (vI v1)] [vI q3.1] q3.2
          else
            ((Cd d 264 [vA v0, vI (w32 (v1 - 7)), vI 2] q1.2).bind toI).bind fun q2 =>
            Rr (Cd d) 265 60 [some (vA v0), some (vI v1)] [vI q2.1] q2.2 := (Cd_inst rfl rfl rfl hg).trans ((Rr_blk (Cd d) 265 [16, 38, 60] 62 0 _ [] hp).trans rfl)
set_option maxRecDepth 100000 in
theorem c265_16 (d : Nat) (s0 : Int) (o0 o1 : Option AV) (hp : HP) : Rr (Cd d) 265 16 [o0, o1] [vI s0] hp =
  some ([vI s0], hp) := (Rr_blk (Cd d) 265 [16, 38, 60] 62 16 _ _ hp).trans rfl
set_option maxRecDepth 100000 in
theorem c265_38 (d : Nat) (s0 : Int) (o0 o1 : Option AV) (hp : HP) : Rr (Cd d) 265 38 [o0, o1] [vI s0] hp =
  some ([vI s0], hp) := (Rr_blk (Cd d) 265 [16, 38, 60] 62 38 _ _ hp).trans rfl
set_option maxRecDepth 100000 in
theorem c265_60 (d : Nat) (s0 : Int) (o0 o1 : Option AV) (hp : HP) : Rr (Cd d) 265 60 [o0, o1] [vI s0] hp =
  some ([vI s0], hp) := (Rr_blk (Cd d) 265 [16, 38, 60] 62 60 _ _ hp).trans rfl
set_option maxRecDepth 100000 in
theorem c266 (d : Nat) (v0 v1 v2 v3 v4 v5 : Int) (hp : HP) {n : Nat} (hg : gS hp v0 = some (12, n)) : Cd (d + 1) 266 [vA v0, vI v1, vI v2, vI v3, vI v4, vI v5] hp =
  ((Cd d 221 [vA v0, vI v1] hp).bind toI).bind fun q1 =>
  if q1.1 = 0 then
    Rr (Cd d) 266 23 [some (vA v0), some (vI v1), some (vI v2), some (vI v3), some (vI v4), some (vI v5), none, none, none, none, none] [] q1.2
  else
    ((Cd d 173 [vA v0, vI v2] q1.2).bind toI).bind fun q2 =>
    if q2.1 = 0 then
      Rr (Cd d) 266 23 [some (vA v0), some (vI v1), some (vI v2), some (vI v3), some (vI v4), some (vI v5), none, none, none, none, none] [] q2.2
    else
      ((Cd d 172 [vI v3, vI 0, vI 99] q2.2).bind toI).bind fun q3 =>
      if q3.1 = 0 then
        Rr (Cd d) 266 23 [some (vA v0), some (vI v1), some (vI v2), some (vI v3), some (vI v4), some (vI v5), none, none, none, none, none] [] q3.2
      else
        ((Cd d 172 [vI v4, vI 1, vI 100] q3.2).bind toI).bind fun q4 =>
        if q4.1 = 0 then
          Rr (Cd d) 266 23 [some (vA v0), some (vI v1), some (vI v2), some (vI v3), some (vI v4), some (vI v5), none, none, none, none, none] [] q4.2
        else
          ((Cd d 172 [vI v5, vI 0, vI 2] q4.2).bind toI).bind fun q5 =>
          if q5.1 = 0 then
            Rr (Cd d) 266 23 [some (vA v0), some (vI v1), some (vI v2), some (vI v3), some (vI v4), some (vI v5), none, none, none, none, none] [] q5.2
          else
            ((Cd d 222 [vA v0, vI v1] q5.2).bind toV).bind fun q6 =>
            ((Cd d 224 [vA v0, vI v2] q6).bind toI).bind fun q7 =>
            Rr (Cd d) 266 34 [some (vA v0), some (vI v1), some (vI v2), some (vI v3), some (vI v4), some (vI v5), some (vI q7.1), some (vI 0), none, none, none] [] q7.2 := (Cd_inst rfl rfl rfl hg).trans ((Rr_blk (Cd d) 266 [23, 34, 51, 75, 103, 106, 108] 111 0 _ [] hp).trans rfl)
set_option maxRecDepth 100000 in
theorem c266_23 (d : Nat) (o0 o1 o2 o3 o4 o5 o6 o7 o8 o9 o10 : Option AV) (hp : HP) : Rr (Cd d) 266 23 [o0, o1, o2, o3, o4, o5, o6, o7, o8, o9, o10] [] hp =
  some ([vI ((-1))], hp) := (Rr_blk (Cd d) 266 [23, 34, 51, 75, 103, 106, 108] 111 23 _ _ hp).trans rfl
set_option maxRecDepth 100000 in
theorem c266_34 (d : Nat) (v0 v2 v3 v4 v5 v6 v7 : Int) (o1 o8 o9 o10 : Option AV) (hp : HP) : Rr (Cd d) 266 34 [some (vA v0), o1, some (vI v2), some (vI v3), some (vI v4), some (vI v5), some (vI v6), some (vI v7), o8, o9, o10] [] hp =
  ((Cd d 180 [vA v0, vI v2] hp).bind toI).bind fun q1 =>
  if v7 < q1.1 then
    if 0 < v6 then
      ((Cd d 182 [vA v0, vI v2, vI v7] q1.2).bind toI).bind fun q2 =>
      if q2.1 = 0 then
        Rr (Cd d) 266 51 [some (vA v0), o1, some (vI v2), some (vI v3), some (vI v4), some (vI v5), some (vI v6), some (vI v7), some (vI 0), some (vI 0), o10] [] q2.2
      else
        Rr (Cd d) 266 106 [some (vA v0), o1, some (vI v2), some (vI v3), some (vI v4), some (vI v5), some (vI v6), some (vI v7), o8, o9, o10] [] q2.2
    else
      Rr (Cd d) 266 108 [some (vA v0), o1, some (vI v2), some (vI v3), some (vI v4), some (vI v5), some (vI v6), some (vI v7), o8, o9, o10] [] q1.2
  else
    Rr (Cd d) 266 108 [some (vA v0), o1, some (vI v2), some (vI v3), some (vI v4), some (vI v5), some (vI v6), some (vI v7), o8, o9, o10] [] q1.2 := (Rr_blk (Cd d) 266 [23, 34, 51, 75, 103, 106, 108] 111 34 _ _ hp).trans rfl
set_option maxRecDepth 100000 in
theorem c266_51 (d : Nat) (v0 v2 v3 v4 v5 v6 v7 v8 v9 : Int) (o1 o10 : Option AV) (hp : HP) : Rr (Cd d) 266 51 [some (vA v0), o1, some (vI v2), some (vI v3), some (vI v4), some (vI v5), some (vI v6), some (vI v7), some (vI v8), some (vI v9), o10] [] hp =
  (gF hp 12 0 v0).bind fun x1 =>
  (gA hp 0 x1 (w32 (20 + v2))).bind fun x2 =>
  if v9 < x2 then
    ((Cd d 181 [vA v0, vI v2, vI v7, vI v9] hp).bind toI).bind fun q3 =>
    Rr (Cd d) 266 51 [some (vA v0), o1, some (vI v2), some (vI v3), some (vI v4), some (vI v5), some (vI v6), some (vI v7), some (vI (w32 (v8 + (w32 ((w32 (v9 + 1)) * q3.1))))), some (vI (w32 (v9 + 1))), o10] [] q3.2
  else
    Rr (Cd d) 266 75 [some (vA v0), o1, some (vI v2), some (vI v3), some (vI v4), some (vI v5), some (vI v6), some (vI v7), some (vI v8), some (vI 0), o10] [] hp := (Rr_blk (Cd d) 266 [23, 34, 51, 75, 103, 106, 108] 111 51 _ _ hp).trans rfl
set_option maxRecDepth 100000 in
theorem c266_75 (d : Nat) (v0 v2 v3 v4 v5 v6 v7 v8 v9 : Int) (o1 o10 : Option AV) (hp : HP) : Rr (Cd d) 266 75 [some (vA v0), o1, some (vI v2), some (vI v3), some (vI v4), some (vI v5), some (vI v6), some (vI v7), some (vI v8), some (vI v9), o10] [] hp =
  if v9 < v4 then
    if v6 = 0 then none else
    ((Cd d 232 [vA v0, vI v2, vI (irem (w32 (w32 (v3 * v8) + v9)) v6), vI v7, vI 0] hp).bind toI).bind fun q1 =>
    if q1.1 = 0 then
      Rr (Cd d) 266 75 [some (vA v0), o1, some (vI v2), some (vI v3), some (vI v4), some (vI v5), some (vI v6), some (vI v7), some (vI v8), some (vI (w32 (v9 + 1))), some (vI (irem (w32 (w32 (v3 * v8) + v9)) v6))] [] q1.2
    else
      if v5 = 0 then
        Rr (Cd d) 266 103 [some (vA v0), o1, some (vI v2), some (vI v3), some (vI v4), some (vI v5), some (vI v6), some (vI v7), some (vI v8), some (vI v9), some (vI (irem (w32 (w32 (v3 * v8) + v9)) v6))] [vI v7] q1.2
      else
        if v5 = 1 then
          Rr (Cd d) 266 103 [some (vA v0), o1, some (vI v2), some (vI v3), some (vI v4), some (vI v5), some (vI v6), some (vI v7), some (vI v8), some (vI v9), some (vI (irem (w32 (w32 (v3 * v8) + v9)) v6))] [vI v9] q1.2
        else
          Rr (Cd d) 266 103 [some (vA v0), o1, some (vI v2), some (vI v3), some (vI v4), some (vI v5), some (vI v6), some (vI v7), some (vI v8), some (vI v9), some (vI (irem (w32 (w32 (v3 * v8) + v9)) v6))] [vI (irem (w32 (w32 (v3 * v8) + v9)) v6)] q1.2
  else
    Rr (Cd d) 266 106 [some (vA v0), o1, some (vI v2), some (vI v3), some (vI v4), some (vI v5), some (vI v6), some (vI v7), some (vI v8), some (vI v9), o10] [] hp := (Rr_blk (Cd d) 266 [23, 34, 51, 75, 103, 106, 108] 111 75 _ _ hp).trans rfl
set_option maxRecDepth 100000 in
theorem c266_103 (d : Nat) (s0 : Int) (o0 o1 o2 o3 o4 o5 o6 o7 o8 o9 o10 : Option AV) (hp : HP) : Rr (Cd d) 266 103 [o0, o1, o2, o3, o4, o5, o6, o7, o8, o9, o10] [vI s0] hp =
  some ([vI s0], hp) := (Rr_blk (Cd d) 266 [23, 34, 51, 75, 103, 106, 108] 111 103 _ _ hp).trans rfl
set_option maxRecDepth 100000 in
theorem c266_106 (d : Nat) (v0 v2 v3 v4 v5 v6 v7 : Int) (o1 o8 o9 o10 : Option AV) (hp : HP) : Rr (Cd d) 266 106 [some (vA v0), o1, some (vI v2), some (vI v3), some (vI v4), some (vI v5), some (vI v6), some (vI v7), o8, o9, o10] [] hp =
  Rr (Cd d) 266 34 [some (vA v0), o1, some (vI v2), some (vI v3), some (vI v4), some (vI v5), some (vI v6), some (vI (w32 (v7 + 1))), o8, o9, o10] [] hp := (Rr_blk (Cd d) 266 [23, 34, 51, 75, 103, 106, 108] 111 106 _ _ hp).trans rfl
set_option maxRecDepth 100000 in
theorem c266_108 (d : Nat) (o0 o1 o2 o3 o4 o5 o6 o7 o8 o9 o10 : Option AV) (hp : HP) : Rr (Cd d) 266 108 [o0, o1, o2, o3, o4, o5, o6, o7, o8, o9, o10] [] hp =
  some ([vI ((-1))], hp) := (Rr_blk (Cd d) 266 [23, 34, 51, 75, 103, 106, 108] 111 108 _ _ hp).trans rfl
set_option maxRecDepth 100000 in
theorem c267 (d : Nat) (v0 v1 v2 v3 v4 v5 : Int) (hp : HP) {n : Nat} (hg : gS hp v0 = some (12, n)) : Cd (d + 1) 267 [vA v0, vI v1, vI v2, vI v3, vI v4, vI v5] hp =
  ((Cd d 221 [vA v0, vI v1] hp).bind toI).bind fun q1 =>
  if q1.1 = 0 then
    Rr (Cd d) 267 32 [some (vA v0), some (vI v1), some (vI v2), some (vI v3), some (vI v4), some (vI v5), none, none, none, none, none, none, none, none, none, none, none] [] q1.2
  else
    ((Cd d 173 [vA v0, vI v2] q1.2).bind toI).bind fun q2 =>
    if q2.1 = 0 then
      Rr (Cd d) 267 32 [some (vA v0), some (vI v1), some (vI v2), some (vI v3), some (vI v4), some (vI v5), none, none, none, none, none, none, none, none, none, none, none] [] q2.2
    else
      ((Cd d 173 [vA v0, vI v4] q2.2).bind toI).bind fun q3 =>
      if q3.1 = 0 then
        Rr (Cd d) 267 32 [some (vA v0), some (vI v1), some (vI v2), some (vI v3), some (vI v4), some (vI v5), none, none, none, none, none, none, none, none, none, none, none] [] q3.2
      else
        (gF q3.2 12 0 v0).bind fun x4 =>
        (gA q3.2 0 x4 (w32 (24 + v2))).bind fun x5 =>
        (gF q3.2 12 0 v0).bind fun x6 =>
        (gA q3.2 0 x6 (w32 (24 + v4))).bind fun x7 =>
        if x5 = x7 then
          (gF q3.2 12 0 v0).bind fun x8 =>
          (gA q3.2 0 x8 (w32 (24 + v2))).bind fun x9 =>
          if x9 = 0 then
            Rr (Cd d) 267 32 [some (vA v0), some (vI v1), some (vI v2), some (vI v3), some (vI v4), some (vI v5), none, none, none, none, none, none, none, none, none, none, none] [] q3.2
          else
            ((Cd d 183 [vA v0, vI v2] q3.2).bind toV).bind fun q10 =>
            (gF q10 12 6 v0).bind fun x11 =>
            ((Cd d 172 [vI v3, vI 0, vI (w32 (x11 - 1))] q10).bind toI).bind fun q12 =>
            if q12.1 = 0 then
              some ([vI ((-1))], q12.2)
            else
              (gF q12.2 12 5 v0).bind fun x13 =>
              (gA q12.2 0 x13 v3).bind fun x14 =>
              ((Cd d 183 [vA v0, vI v4] q12.2).bind toV).bind fun q15 =>
              (gF q15 12 6 v0).bind fun x16 =>
              ((Cd d 172 [vI v5, vI 0, vI (w32 (x16 - 1))] q15).bind toI).bind fun q17 =>
              if q17.1 = 0 then
                some ([vI ((-1))], q17.2)
              else
                (gF q17.2 12 5 v0).bind fun x18 =>
                (gA q17.2 0 x18 v5).bind fun x19 =>
                ((Cd d 222 [vA v0, vI v1] q17.2).bind toV).bind fun q20 =>
                (pF q20 12 26 v0 0).bind fun h21 =>
                (gF h21 12 0 v0).bind fun x22 =>
                (gA h21 0 x22 (w32 (24 + v2))).bind fun x23 =>
                Rr (Cd d) 267 87 [some (vA v0), some (vI v1), some (vI v2), some (vI v3), some (vI v4), some (vI v5), some (vI x14), some (vI x19), some (vI x23), some (vI 0), some (vI 0), none, none, none, none, none, none] [] h21
        else
          Rr (Cd d) 267 32 [some (vA v0), some (vI v1), some (vI v2), some (vI v3), some (vI v4), some (vI v5), none, none, none, none, none, none, none, none, none, none, none] [] q3.2 := (Cd_inst rfl rfl rfl hg).trans ((Rr_blk (Cd d) 267 [32, 87, 92, 119, 143, 157, 165] 176 0 _ [] hp).trans rfl)
set_option maxRecDepth 100000 in
theorem c267_32 (d : Nat) (o0 o1 o2 o3 o4 o5 o6 o7 o8 o9 o10 o11 o12 o13 o14 o15 o16 : Option AV) (hp : HP) : Rr (Cd d) 267 32 [o0, o1, o2, o3, o4, o5, o6, o7, o8, o9, o10, o11, o12, o13, o14, o15, o16] [] hp =
  some ([vI ((-1))], hp) := (Rr_blk (Cd d) 267 [32, 87, 92, 119, 143, 157, 165] 176 32 _ _ hp).trans rfl
set_option maxRecDepth 100000 in
theorem c267_87 (d : Nat) (v0 v2 v4 v6 v7 v8 v9 v10 : Int) (o1 o3 o5 o11 o12 o13 o14 o15 o16 : Option AV) (hp : HP) : Rr (Cd d) 267 87 [some (vA v0), o1, some (vI v2), o3, some (vI v4), o5, some (vI v6), some (vI v7), some (vI v8), some (vI v9), some (vI v10), o11, o12, o13, o14, o15, o16] [] hp =
  if v10 < v8 then
    Rr (Cd d) 267 92 [some (vA v0), o1, some (vI v2), o3, some (vI v4), o5, some (vI v6), some (vI v7), some (vI v8), some (vI v9), some (vI v10), some (vI 0), o12, o13, o14, o15, o16] [] hp
  else
    some ([vI v9], hp) := (Rr_blk (Cd d) 267 [32, 87, 92, 119, 143, 157, 165] 176 87 _ _ hp).trans rfl
set_option maxRecDepth 100000 in
theorem c267_92 (d : Nat) (v0 v2 v4 v6 v7 v8 v9 v10 v11 : Int) (o1 o3 o5 o12 o13 o14 o15 o16 : Option AV) (hp : HP) : Rr (Cd d) 267 92 [some (vA v0), o1, some (vI v2), o3, some (vI v4), o5, some (vI v6), some (vI v7), some (vI v8), some (vI v9), some (vI v10), some (vI v11), o12, o13, o14, o15, o16] [] hp =
  if v11 < v8 then
    (gF hp 12 39 v0).bind fun x1 =>
    ((Cd d 242 [vA v0, vI v2, vI v11, vI ((-1)), vI v6, vA x1] hp).bind toV).bind fun q2 =>
    if v8 = 0 then none else
    (gF q2 12 40 v0).bind fun x3 =>
    ((Cd d 242 [vA v0, vI v4, vI (irem (w32 (w32 (v10 - v11) + v8)) v8), vI ((-1)), vI v7, vA x3] q2).bind toV).bind fun q4 =>
    Rr (Cd d) 267 119 [some (vA v0), o1, some (vI v2), o3, some (vI v4), o5, some (vI v6), some (vI v7), some (vI v8), some (vI v9), some (vI v10), some (vI v11), some (vI 0), o13, o14, o15, o16] [] q4
  else
    Rr (Cd d) 267 87 [some (vA v0), o1, some (vI v2), o3, some (vI v4), o5, some (vI v6), some (vI v7), some (vI v8), some (vI v9), some (vI (w32 (v10 + 1))), some (vI v11), o12, o13, o14, o15, o16] [] hp := (Rr_blk (Cd d) 267 [32, 87, 92, 119, 143, 157, 165] 176 92 _ _ hp).trans rfl
set_option maxRecDepth 100000 in
theorem c267_119 (d : Nat) (v0 v2 v4 v6 v7 v8 v9 v10 v11 v12 : Int) (o1 o3 o5 o13 o14 o15 o16 : Option AV) (hp : HP) : Rr (Cd d) 267 119 [some (vA v0), o1, some (vI v2), o3, some (vI v4), o5, some (vI v6), some (vI v7), some (vI v8), some (vI v9), some (vI v10), some (vI v11), some (vI v12), o13, o14, o15, o16] [] hp =
  if v12 < 81 then
    if idiv (irem v12 9) 3 = irem (irem v12 9) 3 then
      Rr (Cd d) 267 143 [some (vA v0), o1, some (vI v2), o3, some (vI v4), o5, some (vI v6), some (vI v7), some (vI v8), some (vI v9), some (vI v10), some (vI v11), some (vI v12), some (vI (idiv v12 9)), some (vI (irem v12 9)), o15, o16] [vI 0] hp
    else
      (gF hp 12 39 v0).bind fun x1 =>
      (gA hp 0 x1 (idiv v12 9)).bind fun x2 =>
      Rr (Cd d) 267 143 [some (vA v0), o1, some (vI v2), o3, some (vI v4), o5, some (vI v6), some (vI v7), some (vI v8), some (vI v9), some (vI v10), some (vI v11), some (vI v12), some (vI (idiv v12 9)), some (vI (irem v12 9)), o15, o16] [vI x2] hp
  else
    Rr (Cd d) 267 92 [some (vA v0), o1, some (vI v2), o3, some (vI v4), o5, some (vI v6), some (vI v7), some (vI v8), some (vI v9), some (vI v10), some (vI (w32 (v11 + 1))), some (vI v12), o13, o14, o15, o16] [] hp := (Rr_blk (Cd d) 267 [32, 87, 92, 119, 143, 157, 165] 176 119 _ _ hp).trans rfl
set_option maxRecDepth 100000 in
theorem c267_143 (d : Nat) (v0 v2 v4 v6 v7 v8 v9 v10 v11 v12 v13 v14 s0 : Int) (o1 o3 o5 o15 o16 : Option AV) (hp : HP) : Rr (Cd d) 267 143 [some (vA v0), o1, some (vI v2), o3, some (vI v4), o5, some (vI v6), some (vI v7), some (vI v8), some (vI v9), some (vI v10), some (vI v11), some (vI v12), some (vI v13), some (vI v14), o15, o16] [vI s0] hp =
  if idiv v13 3 = irem v13 3 then
    Rr (Cd d) 267 157 [some (vA v0), o1, some (vI v2), o3, some (vI v4), o5, some (vI v6), some (vI v7), some (vI v8), some (vI v9), some (vI v10), some (vI v11), some (vI v12), some (vI v13), some (vI v14), some (vI s0), o16] [vI 0] hp
  else
    (gF hp 12 40 v0).bind fun x1 =>
    (gA hp 0 x1 v14).bind fun x2 =>
    Rr (Cd d) 267 157 [some (vA v0), o1, some (vI v2), o3, some (vI v4), o5, some (vI v6), some (vI v7), some (vI v8), some (vI v9), some (vI v10), some (vI v11), some (vI v12), some (vI v13), some (vI v14), some (vI s0), o16] [vI x2] hp := (Rr_blk (Cd d) 267 [32, 87, 92, 119, 143, 157, 165] 176 143 _ _ hp).trans rfl
set_option maxRecDepth 100000 in
theorem c267_157 (d : Nat) (v0 v2 v4 v6 v7 v8 v9 v10 v11 v12 v15 s0 : Int) (o1 o3 o5 o13 o14 o16 : Option AV) (hp : HP) : Rr (Cd d) 267 157 [some (vA v0), o1, some (vI v2), o3, some (vI v4), o5, some (vI v6), some (vI v7), some (vI v8), some (vI v9), some (vI v10), some (vI v11), some (vI v12), o13, o14, some (vI v15), o16] [vI s0] hp =
  if v15 = s0 then
    Rr (Cd d) 267 165 [some (vA v0), o1, some (vI v2), o3, some (vI v4), o5, some (vI v6), some (vI v7), some (vI v8), some (vI v9), some (vI v10), some (vI v11), some (vI v12), o13, o14, some (vI v15), some (vI s0)] [vI 0, vI v9] hp
  else
    Rr (Cd d) 267 165 [some (vA v0), o1, some (vI v2), o3, some (vI v4), o5, some (vI v6), some (vI v7), some (vI v8), some (vI v9), some (vI v10), some (vI v11), some (vI v12), o13, o14, some (vI v15), some (vI s0)] [vI 1, vI v9] hp := (Rr_blk (Cd d) 267 [32, 87, 92, 119, 143, 157, 165] 176 157 _ _ hp).trans rfl
set_option maxRecDepth 100000 in
theorem c267_165 (d : Nat) (v0 v2 v4 v6 v7 v8 v10 v11 v12 s0 s1 : Int) (o1 o3 o5 o9 o13 o14 o15 o16 : Option AV) (hp : HP) : Rr (Cd d) 267 165 [some (vA v0), o1, some (vI v2), o3, some (vI v4), o5, some (vI v6), some (vI v7), some (vI v8), o9, some (vI v10), some (vI v11), some (vI v12), o13, o14, o15, o16] [vI s1, vI s0] hp =
  Rr (Cd d) 267 119 [some (vA v0), o1, some (vI v2), o3, some (vI v4), o5, some (vI v6), some (vI v7), some (vI v8), some (vI (w32 (s0 + s1))), some (vI v10), some (vI v11), some (vI (w32 (v12 + 1))), o13, o14, o15, o16] [] hp := (Rr_blk (Cd d) 267 [32, 87, 92, 119, 143, 157, 165] 176 165 _ _ hp).trans rfl
set_option maxRecDepth 100000 in
theorem c268 (d : Nat) (v0 v1 : Int) (hp : HP) {n : Nat} (hg : gS hp v0 = some (12, n)) : Cd (d + 1) 268 [vA v0, vI v1] hp =
  ((Cd d 172 [vI v1, vI 1, vI 3] hp).bind toI).bind fun q1 =>
  if q1.1 = 0 then
    some ([vI 0], q1.2)
  else
    (gF q1.2 12 0 v0).bind fun x2 =>
    (pA q1.2 0 x2 3 v1).bind fun h3 =>
    (gF h3 12 0 v0).bind fun x4 =>
    (pA h3 0 x4 2 0).bind fun h5 =>
    some ([vI 1], h5) := (Cd_inst rfl rfl rfl hg).trans ((Rr_blk (Cd d) 268 [] 20 0 _ [] hp).trans rfl)
set_option maxRecDepth 100000 in
theorem c269 (d : Nat) (v0 v1 : Int) (hp : HP) {n : Nat} (hg : gS hp v0 = some (12, n)) : Cd (d + 1) 269 [vA v0, vI v1] hp =
  if v1 = 0 then
    Rr (Cd d) 269 16 [some (vA v0), some (vI v1)] [] hp
  else
    (gF hp 12 0 v0).bind fun x1 =>
    (gA hp 0 x1 3).bind fun x2 =>
    (gF hp 12 0 v0).bind fun x3 =>
    (gA hp 0 x3 3).bind fun x4 =>
    ((Cd d 172 [vI v1, vI (w32 (-x2)), vI x4] hp).bind toI).bind fun q5 =>
    if q5.1 = 0 then
      Rr (Cd d) 269 16 [some (vA v0), some (vI v1)] [] q5.2
    else
      Rr (Cd d) 269 17 [some (vA v0), some (vI v1)] [vI 1] q5.2 := (Cd_inst rfl rfl rfl hg).trans ((Rr_blk (Cd d) 269 [16, 17] 19 0 _ [] hp).trans rfl)
set_option maxRecDepth 100000 in
theorem c269_16 (d : Nat) (o0 o1 : Option AV) (hp : HP) : Rr (Cd d) 269 16 [o0, o1] [] hp =
  Rr (Cd d) 269 17 [o0, o1] [vI 0] hp := (Rr_blk (Cd d) 269 [16, 17] 19 16 _ _ hp).trans rfl
set_option maxRecDepth 100000 in
theorem c269_17 (d : Nat) (s0 : Int) (o0 o1 : Option AV) (hp : HP) : Rr (Cd d) 269 17 [o0, o1] [vI s0] hp =
  if s0 = 0 ∨ s0 = 1 then some ([vI s0], hp) else none := (Rr_blk (Cd d) 269 [16, 17] 19 17 _ _ hp).trans rfl
set_option maxRecDepth 100000 in
theorem c270 (d : Nat) (v0 v1 v2 v3 : Int) (hp : HP) {n : Nat} (hg : gS hp v0 = some (12, n)) : Cd (d + 1) 270 [vA v0, vI v1, vI v2, vI v3] hp =
  ((Cd d 269 [vA v0, vI v1] hp).bind toI).bind fun q1 =>
  if q1.1 = 0 then
    Rr (Cd d) 270 18 [some (vA v0), some (vI v1), some (vI v2), some (vI v3), none] [] q1.2
  else
    ((Cd d 269 [vA v0, vI v2] q1.2).bind toI).bind fun q2 =>
    if q2.1 = 0 then
      Rr (Cd d) 270 18 [some (vA v0), some (vI v1), some (vI v2), some (vI v3), none] [] q2.2
    else
      ((Cd d 269 [vA v0, vI v3] q2.2).bind toI).bind fun q3 =>
      if q3.1 = 0 then
        Rr (Cd d) 270 18 [some (vA v0), some (vI v1), some (vI v2), some (vI v3), none] [] q3.2
      else
        (gF q3.2 12 0 v0).bind fun x4 =>
        (gA q3.2 0 x4 2).bind fun x5 =>
        if x5 = 3 then
          Rr (Cd d) 270 18 [some (vA v0), some (vI v1), some (vI v2), some (vI v3), none] [] q3.2
        else
          (gF q3.2 12 0 v0).bind fun x6 =>
          (gA q3.2 0 x6 2).bind fun x7 =>
          (gF q3.2 12 0 v0).bind fun x8 =>
          (pA q3.2 0 x8 (w32 (320 + (w32 (3 * x7)))) v1).bind fun h9 =>
          (gF h9 12 0 v0).bind fun x10 =>
          (pA h9 0 x10 (w32 (w32 (320 + (w32 (3 * x7))) + 1)) v2).bind fun h11 =>
          (gF h11 12 0 v0).bind fun x12 =>
          (pA h11 0 x12 (w32 (w32 (320 + (w32 (3 * x7))) + 2)) v3).bind fun h13 =>
          (gF h13 12 0 v0).bind fun x14 =>
          (gA h13 0 x14 2).bind fun x15 =>
          (pA h13 0 x14 2 (w32 (x15 + 1))).bind fun h16 =>
          (gF h16 12 0 v0).bind fun x17 =>
          (gA h16 0 x17 2).bind fun x18 =>
          some ([vI (w32 (x18 - 1))], h16) := (Cd_inst rfl rfl rfl hg).trans ((Rr_blk (Cd d) 270 [18] 64 0 _ [] hp).trans rfl)
set_option maxRecDepth 100000 in
theorem c270_18 (d : Nat) (o0 o1 o2 o3 o4 : Option AV) (hp : HP) : Rr (Cd d) 270 18 [o0, o1, o2, o3, o4] [] hp =
  some ([vI ((-1))], hp) := (Rr_blk (Cd d) 270 [18] 64 18 _ _ hp).trans rfl
set_option maxRecDepth 100000 in
theorem c271 (d : Nat) (v0 v1 v2 : Int) (hp : HP) {n : Nat} (hg : gS hp v0 = some (12, n)) : Cd (d + 1) 271 [vA v0, vI v1, vI v2] hp =
  if 0 < v1 then
    if iand (ishr v2 (w32 (v1 - 1))) 1 = 1 then
      Rr (Cd d) 271 27 [some (vA v0), some (vI v1), some (vI v2)] [vI 1] hp
    else
      Rr (Cd d) 271 27 [some (vA v0), some (vI v1), some (vI v2)] [vI 0] hp
  else
    if iand (ishr v2 (w32 (w32 (-v1) - 1))) 1 = 0 then
      Rr (Cd d) 271 27 [some (vA v0), some (vI v1), some (vI v2)] [vI 1] hp
    else
      Rr (Cd d) 271 27 [some (vA v0), some (vI v1), some (vI v2)] [vI 0] hp := (Cd_inst rfl rfl rfl hg).trans ((Rr_blk (Cd d) 271 [27] 29 0 _ [] hp).trans rfl)
set_option maxRecDepth 100000 in
theorem c271_27 (d : Nat) (s0 : Int) (o0 o1 o2 : Option AV) (hp : HP) : Rr (Cd d) 271 27 [o0, o1, o2] [vI s0] hp =
  if s0 = 0 ∨ s0 = 1 then some ([vI s0], hp) else none := (Rr_blk (Cd d) 271 [27] 29 27 _ _ hp).trans rfl
set_option maxRecDepth 100000 in
theorem c272 (d : Nat) (v0 v1 v2 : Int) (hp : HP) : Cd (d + 1) 272 [vI v0, vI v1, vI v2] hp =
  Rr (Cd d) 272 4 [some (vI v0), some (vI v1), some (vI v2), some (vI 0), some (vI 0), none, none, none, none, none, none, none] [] hp := (Rr_blk (Cd d) 272 [4, 59, 60, 84, 85] 92 0 _ [] hp).trans rfl
set_option maxRecDepth 100000 in
theorem c272_4 (d : Nat) (v0 v1 v2 v3 v4 : Int) (o5 o6 o7 o8 o9 o10 o11 : Option AV) (hp : HP) : Rr (Cd d) 272 4 [some (vI v0), some (vI v1), some (vI v2), some (vI v3), some (vI v4), o5, o6, o7, o8, o9, o10, o11] [] hp =
  if v4 < 729 then
    if v0 = irem v4 3 then
      Rr (Cd d) 272 59 [some (vI v0), some (vI v1), some (vI v2), some (vI v3), some (vI v4), some (vI (irem v4 3)), some (vI (irem (idiv v4 3) 3)), some (vI (irem (idiv v4 9) 3)), some (vI (irem (idiv v4 27) 3)), some (vI (irem (idiv v4 81) 3)), some (vI (idiv v4 243)), o11] [] hp
    else
      if v1 = irem (idiv v4 3) 3 then
        Rr (Cd d) 272 59 [some (vI v0), some (vI v1), some (vI v2), some (vI v3), some (vI v4), some (vI (irem v4 3)), some (vI (irem (idiv v4 3) 3)), some (vI (irem (idiv v4 9) 3)), some (vI (irem (idiv v4 27) 3)), some (vI (irem (idiv v4 81) 3)), some (vI (idiv v4 243)), o11] [] hp
      else
        if irem v4 3 = irem (idiv v4 3) 3 then
          Rr (Cd d) 272 59 [some (vI v0), some (vI v1), some (vI v2), some (vI v3), some (vI v4), some (vI (irem v4 3)), some (vI (irem (idiv v4 3) 3)), some (vI (irem (idiv v4 9) 3)), some (vI (irem (idiv v4 27) 3)), some (vI (irem (idiv v4 81) 3)), some (vI (idiv v4 243)), o11] [] hp
        else
          if irem v4 3 = irem (idiv v4 9) 3 then
            Rr (Cd d) 272 59 [some (vI v0), some (vI v1), some (vI v2), some (vI v3), some (vI v4), some (vI (irem v4 3)), some (vI (irem (idiv v4 3) 3)), some (vI (irem (idiv v4 9) 3)), some (vI (irem (idiv v4 27) 3)), some (vI (irem (idiv v4 81) 3)), some (vI (idiv v4 243)), o11] [] hp
          else
            if irem (idiv v4 3) 3 = irem (idiv v4 9) 3 then
              Rr (Cd d) 272 59 [some (vI v0), some (vI v1), some (vI v2), some (vI v3), some (vI v4), some (vI (irem v4 3)), some (vI (irem (idiv v4 3) 3)), some (vI (irem (idiv v4 9) 3)), some (vI (irem (idiv v4 27) 3)), some (vI (irem (idiv v4 81) 3)), some (vI (idiv v4 243)), o11] [] hp
            else
              if irem (idiv v4 9) 3 = irem (idiv v4 27) 3 then
                Rr (Cd d) 272 59 [some (vI v0), some (vI v1), some (vI v2), some (vI v3), some (vI v4), some (vI (irem v4 3)), some (vI (irem (idiv v4 3) 3)), some (vI (irem (idiv v4 9) 3)), some (vI (irem (idiv v4 27) 3)), some (vI (irem (idiv v4 81) 3)), some (vI (idiv v4 243)), o11] [] hp
              else
                Rr (Cd d) 272 60 [some (vI v0), some (vI v1), some (vI v2), some (vI v3), some (vI v4), some (vI (irem v4 3)), some (vI (irem (idiv v4 3) 3)), some (vI (irem (idiv v4 9) 3)), some (vI (irem (idiv v4 27) 3)), some (vI (irem (idiv v4 81) 3)), some (vI (idiv v4 243)), o11] [vI 1] hp
  else
    some ([vI v3], hp) := (Rr_blk (Cd d) 272 [4, 59, 60, 84, 85] 92 4 _ _ hp).trans rfl
set_option maxRecDepth 100000 in
theorem c272_59 (d : Nat) (v0 v1 v2 v3 v4 v8 v9 v10 : Int) (o5 o6 o7 o11 : Option AV) (hp : HP) : Rr (Cd d) 272 59 [some (vI v0), some (vI v1), some (vI v2), some (vI v3), some (vI v4), o5, o6, o7, some (vI v8), some (vI v9), some (vI v10), o11] [] hp =
  Rr (Cd d) 272 60 [some (vI v0), some (vI v1), some (vI v2), some (vI v3), some (vI v4), o5, o6, o7, some (vI v8), some (vI v9), some (vI v10), o11] [vI 0] hp := (Rr_blk (Cd d) 272 [4, 59, 60, 84, 85] 92 59 _ _ hp).trans rfl
set_option maxRecDepth 100000 in
theorem c272_60 (d : Nat) (v0 v1 v2 v3 v4 v8 v9 v10 s0 : Int) (o5 o6 o7 o11 : Option AV) (hp : HP) : Rr (Cd d) 272 60 [some (vI v0), some (vI v1), some (vI v2), some (vI v3), some (vI v4), o5, o6, o7, some (vI v8), some (vI v9), some (vI v10), o11] [vI s0] hp =
  if s0 = 0 then
    Rr (Cd d) 272 84 [some (vI v0), some (vI v1), some (vI v2), some (vI v3), some (vI v4), o5, o6, o7, some (vI v8), some (vI v9), some (vI v10), some (vI s0)] [vI v3] hp
  else
    if v2 = v9 then
      Rr (Cd d) 272 84 [some (vI v0), some (vI v1), some (vI v2), some (vI v3), some (vI v4), o5, o6, o7, some (vI v8), some (vI v9), some (vI v10), some (vI s0)] [vI v3] hp
    else
      if v8 = v9 then
        Rr (Cd d) 272 84 [some (vI v0), some (vI v1), some (vI v2), some (vI v3), some (vI v4), o5, o6, o7, some (vI v8), some (vI v9), some (vI v10), some (vI s0)] [vI v3] hp
      else
        if v8 = v10 then
          Rr (Cd d) 272 84 [some (vI v0), some (vI v1), some (vI v2), some (vI v3), some (vI v4), o5, o6, o7, some (vI v8), some (vI v9), some (vI v10), some (vI s0)] [vI v3] hp
        else
          if v9 = v10 then
            Rr (Cd d) 272 84 [some (vI v0), some (vI v1), some (vI v2), some (vI v3), some (vI v4), o5, o6, o7, some (vI v8), some (vI v9), some (vI v10), some (vI s0)] [vI v3] hp
          else
            if v10 = 1 then
              Rr (Cd d) 272 84 [some (vI v0), some (vI v1), some (vI v2), some (vI v3), some (vI v4), o5, o6, o7, some (vI v8), some (vI v9), some (vI v10), some (vI s0)] [vI v3] hp
            else
              if v10 = 2 then
                Rr (Cd d) 272 84 [some (vI v0), some (vI v1), some (vI v2), some (vI v3), some (vI v4), o5, o6, o7, some (vI v8), some (vI v9), some (vI v10), some (vI s0)] [vI v3] hp
              else
                Rr (Cd d) 272 85 [some (vI v0), some (vI v1), some (vI v2), some (vI v3), some (vI v4), o5, o6, o7, some (vI v8), some (vI v9), some (vI v10), some (vI s0)] [vI 1, vI v3] hp := (Rr_blk (Cd d) 272 [4, 59, 60, 84, 85] 92 60 _ _ hp).trans rfl
set_option maxRecDepth 100000 in
theorem c272_84 (d : Nat) (v0 v1 v2 v4 s0 : Int) (o3 o5 o6 o7 o8 o9 o10 o11 : Option AV) (hp : HP) : Rr (Cd d) 272 84 [some (vI v0), some (vI v1), some (vI v2), o3, some (vI v4), o5, o6, o7, o8, o9, o10, o11] [vI s0] hp =
  Rr (Cd d) 272 85 [some (vI v0), some (vI v1), some (vI v2), o3, some (vI v4), o5, o6, o7, o8, o9, o10, o11] [vI 0, vI s0] hp := (Rr_blk (Cd d) 272 [4, 59, 60, 84, 85] 92 84 _ _ hp).trans rfl
set_option maxRecDepth 100000 in
theorem c272_85 (d : Nat) (v0 v1 v2 v4 s0 s1 : Int) (o3 o5 o6 o7 o8 o9 o10 o11 : Option AV) (hp : HP) : Rr (Cd d) 272 85 [some (vI v0), some (vI v1), some (vI v2), o3, some (vI v4), o5, o6, o7, o8, o9, o10, o11] [vI s1, vI s0] hp =
  Rr (Cd d) 272 4 [some (vI v0), some (vI v1), some (vI v2), some (vI (w32 (s0 + s1))), some (vI (w32 (v4 + 1))), o5, o6, o7, o8, o9, o10, o11] [] hp := (Rr_blk (Cd d) 272 [4, 59, 60, 84, 85] 92 85 _ _ hp).trans rfl
set_option maxRecDepth 100000 in
theorem c273 (d : Nat) (v0 v1 : Int) (hp : HP) {n : Nat} (hg : gS hp v0 = some (12, n)) : Cd (d + 1) 273 [vA v0, vI v1] hp =
  Rr (Cd d) 273 4 [some (vA v0), some (vI v1), some (vI 1), some (vI 0), none] [] hp := (Cd_inst rfl rfl rfl hg).trans ((Rr_blk (Cd d) 273 [4, 28, 41, 54] 62 0 _ [] hp).trans rfl)
set_option maxRecDepth 100000 in
theorem c273_4 (d : Nat) (v0 v1 v2 v3 : Int) (o4 : Option AV) (hp : HP) : Rr (Cd d) 273 4 [some (vA v0), some (vI v1), some (vI v2), some (vI v3), o4] [] hp =
  (gF hp 12 0 v0).bind fun x1 =>
  (gA hp 0 x1 2).bind fun x2 =>
  if v3 < x2 then
    (gF hp 12 0 v0).bind fun x3 =>
    (gA hp 0 x3 (w32 (320 + (w32 (3 * v3))))).bind fun x4 =>
    ((Cd d 271 [vA v0, vI x4, vI v1] hp).bind toI).bind fun q5 =>
    if q5.1 = 0 then
      Rr (Cd d) 273 28 [some (vA v0), some (vI v1), some (vI v2), some (vI v3), some (vI (w32 (320 + (w32 (3 * v3)))))] [vI 1, vI v2] q5.2
    else
      Rr (Cd d) 273 28 [some (vA v0), some (vI v1), some (vI v2), some (vI v3), some (vI (w32 (320 + (w32 (3 * v3)))))] [vI 0, vI v2] q5.2
  else
    some ([vI v2], hp) := (Rr_blk (Cd d) 273 [4, 28, 41, 54] 62 4 _ _ hp).trans rfl
set_option maxRecDepth 100000 in
theorem c273_28 (d : Nat) (v0 v1 v3 v4 s0 s1 : Int) (o2 : Option AV) (hp : HP) : Rr (Cd d) 273 28 [some (vA v0), some (vI v1), o2, some (vI v3), some (vI v4)] [vI s1, vI s0] hp =
  (gF hp 12 0 v0).bind fun x1 =>
  (gA hp 0 x1 (w32 (v4 + 1))).bind fun x2 =>
  ((Cd d 271 [vA v0, vI x2, vI v1] hp).bind toI).bind fun q3 =>
  if q3.1 = 0 then
    Rr (Cd d) 273 41 [some (vA v0), some (vI v1), o2, some (vI v3), some (vI v4)] [vI 1, vI s1, vI s0] q3.2
  else
    Rr (Cd d) 273 41 [some (vA v0), some (vI v1), o2, some (vI v3), some (vI v4)] [vI 0, vI s1, vI s0] q3.2 := (Rr_blk (Cd d) 273 [4, 28, 41, 54] 62 28 _ _ hp).trans rfl
set_option maxRecDepth 100000 in
theorem c273_41 (d : Nat) (v0 v1 v3 v4 s0 s1 s2 : Int) (o2 : Option AV) (hp : HP) : Rr (Cd d) 273 41 [some (vA v0), some (vI v1), o2, some (vI v3), some (vI v4)] [vI s2, vI s1, vI s0] hp =
  (gF hp 12 0 v0).bind fun x1 =>
  (gA hp 0 x1 (w32 (v4 + 2))).bind fun x2 =>
  ((Cd d 271 [vA v0, vI x2, vI v1] hp).bind toI).bind fun q3 =>
  if q3.1 = 0 then
    Rr (Cd d) 273 54 [some (vA v0), some (vI v1), o2, some (vI v3), some (vI v4)] [vI 1, vI s2, vI s1, vI s0] q3.2
  else
    Rr (Cd d) 273 54 [some (vA v0), some (vI v1), o2, some (vI v3), some (vI v4)] [vI 0, vI s2, vI s1, vI s0] q3.2 := (Rr_blk (Cd d) 273 [4, 28, 41, 54] 62 41 _ _ hp).trans rfl
set_option maxRecDepth 100000 in
theorem c273_54 (d : Nat) (v0 v1 v3 s0 s1 s2 s3 : Int) (o2 o4 : Option AV) (hp : HP) : Rr (Cd d) 273 54 [some (vA v0), some (vI v1), o2, some (vI v3), o4] [vI s3, vI s2, vI s1, vI s0] hp =
  ((Cd d 272 [vI s1, vI s2, vI s3] hp).bind toI).bind fun q1 =>
  Rr (Cd d) 273 4 [some (vA v0), some (vI v1), some (vI (w32 (s0 * q1.1))), some (vI (w32 (v3 + 1))), o4] [] q1.2 := (Rr_blk (Cd d) 273 [4, 28, 41, 54] 62 54 _ _ hp).trans rfl
set_option maxRecDepth 100000 in
theorem c274 (d : Nat) (v0 v1 : Int) (hp : HP) {n : Nat} (hg : gS hp v0 = some (12, n)) : Cd (d + 1) 274 [vA v0, vI v1] hp =
  Rr (Cd d) 274 2 [some (vA v0), some (vI v1), some (vI 0), none] [] hp := (Cd_inst rfl rfl rfl hg).trans ((Rr_blk (Cd d) 274 [2, 44] 49 0 _ [] hp).trans rfl)
set_option maxRecDepth 100000 in
theorem c274_2 (d : Nat) (v0 v1 v2 : Int) (o3 : Option AV) (hp : HP) : Rr (Cd d) 274 2 [some (vA v0), some (vI v1), some (vI v2), o3] [] hp =
  (gF hp 12 0 v0).bind fun x1 =>
  (gA hp 0 x1 2).bind fun x2 =>
  if v2 < x2 then
    (gF hp 12 0 v0).bind fun x3 =>
    (gA hp 0 x3 (w32 (320 + (w32 (3 * v2))))).bind fun x4 =>
    ((Cd d 271 [vA v0, vI x4, vI v1] hp).bind toI).bind fun q5 =>
    if q5.1 = 0 then
      (gF q5.2 12 0 v0).bind fun x6 =>
      (gA q5.2 0 x6 (w32 (w32 (320 + (w32 (3 * v2))) + 1))).bind fun x7 =>
      ((Cd d 271 [vA v0, vI x7, vI v1] q5.2).bind toI).bind fun q8 =>
      if q8.1 = 0 then
        (gF q8.2 12 0 v0).bind fun x9 =>
        (gA q8.2 0 x9 (w32 (w32 (320 + (w32 (3 * v2))) + 2))).bind fun x10 =>
        ((Cd d 271 [vA v0, vI x10, vI v1] q8.2).bind toI).bind fun q11 =>
        if q11.1 = 0 then
          some ([vI 0], q11.2)
        else
          Rr (Cd d) 274 44 [some (vA v0), some (vI v1), some (vI v2), some (vI (w32 (320 + (w32 (3 * v2)))))] [] q11.2
      else
        Rr (Cd d) 274 44 [some (vA v0), some (vI v1), some (vI v2), some (vI (w32 (320 + (w32 (3 * v2)))))] [] q8.2
    else
      Rr (Cd d) 274 44 [some (vA v0), some (vI v1), some (vI v2), some (vI (w32 (320 + (w32 (3 * v2)))))] [] q5.2
  else
    some ([vI 1], hp) := (Rr_blk (Cd d) 274 [2, 44] 49 2 _ _ hp).trans rfl
set_option maxRecDepth 100000 in
theorem c274_44 (d : Nat) (v0 v1 v2 : Int) (o3 : Option AV) (hp : HP) : Rr (Cd d) 274 44 [some (vA v0), some (vI v1), some (vI v2), o3] [] hp =
  Rr (Cd d) 274 2 [some (vA v0), some (vI v1), some (vI (w32 (v2 + 1))), o3] [] hp := (Rr_blk (Cd d) 274 [2, 44] 49 44 _ _ hp).trans rfl
set_option maxRecDepth 100000 in
theorem c275 (d : Nat) (v0 v1 : Int) (hp : HP) {n : Nat} (hg : gS hp v0 = some (12, n)) : Cd (d + 1) 275 [vA v0, vI v1] hp =
  (gF hp 12 0 v0).bind fun x1 =>
  (gA hp 0 x1 3).bind fun x2 =>
  if v1 = 1 then
    (gF hp 12 0 v0).bind fun x9 =>
    (gA hp 0 x9 3).bind fun x10 =>
    (gF hp 12 0 v0).bind fun x11 =>
    (gA hp 0 x11 2).bind fun x12 =>
    some ([vI (w32 (w32 (3 + (w32 (2 * x10))) + (w32 (6 * x12))))], hp)
  else
    if v1 = 2 then
      (gF hp 12 0 v0).bind fun x5 =>
      (gA hp 0 x5 3).bind fun x6 =>
      (gF hp 12 0 v0).bind fun x7 =>
      (gA hp 0 x7 2).bind fun x8 =>
      some ([vI (w32 (w32 (3 + (w32 (3 * x6))) + (w32 (12 * x8))))], hp)
    else
      ((Cd d 172 [vI v1, vI 1000, vI (w32 (999 + (ishl 1 x2)))] hp).bind toI).bind fun q3 =>
      if q3.1 = 0 then
        if v1 = 0 then
          Rr (Cd d) 275 65 [some (vA v0), some (vI v1), some (vI (ishl 1 x2)), none, none] [] q3.2
        else
          if v1 = 3 then
            Rr (Cd d) 275 65 [some (vA v0), some (vI v1), some (vI (ishl 1 x2)), none, none] [] q3.2
          else
            some ([vI ((-1))], q3.2)
      else
        ((Cd d 273 [vA v0, vI (w32 (v1 - 1000))] q3.2).bind toI).bind fun q4 =>
        some ([vI q4.1], q4.2) := (Cd_inst rfl rfl rfl hg).trans ((Rr_blk (Cd d) 275 [65, 69, 87] 94 0 _ [] hp).trans rfl)
set_option maxRecDepth 100000 in
theorem c275_65 (d : Nat) (v0 v1 v2 : Int) (o3 o4 : Option AV) (hp : HP) : Rr (Cd d) 275 65 [some (vA v0), some (vI v1), some (vI v2), o3, o4] [] hp =
  Rr (Cd d) 275 69 [some (vA v0), some (vI v1), some (vI v2), some (vI 0), some (vI 0)] [] hp := (Rr_blk (Cd d) 275 [65, 69, 87] 94 65 _ _ hp).trans rfl
set_option maxRecDepth 100000 in
theorem c275_69 (d : Nat) (v0 v1 v2 v3 v4 : Int) (hp : HP) : Rr (Cd d) 275 69 [some (vA v0), some (vI v1), some (vI v2), some (vI v3), some (vI v4)] [] hp =
  if v4 < v2 then
    if v1 = 3 then
      ((Cd d 273 [vA v0, vI v4] hp).bind toI).bind fun q2 =>
      Rr (Cd d) 275 87 [some (vA v0), some (vI v1), some (vI v2), some (vI v3), some (vI v4)] [vI q2.1, vI v3] q2.2
    else
      ((Cd d 274 [vA v0, vI v4] hp).bind toI).bind fun q1 =>
      if q1.1 = 0 then
        Rr (Cd d) 275 87 [some (vA v0), some (vI v1), some (vI v2), some (vI v3), some (vI v4)] [vI 0, vI v3] q1.2
      else
        Rr (Cd d) 275 87 [some (vA v0), some (vI v1), some (vI v2), some (vI v3), some (vI v4)] [vI 1, vI v3] q1.2
  else
    some ([vI v3], hp) := (Rr_blk (Cd d) 275 [65, 69, 87] 94 69 _ _ hp).trans rfl
set_option maxRecDepth 100000 in
theorem c275_87 (d : Nat) (v0 v1 v2 v4 s0 s1 : Int) (o3 : Option AV) (hp : HP) : Rr (Cd d) 275 87 [some (vA v0), some (vI v1), some (vI v2), o3, some (vI v4)] [vI s1, vI s0] hp =
  Rr (Cd d) 275 69 [some (vA v0), some (vI v1), some (vI v2), some (vI (w32 (s0 + s1))), some (vI (w32 (v4 + 1)))] [] hp := (Rr_blk (Cd d) 275 [65, 69, 87] 94 87 _ _ hp).trans rfl
set_option maxRecDepth 100000 in
theorem c276 (d : Nat) (v0 v1 v2 v3 v4 v5 : Int) (hp : HP) {n : Nat} (hg : gS hp v0 = some (12, n)) : Cd (d + 1) 276 [vA v0, vI v1, vI v2, vI v3, vI v4, vI v5] hp =
  (gF hp 12 2 v0).bind fun x1 =>
  (gA hp 0 x1 (w32 (w32 (800 * v1) + 1))).bind fun x2 =>
  if x2 = v2 then
    Rr (Cd d) 276 15 [some (vA v0), some (vI v1), some (vI v2), some (vI v3), some (vI v4), some (vI v5), some (vI (w32 (800 * v1)))] [vI 0] hp
  else
    Rr (Cd d) 276 15 [some (vA v0), some (vI v1), some (vI v2), some (vI v3), some (vI v4), some (vI v5), some (vI (w32 (800 * v1)))] [vI 1] hp := (Cd_inst rfl rfl rfl hg).trans ((Rr_blk (Cd d) 276 [15, 26, 38] 43 0 _ [] hp).trans rfl)
set_option maxRecDepth 100000 in
theorem c276_15 (d : Nat) (v0 v3 v4 v5 v6 s0 : Int) (o1 o2 : Option AV) (hp : HP) : Rr (Cd d) 276 15 [some (vA v0), o1, o2, some (vI v3), some (vI v4), some (vI v5), some (vI v6)] [vI s0] hp =
  (gF hp 12 2 v0).bind fun x1 =>
  (gA hp 0 x1 (w32 (v6 + 2))).bind fun x2 =>
  if x2 = v3 then
    Rr (Cd d) 276 26 [some (vA v0), o1, o2, some (vI v3), some (vI v4), some (vI v5), some (vI v6)] [vI 0, vI s0] hp
  else
    Rr (Cd d) 276 26 [some (vA v0), o1, o2, some (vI v3), some (vI v4), some (vI v5), some (vI v6)] [vI 1, vI s0] hp := (Rr_blk (Cd d) 276 [15, 26, 38] 43 15 _ _ hp).trans rfl
set_option maxRecDepth 100000 in
theorem c276_26 (d : Nat) (v0 v4 v5 v6 s0 s1 : Int) (o1 o2 o3 : Option AV) (hp : HP) : Rr (Cd d) 276 26 [some (vA v0), o1, o2, o3, some (vI v4), some (vI v5), some (vI v6)] [vI s1, vI s0] hp =
  (gF hp 12 2 v0).bind fun x1 =>
  (gA hp 0 x1 (w32 (v6 + 3))).bind fun x2 =>
  if x2 = v4 then
    Rr (Cd d) 276 38 [some (vA v0), o1, o2, o3, some (vI v4), some (vI v5), some (vI v6)] [vI 0, vI (w32 (s0 + s1))] hp
  else
    Rr (Cd d) 276 38 [some (vA v0), o1, o2, o3, some (vI v4), some (vI v5), some (vI v6)] [vI 1, vI (w32 (s0 + s1))] hp := (Rr_blk (Cd d) 276 [15, 26, 38] 43 26 _ _ hp).trans rfl
set_option maxRecDepth 100000 in
theorem c276_38 (d : Nat) (v5 s0 s1 : Int) (o0 o1 o2 o3 o4 o6 : Option AV) (hp : HP) : Rr (Cd d) 276 38 [o0, o1, o2, o3, o4, some (vI v5), o6] [vI s1, vI s0] hp =
  some ([vI (w32 (w32 (s0 + s1) + v5))], hp) := (Rr_blk (Cd d) 276 [15, 26, 38] 43 38 _ _ hp).trans rfl
set_option maxRecDepth 100000 in
theorem c277 (d : Nat) (v0 v1 v2 : Int) (hp : HP) {n : Nat} (hg : gS hp v0 = some (12, n)) : Cd (d + 1) 277 [vA v0, vI v1, vI v2] hp =
  ((Cd d 234 [vA v0, vI v1] hp).bind toI).bind fun q1 =>
  if 0 < q1.1 then
    some ([vI 0], q1.2)
  else
    ((Cd d 245 [vA v0, vI v1, vI 1] q1.2).bind toI).bind fun q2 =>
    if q2.1 = 0 then
      (gF q2.2 12 28 v0).bind fun x3 =>
      if x3 = 0 then
        Rr (Cd d) 277 23 [some (vA v0), some (vI v1), some (vI v2)] [] q2.2
      else
        ((Cd d 245 [vA v0, vI v1, vI 2] q2.2).bind toI).bind fun q4 =>
        if q4.1 = 0 then
          Rr (Cd d) 277 23 [some (vA v0), some (vI v1), some (vI v2)] [] q4.2
        else
          some ([vI 0], q4.2)
    else
      some ([vI 0], q2.2) := (Cd_inst rfl rfl rfl hg).trans ((Rr_blk (Cd d) 277 [23, 35] 37 0 _ [] hp).trans rfl)
set_option maxRecDepth 100000 in
theorem c277_23 (d : Nat) (v0 v2 : Int) (o1 : Option AV) (hp : HP) : Rr (Cd d) 277 23 [some (vA v0), o1, some (vI v2)] [] hp =
  ((Cd d 236 [vA v0, vI v2] hp).bind toV).bind fun q1 =>
  (gF q1 12 36 v0).bind fun x2 =>
  ((Cd d 224 [vA v0, vI v2] q1).bind toI).bind fun q3 =>
  if x2 < q3.1 then
    Rr (Cd d) 277 35 [some (vA v0), o1, some (vI v2)] [vI 1] q3.2
  else
    Rr (Cd d) 277 35 [some (vA v0), o1, some (vI v2)] [vI 0] q3.2 := (Rr_blk (Cd d) 277 [23, 35] 37 23 _ _ hp).trans rfl
set_option maxRecDepth 100000 in
theorem c277_35 (d : Nat) (s0 : Int) (o0 o1 o2 : Option AV) (hp : HP) : Rr (Cd d) 277 35 [o0, o1, o2] [vI s0] hp =
  if s0 = 0 ∨ s0 = 1 then some ([vI s0], hp) else none := (Rr_blk (Cd d) 277 [23, 35] 37 35 _ _ hp).trans rfl
set_option maxRecDepth 100000 in
theorem c278 (d : Nat) (v0 v1 v2 v3 v4 : Int) (hp : HP) {n : Nat} (hg : gS hp v0 = some (12, n)) : Cd (d + 1) 278 [vA v0, vI v1, vI v2, vI v3, vI v4] hp =
  ((Cd d 221 [vA v0, vI v1] hp).bind toI).bind fun q1 =>
  if q1.1 = 0 then
    Rr (Cd d) 278 17 [some (vA v0), some (vI v1), some (vI v2), some (vI v3), some (vI v4), none, none, none, none, none] [] q1.2
  else
    ((Cd d 173 [vA v0, vI v2] q1.2).bind toI).bind fun q2 =>
    if q2.1 = 0 then
      Rr (Cd d) 278 17 [some (vA v0), some (vI v1), some (vI v2), some (vI v3), some (vI v4), none, none, none, none, none] [] q2.2
    else
      ((Cd d 173 [vA v0, vI v3] q2.2).bind toI).bind fun q3 =>
      if q3.1 = 0 then
        Rr (Cd d) 278 17 [some (vA v0), some (vI v1), some (vI v2), some (vI v3), some (vI v4), none, none, none, none, none] [] q3.2
      else
        ((Cd d 172 [vI v4, vI 0, vI 4] q3.2).bind toI).bind fun q4 =>
        if q4.1 = 0 then
          Rr (Cd d) 278 17 [some (vA v0), some (vI v1), some (vI v2), some (vI v3), some (vI v4), none, none, none, none, none] [] q4.2
        else
          ((Cd d 183 [vA v0, vI v3] q4.2).bind toV).bind fun q5 =>
          (gF q5 12 6 v0).bind fun x6 =>
          if 0 < x6 then
            some ([vI ((-1))], q5)
          else
            ((Cd d 183 [vA v0, vI v2] q5).bind toV).bind fun q7 =>
            (gF q7 12 6 v0).bind fun x8 =>
            if x8 = 0 then
              some ([vI ((-1))], q7)
            else
              Rr (Cd d) 278 41 [some (vA v0), some (vI v1), some (vI v2), some (vI v3), some (vI v4), some (vI ((-1))), some (vI 5), some (vI 0), none, none] [] q7 := (Cd_inst rfl rfl rfl hg).trans ((Rr_blk (Cd d) 278 [17, 41, 56, 96, 112, 122, 169] 171 0 _ [] hp).trans rfl)
set_option maxRecDepth 100000 in
theorem c278_17 (d : Nat) (o0 o1 o2 o3 o4 o5 o6 o7 o8 o9 : Option AV) (hp : HP) : Rr (Cd d) 278 17 [o0, o1, o2, o3, o4, o5, o6, o7, o8, o9] [] hp =
  some ([vI ((-1))], hp) := (Rr_blk (Cd d) 278 [17, 41, 56, 96, 112, 122, 169] 171 17 _ _ hp).trans rfl
set_option maxRecDepth 100000 in
theorem c278_41 (d : Nat) (v0 v1 v2 v3 v4 v5 v6 v7 : Int) (o8 o9 : Option AV) (hp : HP) : Rr (Cd d) 278 41 [some (vA v0), some (vI v1), some (vI v2), some (vI v3), some (vI v4), some (vI v5), some (vI v6), some (vI v7), o8, o9] [] hp =
  if v7 < 48 then
    if idiv v7 12 = 3 then
      Rr (Cd d) 278 56 [some (vA v0), some (vI v1), some (vI v2), some (vI v3), some (vI v4), some (vI v5), some (vI v6), some (vI v7), o8, o9] [vI 6] hp
    else
      Rr (Cd d) 278 56 [some (vA v0), some (vI v1), some (vI v2), some (vI v3), some (vI v4), some (vI v5), some (vI v6), some (vI v7), o8, o9] [vI (w32 (idiv v7 12 + 1))] hp
  else
    if v5 < 0 then
      some ([vI ((-1))], hp)
    else
      if v4 = 0 then
        Rr (Cd d) 278 169 [some (vA v0), some (vI v1), some (vI v2), some (vI v3), some (vI v4), some (vI v5), some (vI v6), some (vI v7), o8, o9] [vI v6] hp
      else
        if v4 = 1 then
          if idiv v5 12 = 3 then
            Rr (Cd d) 278 169 [some (vA v0), some (vI v1), some (vI v2), some (vI v3), some (vI v4), some (vI v5), some (vI v6), some (vI v7), o8, o9] [vI 6] hp
          else
            Rr (Cd d) 278 169 [some (vA v0), some (vI v1), some (vI v2), some (vI v3), some (vI v4), some (vI v5), some (vI v6), some (vI v7), o8, o9] [vI (w32 (idiv v5 12 + 1))] hp
        else
          if v4 = 2 then
            Rr (Cd d) 278 169 [some (vA v0), some (vI v1), some (vI v2), some (vI v3), some (vI v4), some (vI v5), some (vI v6), some (vI v7), o8, o9] [vI (irem (idiv v5 6) 2)] hp
          else
            if v4 = 3 then
              Rr (Cd d) 278 169 [some (vA v0), some (vI v1), some (vI v2), some (vI v3), some (vI v4), some (vI v5), some (vI v6), some (vI v7), o8, o9] [vI (irem (idiv v5 2) 3)] hp
            else
              Rr (Cd d) 278 169 [some (vA v0), some (vI v1), some (vI v2), some (vI v3), some (vI v4), some (vI v5), some (vI v6), some (vI v7), o8, o9] [vI (irem v5 2)] hp := (Rr_blk (Cd d) 278 [17, 41, 56, 96, 112, 122, 169] 171 41 _ _ hp).trans rfl
set_option maxRecDepth 100000 in
theorem c278_56 (d : Nat) (v0 v1 v2 v3 v4 v5 v6 v7 s0 : Int) (o8 o9 : Option AV) (hp : HP) : Rr (Cd d) 278 56 [some (vA v0), some (vI v1), some (vI v2), some (vI v3), some (vI v4), some (vI v5), some (vI v6), some (vI v7), o8, o9] [vI s0] hp =
  ((Cd d 276 [vA v0, vI v1, vI s0, vI (irem (idiv v7 6) 2), vI (irem (idiv v7 2) 3), vI (irem v7 2)] hp).bind toI).bind fun q1 =>
  if q1.1 < v6 then
    ((Cd d 222 [vA v0, vI v1] q1.2).bind toV).bind fun q2 =>
    (pF q2 12 25 v0 s0).bind fun h3 =>
    if irem (idiv v7 6) 2 = 1 then
      Rr (Cd d) 278 96 [some (vA v0), some (vI v1), some (vI v2), some (vI v3), some (vI v4), some (vI v5), some (vI v6), some (vI v7), some (vI s0), some (vI q1.1)] [vI 1, vA v0] h3
    else
      Rr (Cd d) 278 96 [some (vA v0), some (vI v1), some (vI v2), some (vI v3), some (vI v4), some (vI v5), some (vI v6), some (vI v7), some (vI s0), some (vI q1.1)] [vI 0, vA v0] h3
  else
    Rr (Cd d) 278 122 [some (vA v0), some (vI v1), some (vI v2), some (vI v3), some (vI v4), some (vI v5), some (vI v6), some (vI v7), some (vI s0), some (vI q1.1)] [] q1.2 := (Rr_blk (Cd d) 278 [17, 41, 56, 96, 112, 122, 169] 171 56 _ _ hp).trans rfl
set_option maxRecDepth 100000 in
theorem c278_96 (d : Nat) (v0 v1 v2 v3 v4 v5 v6 v7 v9 s0 s1 : Int) (o8 : Option AV) (hp : HP) : Rr (Cd d) 278 96 [some (vA v0), some (vI v1), some (vI v2), some (vI v3), some (vI v4), some (vI v5), some (vI v6), some (vI v7), o8, some (vI v9)] [vI s1, vA s0] hp =
  if s1 = 0 ∨ s1 = 1 then
    (pF hp 12 28 s0 s1).bind fun h1 =>
    (pF h1 12 26 v0 (irem (idiv v7 2) 3)).bind fun h2 =>
    if irem v7 2 = 1 then
      (pF h2 12 27 v0 ((-1))).bind fun h3 =>
      Rr (Cd d) 278 112 [some (vA v0), some (vI v1), some (vI v2), some (vI v3), some (vI v4), some (vI v5), some (vI v6), some (vI v7), o8, some (vI v9)] [] h3
    else
      Rr (Cd d) 278 112 [some (vA v0), some (vI v1), some (vI v2), some (vI v3), some (vI v4), some (vI v5), some (vI v6), some (vI v7), o8, some (vI v9)] [] h2
  else none := (Rr_blk (Cd d) 278 [17, 41, 56, 96, 112, 122, 169] 171 96 _ _ hp).trans rfl
set_option maxRecDepth 100000 in
theorem c278_112 (d : Nat) (v0 v1 v2 v3 v4 v5 v6 v7 v9 : Int) (o8 : Option AV) (hp : HP) : Rr (Cd d) 278 112 [some (vA v0), some (vI v1), some (vI v2), some (vI v3), some (vI v4), some (vI v5), some (vI v6), some (vI v7), o8, some (vI v9)] [] hp =
  ((Cd d 277 [vA v0, vI v2, vI v3] hp).bind toI).bind fun q1 =>
  if q1.1 = 0 then
    Rr (Cd d) 278 122 [some (vA v0), some (vI v1), some (vI v2), some (vI v3), some (vI v4), some (vI v5), some (vI v6), some (vI v7), o8, some (vI v9)] [] q1.2
  else
    Rr (Cd d) 278 122 [some (vA v0), some (vI v1), some (vI v2), some (vI v3), some (vI v4), some (vI v7), some (vI v9), some (vI v7), o8, some (vI v9)] [] q1.2 := (Rr_blk (Cd d) 278 [17, 41, 56, 96, 112, 122, 169] 171 112 _ _ hp).trans rfl
set_option maxRecDepth 100000 in
theorem c278_122 (d : Nat) (v0 v1 v2 v3 v4 v5 v6 v7 : Int) (o8 o9 : Option AV) (hp : HP) : Rr (Cd d) 278 122 [some (vA v0), some (vI v1), some (vI v2), some (vI v3), some (vI v4), some (vI v5), some (vI v6), some (vI v7), o8, o9] [] hp =
  Rr (Cd d) 278 41 [some (vA v0), some (vI v1), some (vI v2), some (vI v3), some (vI v4), some (vI v5), some (vI v6), some (vI (w32 (v7 + 1))), o8, o9] [] hp := (Rr_blk (Cd d) 278 [17, 41, 56, 96, 112, 122, 169] 171 122 _ _ hp).trans rfl
set_option maxRecDepth 100000 in
theorem c278_169 (d : Nat) (s0 : Int) (o0 o1 o2 o3 o4 o5 o6 o7 o8 o9 : Option AV) (hp : HP) : Rr (Cd d) 278 169 [o0, o1, o2, o3, o4, o5, o6, o7, o8, o9] [vI s0] hp =
  some ([vI s0], hp) := (Rr_blk (Cd d) 278 [17, 41, 56, 96, 112, 122, 169] 171 169 _ _ hp).trans rfl
set_option maxRecDepth 100000 in
theorem c279 (d : Nat) (v0 : Int) (hp : HP) {n : Nat} (hg : gS hp v0 = some (12, n)) : Cd (d + 1) 279 [vA v0] hp =
  (gF hp 12 0 v0).bind fun x1 =>
  (gF hp 12 1 v0).bind fun x2 =>
  ((Cd d 171 [vA x1, vA x2] hp).bind toV).bind fun q3 =>
  (gF q3 12 0 v0).bind fun x4 =>
  (gA q3 0 x4 1).bind fun x5 =>
  some ([vI x5], q3) := (Cd_inst rfl rfl rfl hg).trans ((Rr_blk (Cd d) 279 [] 11 0 _ [] hp).trans rfl)
set_option maxRecDepth 100000 in
theorem c280 (d : Nat) (v0 : Int) (hp : HP) {n : Nat} (hg : gS hp v0 = some (12, n)) : Cd (d + 1) 280 [vA v0] hp =
  (gF hp 12 1 v0).bind fun x1 =>
  (gF hp 12 0 v0).bind fun x2 =>
  ((Cd d 171 [vA x1, vA x2] hp).bind toV).bind fun q3 =>
  (gF q3 12 0 v0).bind fun x4 =>
  (gA q3 0 x4 1).bind fun x5 =>
  some ([vI x5], q3) := (Cd_inst rfl rfl rfl hg).trans ((Rr_blk (Cd d) 280 [] 11 0 _ [] hp).trans rfl)
set_option maxRecDepth 100000 in
theorem c281 (d : Nat) (v0 : Int) (hp : HP) {n : Nat} (hg : gS hp v0 = some (12, n)) : Cd (d + 1) 281 [vA v0] hp =
  Rr (Cd d) 281 4 [some (vA v0), some (vI 0), some (vI 0)] [] hp := (Cd_inst rfl rfl rfl hg).trans ((Rr_blk (Cd d) 281 [4, 16] 23 0 _ [] hp).trans rfl)
set_option maxRecDepth 100000 in
theorem c281_4 (d : Nat) (v0 v1 v2 : Int) (hp : HP) : Rr (Cd d) 281 4 [some (vA v0), some (vI v1), some (vI v2)] [] hp =
  if v2 < 20 then
    ((Cd d 248 [vA v0, vI v2, vI 7] hp).bind toI).bind fun q1 =>
    if q1.1 = 0 then
      Rr (Cd d) 281 16 [some (vA v0), some (vI v1), some (vI v2)] [vI 0, vI v1] q1.2
    else
      Rr (Cd d) 281 16 [some (vA v0), some (vI v1), some (vI v2)] [vI 1, vI v1] q1.2
  else
    some ([vI v1], hp) := (Rr_blk (Cd d) 281 [4, 16] 23 4 _ _ hp).trans rfl
set_option maxRecDepth 100000 in
theorem c281_16 (d : Nat) (v0 v2 s0 s1 : Int) (o1 : Option AV) (hp : HP) : Rr (Cd d) 281 16 [some (vA v0), o1, some (vI v2)] [vI s1, vI s0] hp =
  Rr (Cd d) 281 4 [some (vA v0), some (vI (w32 (s0 + s1))), some (vI (w32 (v2 + 1)))] [] hp := (Rr_blk (Cd d) 281 [4, 16] 23 16 _ _ hp).trans rfl
set_option maxRecDepth 100000 in
theorem c282 (d : Nat) (v0 v1 : Int) (hp : HP) {n : Nat} (hg : gS hp v0 = some (12, n)) : Cd (d + 1) 282 [vA v0, vI v1] hp =
  ((Cd d 172 [vI v1, vI 10, vI 13] hp).bind toI).bind fun q1 =>
  if q1.1 = 0 then
    ((Cd d 172 [vI v1, vI 20, vI 23] q1.2).bind toI).bind fun q2 =>
    if q2.1 = 0 then
      ((Cd d 172 [vI v1, vI 30, vI 57] q2.2).bind toI).bind fun q3 =>
      if q3.1 = 0 then
        if v1 = 0 then
          (gF q3.2 12 0 v0).bind fun x4 =>
          (gA q3.2 0 x4 0).bind fun x5 =>
          some ([vI x5], q3.2)
        else
        if v1 = 1 then
          (gF q3.2 12 0 v0).bind fun x6 =>
          (gA q3.2 0 x6 1).bind fun x7 =>
          some ([vI x7], q3.2)
        else
        if v1 = 2 then
          (gF q3.2 12 0 v0).bind fun x8 =>
          (gA q3.2 0 x8 2).bind fun x9 =>
          some ([vI x9], q3.2)
        else
        if v1 = 3 then
          (gF q3.2 12 0 v0).bind fun x10 =>
          (gA q3.2 0 x10 3).bind fun x11 =>
          some ([vI x11], q3.2)
        else
        if v1 = 4 then
          (gF q3.2 12 9 v0).bind fun x12 =>
          some ([vI x12], q3.2)
        else
        if v1 = 5 then
          ((Cd d 281 [vA v0] q3.2).bind toI).bind fun q13 =>
          some ([vI q13.1], q13.2)
        else
        some ([vI ((-1))], q3.2)
      else
        if irem v1 10 < 8 then
          ((Cd d 221 [vA v0, vI (irem v1 10)] q3.2).bind toI).bind fun q14 =>
          if q14.1 = 0 then
            Rr (Cd d) 282 75 [some (vA v0), some (vI v1)] [] q14.2
          else
            (gF q14.2 12 2 v0).bind fun x15 =>
            (gA q14.2 0 x15 (w32 (w32 (w32 (800 * (irem v1 10)) + (idiv v1 10)) - 2))).bind fun x16 =>
            Rr (Cd d) 282 76 [some (vA v0), some (vI v1)] [vI x16] q14.2
        else
          Rr (Cd d) 282 75 [some (vA v0), some (vI v1)] [] q3.2
    else
      ((Cd d 173 [vA v0, vI (w32 (v1 - 20))] q2.2).bind toI).bind fun q17 =>
      if q17.1 = 0 then
        Rr (Cd d) 282 43 [some (vA v0), some (vI v1)] [vI ((-1))] q17.2
      else
        (gF q17.2 12 0 v0).bind fun x18 =>
        (gA q17.2 0 x18 (w32 (w32 (24 + v1) - 20))).bind fun x19 =>
        Rr (Cd d) 282 43 [some (vA v0), some (vI v1)] [vI x19] q17.2
  else
    ((Cd d 173 [vA v0, vI (w32 (v1 - 10))] q1.2).bind toI).bind fun q20 =>
    if q20.1 = 0 then
      Rr (Cd d) 282 21 [some (vA v0), some (vI v1)] [vI ((-1))] q20.2
    else
      (gF q20.2 12 0 v0).bind fun x21 =>
      (gA q20.2 0 x21 (w32 (w32 (20 + v1) - 10))).bind fun x22 =>
      Rr (Cd d) 282 21 [some (vA v0), some (vI v1)] [vI x22] q20.2 := (Cd_inst rfl rfl rfl hg).trans ((Rr_blk (Cd d) 282 [21, 43, 75, 76] 108 0 _ [] hp).trans rfl)
set_option maxRecDepth 100000 in
theorem c282_21 (d : Nat) (s0 : Int) (o0 o1 : Option AV) (hp : HP) : Rr (Cd d) 282 21 [o0, o1] [vI s0] hp =
  some ([vI s0], hp) := (Rr_blk (Cd d) 282 [21, 43, 75, 76] 108 21 _ _ hp).trans rfl
set_option maxRecDepth 100000 in
theorem c282_43 (d : Nat) (s0 : Int) (o0 o1 : Option AV) (hp : HP) : Rr (Cd d) 282 43 [o0, o1] [vI s0] hp =
  some ([vI s0], hp) := (Rr_blk (Cd d) 282 [21, 43, 75, 76] 108 43 _ _ hp).trans rfl
set_option maxRecDepth 100000 in
theorem c282_75 (d : Nat) (o0 o1 : Option AV) (hp : HP) : Rr (Cd d) 282 75 [o0, o1] [] hp =
  Rr (Cd d) 282 76 [o0, o1] [vI ((-1))] hp := (Rr_blk (Cd d) 282 [21, 43, 75, 76] 108 75 _ _ hp).trans rfl
set_option maxRecDepth 100000 in
theorem c282_76 (d : Nat) (s0 : Int) (o0 o1 : Option AV) (hp : HP) : Rr (Cd d) 282 76 [o0, o1] [vI s0] hp =
  some ([vI s0], hp) := (Rr_blk (Cd d) 282 [21, 43, 75, 76] 108 76 _ _ hp).trans rfl
