/-! the methods as equations, written by a program -/
set_option maxRecDepth 100000 in
theorem c170 (d : Nat) (v0 : Int) (hp : HP) {n : Nat} (hg : gS hp v0 = some (12, n)) : Cd (d + 1) 170 [vA v0] hp =
  if 0 < v0 ∧ wid [] ≤ 8 then
    (pF (mk hp 100 340) 12 0 v0 ((hp.1.length : Int))).bind fun h1 =>
    (pF (mk h1 100 340) 12 1 v0 ((h1.1.length : Int))).bind fun h2 =>
    (pF (mk h2 100 6400) 12 2 v0 ((h2.1.length : Int))).bind fun h3 =>
    (pA (mk h3 100 18) 0 ((h3.1.length : Int)) 0 0).bind fun h4 =>
    (pA h4 0 ((h3.1.length : Int)) 1 1).bind fun h5 =>
    (pA h5 0 ((h3.1.length : Int)) 2 2).bind fun h6 =>
    (pA h6 0 ((h3.1.length : Int)) 3 1).bind fun h7 =>
    (pA h7 0 ((h3.1.length : Int)) 4 0).bind fun h8 =>
    (pA h8 0 ((h3.1.length : Int)) 5 2).bind fun h9 =>
    (pA h9 0 ((h3.1.length : Int)) 6 1).bind fun h10 =>
    (pA h10 0 ((h3.1.length : Int)) 7 2).bind fun h11 =>
    (pA h11 0 ((h3.1.length : Int)) 8 0).bind fun h12 =>
    (pA h12 0 ((h3.1.length : Int)) 9 2).bind fun h13 =>
    (pA h13 0 ((h3.1.length : Int)) 10 0).bind fun h14 =>
    (pA h14 0 ((h3.1.length : Int)) 11 1).bind fun h15 =>
    (pA h15 0 ((h3.1.length : Int)) 12 0).bind fun h16 =>
    (pA h16 0 ((h3.1.length : Int)) 13 2).bind fun h17 =>
    (pA h17 0 ((h3.1.length : Int)) 14 1).bind fun h18 =>
    (pA h18 0 ((h3.1.length : Int)) 15 2).bind fun h19 =>
    (pA h19 0 ((h3.1.length : Int)) 16 1).bind fun h20 =>
    (pA h20 0 ((h3.1.length : Int)) 17 0).bind fun h21 =>
    (pF h21 12 3 v0 ((h3.1.length : Int))).bind fun h22 =>
    (pA (mk h22 100 8) 0 ((h22.1.length : Int)) 0 1).bind fun h23 =>
    (pA h23 0 ((h22.1.length : Int)) 1 3).bind fun h24 =>
    (pA h24 0 ((h22.1.length : Int)) 2 9).bind fun h25 =>
    (pA h25 0 ((h22.1.length : Int)) 3 27).bind fun h26 =>
    (pA h26 0 ((h22.1.length : Int)) 4 81).bind fun h27 =>
    (pA h27 0 ((h22.1.length : Int)) 5 243).bind fun h28 =>
    (pA h28 0 ((h22.1.length : Int)) 6 729).bind fun h29 =>
    (pA h29 0 ((h22.1.length : Int)) 7 2187).bind fun h30 =>
    (pF h30 12 4 v0 ((h22.1.length : Int))).bind fun h31 =>
    (pF (mk h31 100 2187) 12 5 v0 ((h31.1.length : Int))).bind fun h32 =>
    (pF (mk h32 100 7) 12 7 v0 ((h32.1.length : Int))).bind fun h33 =>
    (pF (mk h33 100 300) 12 8 v0 ((h33.1.length : Int))).bind fun h34 =>
    (pF h34 12 10 v0 ((-1))).bind fun h35 =>
    (pF h35 12 11 v0 ((-1))).bind fun h36 =>
    (pF (mk h36 100 160) 12 21 v0 ((h36.1.length : Int))).bind fun h37 =>
    (pF (mk h37 100 4) 12 29 v0 ((h37.1.length : Int))).bind fun h38 =>
    (pF (mk h38 101 330) 12 30 v0 ((h38.1.length : Int))).bind fun h39 =>
    (pF (mk h39 102 330) 12 31 v0 ((h39.1.length : Int))).bind fun h40 =>
    (pF (mk h40 100 200) 12 37 v0 ((h40.1.length : Int))).bind fun h41 =>
    (pF (mk h41 100 200) 12 38 v0 ((h41.1.length : Int))).bind fun h42 =>
    (pF (mk h42 100 81) 12 39 v0 ((h42.1.length : Int))).bind fun h43 =>
    (pF (mk h43 100 81) 12 40 v0 ((h43.1.length : Int))).bind fun h44 =>
    Rr (Cd d) 170 178 [some (vA v0), some (vI 0)] [] h44
  else none := (Cd_inst rfl rfl rfl hg).trans ((Rr_blk (Cd d) 170 [178] 217 0 _ [] hp).trans rfl)
set_option maxRecDepth 100000 in
theorem c170_178 (d : Nat) (v0 v1 : Int) (hp : HP) : Rr (Cd d) 170 178 [some (vA v0), some (vI v1)] [] hp =
  if v1 < 140 then
    (gF hp 12 0 v0).bind fun x12 =>
    (pA hp 0 x12 (w32 (150 + v1)) ((-1))).bind fun h13 =>
    Rr (Cd d) 170 178 [some (vA v0), some (vI (w32 (v1 + 1)))] [] h13
  else
    (gF hp 12 0 v0).bind fun x1 =>
    (pA hp 0 x1 10 1).bind fun h2 =>
    (gF h2 12 0 v0).bind fun x3 =>
    (pA h2 0 x3 13 3).bind fun h4 =>
    (gF h4 12 0 v0).bind fun x5 =>
    (pA h4 0 x5 14 1).bind fun h6 =>
    (gF h6 12 0 v0).bind fun x7 =>
    (pA h6 0 x7 3 1).bind fun h8 =>
    (gF h8 12 0 v0).bind fun x9 =>
    (gF h8 12 1 v0).bind fun x10 =>
    ((Cd d 171 [vA x9, vA x10] h8).bind toV).bind fun q11 =>
    some ([], q11) := (Rr_blk (Cd d) 170 [178] 217 178 _ _ hp).trans rfl
set_option maxRecDepth 100000 in
theorem c171 (d : Nat) (v0 v1 : Int) (hp : HP) : Cd (d + 1) 171 [vA v0, vA v1] hp =
  Rr (Cd d) 171 2 [some (vA v0), some (vA v1), some (vI 0)] [] hp := (Rr_blk (Cd d) 171 [2] 15 0 _ [] hp).trans rfl
set_option maxRecDepth 100000 in
theorem c171_2 (d : Nat) (v0 v1 v2 : Int) (hp : HP) : Rr (Cd d) 171 2 [some (vA v0), some (vA v1), some (vI v2)] [] hp =
  if v2 < 340 then
    (gA hp 0 v0 v2).bind fun x1 =>
    (pA hp 0 v1 v2 x1).bind fun h2 =>
    Rr (Cd d) 171 2 [some (vA v0), some (vA v1), some (vI (w32 (v2 + 1)))] [] h2
  else
    some ([], hp) := (Rr_blk (Cd d) 171 [2] 15 2 _ _ hp).trans rfl
set_option maxRecDepth 100000 in
theorem c172 (d : Nat) (v0 v1 v2 : Int) (hp : HP) : Cd (d + 1) 172 [vI v0, vI v1, vI v2] hp =
  if v0 < v1 then
    Rr (Cd d) 172 8 [some (vI v0), some (vI v1), some (vI v2)] [] hp
  else
    if v2 < v0 then
      Rr (Cd d) 172 8 [some (vI v0), some (vI v1), some (vI v2)] [] hp
    else
      Rr (Cd d) 172 9 [some (vI v0), some (vI v1), some (vI v2)] [vI 1] hp := (Rr_blk (Cd d) 172 [8, 9] 11 0 _ [] hp).trans rfl
set_option maxRecDepth 100000 in
theorem c172_8 (d : Nat) (o0 o1 o2 : Option AV) (hp : HP) : Rr (Cd d) 172 8 [o0, o1, o2] [] hp =
  Rr (Cd d) 172 9 [o0, o1, o2] [vI 0] hp := (Rr_blk (Cd d) 172 [8, 9] 11 8 _ _ hp).trans rfl
set_option maxRecDepth 100000 in
theorem c172_9 (d : Nat) (s0 : Int) (o0 o1 o2 : Option AV) (hp : HP) : Rr (Cd d) 172 9 [o0, o1, o2] [vI s0] hp =
  if s0 = 0 ∨ s0 = 1 then some ([vI s0], hp) else none := (Rr_blk (Cd d) 172 [8, 9] 11 9 _ _ hp).trans rfl
set_option maxRecDepth 100000 in
theorem c173 (d : Nat) (v0 v1 : Int) (hp : HP) {n : Nat} (hg : gS hp v0 = some (12, n)) : Cd (d + 1) 173 [vA v0, vI v1] hp =
  (gF hp 12 0 v0).bind fun x1 =>
  (gA hp 0 x1 0).bind fun x2 =>
  ((Cd d 172 [vI v1, vI 0, vI (w32 (x2 - 1))] hp).bind toI).bind fun q3 =>
  if q3.1 = 0 ∨ q3.1 = 1 then some ([vI q3.1], q3.2) else none := (Cd_inst rfl rfl rfl hg).trans ((Rr_blk (Cd d) 173 [] 11 0 _ [] hp).trans rfl)
set_option maxRecDepth 100000 in
theorem c174 (d : Nat) (v0 v1 v2 : Int) (hp : HP) {n : Nat} (hg : gS hp v0 = some (12, n)) : Cd (d + 1) 174 [vA v0, vI v1, vI v2] hp =
  (gF hp 12 3 v0).bind fun x1 =>
  (gA hp 0 x1 (w32 (w32 (3 * v1) + v2))).bind fun x2 =>
  some ([vI x2], hp) := (Cd_inst rfl rfl rfl hg).trans ((Rr_blk (Cd d) 174 [] 10 0 _ [] hp).trans rfl)
set_option maxRecDepth 100000 in
theorem c175 (d : Nat) (v0 v1 : Int) (hp : HP) {n : Nat} (hg : gS hp v0 = some (12, n)) : Cd (d + 1) 175 [vA v0, vI v1] hp =
  ((Cd d 172 [vI v1, vI 2, vI 7] hp).bind toI).bind fun q1 =>
  if q1.1 = 0 then
    Rr (Cd d) 175 11 [some (vA v0), some (vI v1)] [] q1.2
  else
    (gF q1.2 12 0 v0).bind fun x2 =>
    (gA q1.2 0 x2 0).bind fun x3 =>
    if x3 = 4 then
      Rr (Cd d) 175 11 [some (vA v0), some (vI v1)] [] q1.2
    else
      (gF q1.2 12 0 v0).bind fun x4 =>
      (gF q1.2 12 0 v0).bind fun x5 =>
      (gA q1.2 0 x5 0).bind fun x6 =>
      (pA q1.2 0 x4 (w32 (20 + x6)) v1).bind fun h7 =>
      (gF h7 12 0 v0).bind fun x8 =>
      (gA h7 0 x8 0).bind fun x9 =>
      (pA h7 0 x8 0 (w32 (x9 + 1))).bind fun h10 =>
      (gF h10 12 0 v0).bind fun x11 =>
      (gA h10 0 x11 0).bind fun x12 =>
      some ([vI (w32 (x12 - 1))], h10) := (Cd_inst rfl rfl rfl hg).trans ((Rr_blk (Cd d) 175 [11] 39 0 _ [] hp).trans rfl)
set_option maxRecDepth 100000 in
theorem c175_11 (d : Nat) (o0 o1 : Option AV) (hp : HP) : Rr (Cd d) 175 11 [o0, o1] [] hp =
  some ([vI ((-1))], hp) := (Rr_blk (Cd d) 175 [11] 39 11 _ _ hp).trans rfl
set_option maxRecDepth 100000 in
theorem c176 (d : Nat) (v0 v1 v2 : Int) (hp : HP) {n : Nat} (hg : gS hp v0 = some (12, n)) : Cd (d + 1) 176 [vA v0, vI v1, vI v2] hp =
  (gF hp 12 0 v0).bind fun x1 =>
  (gA hp 0 x1 (w32 (w32 (30 + (w32 (30 * v1))) + (w32 (2 * v2))))).bind fun x2 =>
  some ([vI x2], hp) := (Cd_inst rfl rfl rfl hg).trans ((Rr_blk (Cd d) 176 [] 14 0 _ [] hp).trans rfl)
set_option maxRecDepth 100000 in
theorem c177 (d : Nat) (v0 v1 v2 : Int) (hp : HP) {n : Nat} (hg : gS hp v0 = some (12, n)) : Cd (d + 1) 177 [vA v0, vI v1, vI v2] hp =
  (gF hp 12 0 v0).bind fun x1 =>
  (gA hp 0 x1 (w32 (w32 (w32 (30 + (w32 (30 * v1))) + (w32 (2 * v2))) + 1))).bind fun x2 =>
  some ([vI x2], hp) := (Cd_inst rfl rfl rfl hg).trans ((Rr_blk (Cd d) 177 [] 16 0 _ [] hp).trans rfl)
set_option maxRecDepth 100000 in
theorem c178 (d : Nat) (v0 v1 v2 v3 : Int) (hp : HP) {n : Nat} (hg : gS hp v0 = some (12, n)) : Cd (d + 1) 178 [vA v0, vI v1, vI v2, vI v3] hp =
  Rr (Cd d) 178 2 [some (vA v0), some (vI v1), some (vI v2), some (vI v3), some (vI 0)] [] hp := (Cd_inst rfl rfl rfl hg).trans ((Rr_blk (Cd d) 178 [2, 22, 34, 36] 41 0 _ [] hp).trans rfl)
set_option maxRecDepth 100000 in
theorem c178_2 (d : Nat) (v0 v1 v2 v3 v4 : Int) (hp : HP) : Rr (Cd d) 178 2 [some (vA v0), some (vI v1), some (vI v2), some (vI v3), some (vI v4)] [] hp =
  (gF hp 12 0 v0).bind fun x1 =>
  (gA hp 0 x1 (w32 (24 + v1))).bind fun x2 =>
  if v4 < x2 then
    ((Cd d 176 [vA v0, vI v1, vI v4] hp).bind toI).bind fun q3 =>
    if q3.1 = v2 then
      ((Cd d 177 [vA v0, vI v1, vI v4] q3.2).bind toI).bind fun q4 =>
      if q4.1 = v3 then
        Rr (Cd d) 178 34 [some (vA v0), some (vI v1), some (vI v2), some (vI v3), some (vI v4)] [] q4.2
      else
        Rr (Cd d) 178 22 [some (vA v0), some (vI v1), some (vI v2), some (vI v3), some (vI v4)] [] q4.2
    else
      Rr (Cd d) 178 22 [some (vA v0), some (vI v1), some (vI v2), some (vI v3), some (vI v4)] [] q3.2
  else
    some ([vI 0], hp) := (Rr_blk (Cd d) 178 [2, 22, 34, 36] 41 2 _ _ hp).trans rfl
set_option maxRecDepth 100000 in
theorem c178_22 (d : Nat) (v0 v1 v2 v3 v4 : Int) (hp : HP) : Rr (Cd d) 178 22 [some (vA v0), some (vI v1), some (vI v2), some (vI v3), some (vI v4)] [] hp =
  ((Cd d 176 [vA v0, vI v1, vI v4] hp).bind toI).bind fun q1 =>
  if q1.1 = v3 then
    ((Cd d 177 [vA v0, vI v1, vI v4] q1.2).bind toI).bind fun q2 =>
    if q2.1 = v2 then
      Rr (Cd d) 178 34 [some (vA v0), some (vI v1), some (vI v2), some (vI v3), some (vI v4)] [] q2.2
    else
      Rr (Cd d) 178 36 [some (vA v0), some (vI v1), some (vI v2), some (vI v3), some (vI v4)] [] q2.2
  else
    Rr (Cd d) 178 36 [some (vA v0), some (vI v1), some (vI v2), some (vI v3), some (vI v4)] [] q1.2 := (Rr_blk (Cd d) 178 [2, 22, 34, 36] 41 22 _ _ hp).trans rfl
set_option maxRecDepth 100000 in
theorem c178_34 (d : Nat) (o0 o1 o2 o3 o4 : Option AV) (hp : HP) : Rr (Cd d) 178 34 [o0, o1, o2, o3, o4] [] hp =
  some ([vI 1], hp) := (Rr_blk (Cd d) 178 [2, 22, 34, 36] 41 34 _ _ hp).trans rfl
set_option maxRecDepth 100000 in
theorem c178_36 (d : Nat) (v0 v1 v2 v3 v4 : Int) (hp : HP) : Rr (Cd d) 178 36 [some (vA v0), some (vI v1), some (vI v2), some (vI v3), some (vI v4)] [] hp =
  Rr (Cd d) 178 2 [some (vA v0), some (vI v1), some (vI v2), some (vI v3), some (vI (w32 (v4 + 1)))] [] hp := (Rr_blk (Cd d) 178 [2, 22, 34, 36] 41 36 _ _ hp).trans rfl
set_option maxRecDepth 100000 in
theorem c179 (d : Nat) (v0 v1 v2 v3 : Int) (hp : HP) {n : Nat} (hg : gS hp v0 = some (12, n)) : Cd (d + 1) 179 [vA v0, vI v1, vI v2, vI v3] hp =
  ((Cd d 173 [vA v0, vI v1] hp).bind toI).bind fun q1 =>
  if q1.1 = 0 then
    Rr (Cd d) 179 45 [some (vA v0), some (vI v1), some (vI v2), some (vI v3), none] [] q1.2
  else
    (gF q1.2 12 0 v0).bind fun x2 =>
    (gA q1.2 0 x2 (w32 (20 + v1))).bind fun x3 =>
    ((Cd d 172 [vI v2, vI 0, vI (w32 (x3 - 1))] q1.2).bind toI).bind fun q4 =>
    if q4.1 = 0 then
      Rr (Cd d) 179 45 [some (vA v0), some (vI v1), some (vI v2), some (vI v3), none] [] q4.2
    else
      (gF q4.2 12 0 v0).bind fun x5 =>
      (gA q4.2 0 x5 (w32 (20 + v1))).bind fun x6 =>
      ((Cd d 172 [vI v3, vI 0, vI (w32 (x6 - 1))] q4.2).bind toI).bind fun q7 =>
      if q7.1 = 0 then
        Rr (Cd d) 179 45 [some (vA v0), some (vI v1), some (vI v2), some (vI v3), none] [] q7.2
      else
        if v2 = v3 then
          Rr (Cd d) 179 45 [some (vA v0), some (vI v1), some (vI v2), some (vI v3), none] [] q7.2
        else
          ((Cd d 178 [vA v0, vI v1, vI v2, vI v3] q7.2).bind toI).bind fun q8 =>
          if q8.1 = 0 then
            (gF q8.2 12 0 v0).bind fun x9 =>
            (gA q8.2 0 x9 (w32 (24 + v1))).bind fun x10 =>
            if x10 = 15 then
              Rr (Cd d) 179 45 [some (vA v0), some (vI v1), some (vI v2), some (vI v3), none] [] q8.2
            else
              (gF q8.2 12 0 v0).bind fun x11 =>
              (gA q8.2 0 x11 (w32 (24 + v1))).bind fun x12 =>
              (gF q8.2 12 0 v0).bind fun x13 =>
              (pA q8.2 0 x13 (w32 (w32 (30 + (w32 (30 * v1))) + (w32 (2 * x12)))) v2).bind fun h14 =>
              (gF h14 12 0 v0).bind fun x15 =>
              (pA h14 0 x15 (w32 (w32 (w32 (30 + (w32 (30 * v1))) + (w32 (2 * x12))) + 1)) v3).bind fun h16 =>
              (gF h16 12 0 v0).bind fun x17 =>
              (gA h16 0 x17 (w32 (24 + v1))).bind fun x18 =>
              (pA h16 0 x17 (w32 (24 + v1)) (w32 (x18 + 1))).bind fun h19 =>
              (gF h19 12 0 v0).bind fun x20 =>
              (gA h19 0 x20 (w32 (24 + v1))).bind fun x21 =>
              some ([vI (w32 (x21 - 1))], h19)
          else
            Rr (Cd d) 179 45 [some (vA v0), some (vI v1), some (vI v2), some (vI v3), none] [] q8.2 := (Cd_inst rfl rfl rfl hg).trans ((Rr_blk (Cd d) 179 [45] 94 0 _ [] hp).trans rfl)
set_option maxRecDepth 100000 in
theorem c179_45 (d : Nat) (o0 o1 o2 o3 o4 : Option AV) (hp : HP) : Rr (Cd d) 179 45 [o0, o1, o2, o3, o4] [] hp =
  some ([vI ((-1))], hp) := (Rr_blk (Cd d) 179 [45] 94 45 _ _ hp).trans rfl
set_option maxRecDepth 100000 in
theorem c180 (d : Nat) (v0 v1 : Int) (hp : HP) {n : Nat} (hg : gS hp v0 = some (12, n)) : Cd (d + 1) 180 [vA v0, vI v1] hp =
  (gF hp 12 4 v0).bind fun x1 =>
  (gF hp 12 0 v0).bind fun x2 =>
  (gA hp 0 x2 (w32 (20 + v1))).bind fun x3 =>
  (gA hp 0 x1 x3).bind fun x4 =>
  some ([vI x4], hp) := (Cd_inst rfl rfl rfl hg).trans ((Rr_blk (Cd d) 180 [] 11 0 _ [] hp).trans rfl)
set_option maxRecDepth 100000 in
theorem c181 (d : Nat) (v0 v1 v2 v3 : Int) (hp : HP) {n : Nat} (hg : gS hp v0 = some (12, n)) : Cd (d + 1) 181 [vA v0, vI v1, vI v2, vI v3] hp =
  (gF hp 12 4 v0).bind fun x1 =>
  (gF hp 12 0 v0).bind fun x2 =>
  (gA hp 0 x2 (w32 (20 + v1))).bind fun x3 =>
  (gA hp 0 x1 (w32 (w32 (x3 - 1) - v3))).bind fun x4 =>
  if x4 = 0 then none else
  some ([vI (irem (idiv v2 x4) 3)], hp) := (Cd_inst rfl rfl rfl hg).trans ((Rr_blk (Cd d) 181 [] 19 0 _ [] hp).trans rfl)
set_option maxRecDepth 100000 in
theorem c182 (d : Nat) (v0 v1 v2 : Int) (hp : HP) {n : Nat} (hg : gS hp v0 = some (12, n)) : Cd (d + 1) 182 [vA v0, vI v1, vI v2] hp =
  Rr (Cd d) 182 2 [some (vA v0), some (vI v1), some (vI v2), some (vI 0)] [] hp := (Cd_inst rfl rfl rfl hg).trans ((Rr_blk (Cd d) 182 [2] 34 0 _ [] hp).trans rfl)
set_option maxRecDepth 100000 in
theorem c182_2 (d : Nat) (v0 v1 v2 v3 : Int) (hp : HP) : Rr (Cd d) 182 2 [some (vA v0), some (vI v1), some (vI v2), some (vI v3)] [] hp =
  (gF hp 12 0 v0).bind fun x1 =>
  (gA hp 0 x1 (w32 (24 + v1))).bind fun x2 =>
  if v3 < x2 then
    ((Cd d 176 [vA v0, vI v1, vI v3] hp).bind toI).bind fun q3 =>
    ((Cd d 181 [vA v0, vI v1, vI v2, vI q3.1] q3.2).bind toI).bind fun q4 =>
    ((Cd d 177 [vA v0, vI v1, vI v3] q4.2).bind toI).bind fun q5 =>
    ((Cd d 181 [vA v0, vI v1, vI v2, vI q5.1] q5.2).bind toI).bind fun q6 =>
    if q4.1 = q6.1 then
      some ([vI 0], q6.2)
    else
      Rr (Cd d) 182 2 [some (vA v0), some (vI v1), some (vI v2), some (vI (w32 (v3 + 1)))] [] q6.2
  else
    some ([vI 1], hp) := (Rr_blk (Cd d) 182 [2] 34 2 _ _ hp).trans rfl
set_option maxRecDepth 100000 in
theorem c183 (d : Nat) (v0 v1 : Int) (hp : HP) {n : Nat} (hg : gS hp v0 = some (12, n)) : Cd (d + 1) 183 [vA v0, vI v1] hp =
  (pF hp 12 6 v0 0).bind fun h1 =>
  Rr (Cd d) 183 5 [some (vA v0), some (vI v1), some (vI 0)] [] h1 := (Cd_inst rfl rfl rfl hg).trans ((Rr_blk (Cd d) 183 [5, 28] 32 0 _ [] hp).trans rfl)
set_option maxRecDepth 100000 in
theorem c183_5 (d : Nat) (v0 v1 v2 : Int) (hp : HP) : Rr (Cd d) 183 5 [some (vA v0), some (vI v1), some (vI v2)] [] hp =
  ((Cd d 180 [vA v0, vI v1] hp).bind toI).bind fun q1 =>
  if v2 < q1.1 then
    ((Cd d 182 [vA v0, vI v1, vI v2] q1.2).bind toI).bind fun q2 =>
    if q2.1 = 0 then
      Rr (Cd d) 183 28 [some (vA v0), some (vI v1), some (vI v2)] [] q2.2
    else
      (gF q2.2 12 5 v0).bind fun x3 =>
      (gF q2.2 12 6 v0).bind fun x4 =>
      (pA q2.2 0 x3 x4 v2).bind fun h5 =>
      (gF h5 12 6 v0).bind fun x6 =>
      (pF h5 12 6 v0 (w32 (x6 + 1))).bind fun h7 =>
      Rr (Cd d) 183 28 [some (vA v0), some (vI v1), some (vI v2)] [] h7
  else
    some ([], q1.2) := (Rr_blk (Cd d) 183 [5, 28] 32 5 _ _ hp).trans rfl
set_option maxRecDepth 100000 in
theorem c183_28 (d : Nat) (v0 v1 v2 : Int) (hp : HP) : Rr (Cd d) 183 28 [some (vA v0), some (vI v1), some (vI v2)] [] hp =
  Rr (Cd d) 183 5 [some (vA v0), some (vI v1), some (vI (w32 (v2 + 1)))] [] hp := (Rr_blk (Cd d) 183 [5, 28] 32 28 _ _ hp).trans rfl
set_option maxRecDepth 100000 in
theorem c184 (d : Nat) (v0 v1 v2 : Int) (hp : HP) {n : Nat} (hg : gS hp v0 = some (12, n)) : Cd (d + 1) 184 [vA v0, vI v1, vI v2] hp =
  ((Cd d 173 [vA v0, vI v1] hp).bind toI).bind fun q1 =>
  if q1.1 = 0 then
    Rr (Cd d) 184 7 [some (vA v0), some (vI v1), some (vI v2)] [] q1.2
  else
    if v2 < (-1) then
      Rr (Cd d) 184 7 [some (vA v0), some (vI v1), some (vI v2)] [] q1.2
    else
      ((Cd d 183 [vA v0, vI v1] q1.2).bind toV).bind fun q2 =>
      if v2 = (-1) then
        (gF q2 12 6 v0).bind fun x6 =>
        Rr (Cd d) 184 28 [some (vA v0), some (vI v1), some (vI v2)] [vI x6] q2
      else
        (gF q2 12 6 v0).bind fun x3 =>
        if v2 < x3 then
          (gF q2 12 5 v0).bind fun x4 =>
          (gA q2 0 x4 v2).bind fun x5 =>
          Rr (Cd d) 184 28 [some (vA v0), some (vI v1), some (vI v2)] [vI x5] q2
        else
          Rr (Cd d) 184 28 [some (vA v0), some (vI v1), some (vI v2)] [vI ((-1))] q2 := (Cd_inst rfl rfl rfl hg).trans ((Rr_blk (Cd d) 184 [7, 28] 30 0 _ [] hp).trans rfl)
set_option maxRecDepth 100000 in
theorem c184_7 (d : Nat) (o0 o1 o2 : Option AV) (hp : HP) : Rr (Cd d) 184 7 [o0, o1, o2] [] hp =
  some ([vI ((-1))], hp) := (Rr_blk (Cd d) 184 [7, 28] 30 7 _ _ hp).trans rfl
set_option maxRecDepth 100000 in
theorem c184_28 (d : Nat) (s0 : Int) (o0 o1 o2 : Option AV) (hp : HP) : Rr (Cd d) 184 28 [o0, o1, o2] [vI s0] hp =
  some ([vI s0], hp) := (Rr_blk (Cd d) 184 [7, 28] 30 28 _ _ hp).trans rfl
set_option maxRecDepth 100000 in
theorem c185 (d : Nat) (v0 v1 v2 v3 : Int) (hp : HP) {n : Nat} (hg : gS hp v0 = some (12, n)) : Cd (d + 1) 185 [vA v0, vI v1, vI v2, vI v3] hp =
  Rr (Cd d) 185 4 [some (vA v0), some (vI v1), some (vI v2), some (vI v3), some (vI 0), some (vI 0)] [] hp := (Cd_inst rfl rfl rfl hg).trans ((Rr_blk (Cd d) 185 [4] 30 0 _ [] hp).trans rfl)
set_option maxRecDepth 100000 in
theorem c185_4 (d : Nat) (v0 v1 v2 v3 v4 v5 : Int) (hp : HP) : Rr (Cd d) 185 4 [some (vA v0), some (vI v1), some (vI v2), some (vI v3), some (vI v4), some (vI v5)] [] hp =
  (gF hp 12 0 v0).bind fun x1 =>
  (gA hp 0 x1 (w32 (20 + v1))).bind fun x2 =>
  if v5 < x2 then
    ((Cd d 181 [vA v0, vI v1, vI v2, vI v5] hp).bind toI).bind fun q3 =>
    ((Cd d 174 [vA v0, vI v3, vI q3.1] q3.2).bind toI).bind fun q4 =>
    Rr (Cd d) 185 4 [some (vA v0), some (vI v1), some (vI v2), some (vI v3), some (vI (w32 (w32 (3 * v4) + q4.1))), some (vI (w32 (v5 + 1)))] [] q4.2
  else
    some ([vI v4], hp) := (Rr_blk (Cd d) 185 [4] 30 4 _ _ hp).trans rfl
set_option maxRecDepth 100000 in
theorem c186 (d : Nat) (v0 v1 v2 v3 : Int) (hp : HP) {n : Nat} (hg : gS hp v0 = some (12, n)) : Cd (d + 1) 186 [vA v0, vI v1, vI v2, vI v3] hp =
  ((Cd d 173 [vA v0, vI v1] hp).bind toI).bind fun q1 =>
  if q1.1 = 0 then
    Rr (Cd d) 186 18 [some (vA v0), some (vI v1), some (vI v2), some (vI v3)] [] q1.2
  else
    ((Cd d 180 [vA v0, vI v1] q1.2).bind toI).bind fun q2 =>
    ((Cd d 172 [vI v2, vI 0, vI (w32 (q2.1 - 1))] q2.2).bind toI).bind fun q3 =>
    if q3.1 = 0 then
      Rr (Cd d) 186 18 [some (vA v0), some (vI v1), some (vI v2), some (vI v3)] [] q3.2
    else
      ((Cd d 172 [vI v3, vI 0, vI 5] q3.2).bind toI).bind fun q4 =>
      if q4.1 = 0 then
        Rr (Cd d) 186 18 [some (vA v0), some (vI v1), some (vI v2), some (vI v3)] [] q4.2
      else
        ((Cd d 185 [vA v0, vI v1, vI v2, vI v3] q4.2).bind toI).bind fun q5 =>
        some ([vI q5.1], q5.2) := (Cd_inst rfl rfl rfl hg).trans ((Rr_blk (Cd d) 186 [18] 27 0 _ [] hp).trans rfl)
set_option maxRecDepth 100000 in
theorem c186_18 (d : Nat) (o0 o1 o2 o3 : Option AV) (hp : HP) : Rr (Cd d) 186 18 [o0, o1, o2, o3] [] hp =
  some ([vI ((-1))], hp) := (Rr_blk (Cd d) 186 [18] 27 18 _ _ hp).trans rfl
set_option maxRecDepth 100000 in
theorem c187 (d : Nat) (v0 v1 : Int) (hp : HP) {n : Nat} (hg : gS hp v0 = some (12, n)) : Cd (d + 1) 187 [vA v0, vI v1] hp =
  Rr (Cd d) 187 4 [some (vA v0), some (vI v1), some (vI (w32 (v1 - 2))), none, none, none, none] [] hp := (Cd_inst rfl rfl rfl hg).trans ((Rr_blk (Cd d) 187 [4, 19, 27, 64] 91 0 _ [] hp).trans rfl)
set_option maxRecDepth 100000 in
theorem c187_4 (d : Nat) (v0 v1 v2 : Int) (o3 o4 o5 o6 : Option AV) (hp : HP) : Rr (Cd d) 187 4 [some (vA v0), some (vI v1), some (vI v2), o3, o4, o5, o6] [] hp =
  if v2 < 0 then
    Rr (Cd d) 187 19 [some (vA v0), some (vI v1), some (vI v2), o3, o4, o5, o6] [] hp
  else
    (gF hp 12 7 v0).bind fun x1 =>
    (gA hp 0 x1 v2).bind fun x2 =>
    (gF hp 12 7 v0).bind fun x3 =>
    (gA hp 0 x3 (w32 (v2 + 1))).bind fun x4 =>
    if x4 < x2 then
      Rr (Cd d) 187 4 [some (vA v0), some (vI v1), some (vI (w32 (v2 + (-1)))), o3, o4, o5, o6] [] hp
    else
      Rr (Cd d) 187 19 [some (vA v0), some (vI v1), some (vI v2), o3, o4, o5, o6] [] hp := (Rr_blk (Cd d) 187 [4, 19, 27, 64] 91 4 _ _ hp).trans rfl
set_option maxRecDepth 100000 in
theorem c187_19 (d : Nat) (v0 v1 v2 : Int) (o3 o4 o5 o6 : Option AV) (hp : HP) : Rr (Cd d) 187 19 [some (vA v0), some (vI v1), some (vI v2), o3, o4, o5, o6] [] hp =
  if v2 < 0 then
    some ([vI 0], hp)
  else
    Rr (Cd d) 187 27 [some (vA v0), some (vI v1), some (vI v2), some (vI (w32 (v1 - 1))), o4, o5, o6] [] hp := (Rr_blk (Cd d) 187 [4, 19, 27, 64] 91 19 _ _ hp).trans rfl
set_option maxRecDepth 100000 in
theorem c187_27 (d : Nat) (v0 v1 v2 v3 : Int) (o4 o5 o6 : Option AV) (hp : HP) : Rr (Cd d) 187 27 [some (vA v0), some (vI v1), some (vI v2), some (vI v3), o4, o5, o6] [] hp =
  (gF hp 12 7 v0).bind fun x1 =>
  (gA hp 0 x1 v3).bind fun x2 =>
  (gF hp 12 7 v0).bind fun x3 =>
  (gA hp 0 x3 v2).bind fun x4 =>
  if x2 < x4 then
    Rr (Cd d) 187 27 [some (vA v0), some (vI v1), some (vI v2), some (vI (w32 (v3 + (-1)))), o4, o5, o6] [] hp
  else
    (gF hp 12 7 v0).bind fun x5 =>
    (gA hp 0 x5 v2).bind fun x6 =>
    (gF hp 12 7 v0).bind fun x7 =>
    (gF hp 12 7 v0).bind fun x8 =>
    (gA hp 0 x8 v3).bind fun x9 =>
    (pA hp 0 x7 v2 x9).bind fun h10 =>
    (gF h10 12 7 v0).bind fun x11 =>
    (pA h10 0 x11 v3 x6).bind fun h12 =>
    Rr (Cd d) 187 64 [some (vA v0), some (vI v1), some (vI v2), some (vI v3), some (vI x6), some (vI (w32 (v2 + 1))), some (vI (w32 (v1 - 1)))] [] h12 := (Rr_blk (Cd d) 187 [4, 19, 27, 64] 91 27 _ _ hp).trans rfl
set_option maxRecDepth 100000 in
theorem c187_64 (d : Nat) (v0 v5 v6 : Int) (o1 o2 o3 o4 : Option AV) (hp : HP) : Rr (Cd d) 187 64 [some (vA v0), o1, o2, o3, o4, some (vI v5), some (vI v6)] [] hp =
  if v5 < v6 then
    (gF hp 12 7 v0).bind fun x1 =>
    (gA hp 0 x1 v5).bind fun x2 =>
    (gF hp 12 7 v0).bind fun x3 =>
    (gF hp 12 7 v0).bind fun x4 =>
    (gA hp 0 x4 v6).bind fun x5 =>
    (pA hp 0 x3 v5 x5).bind fun h6 =>
    (gF h6 12 7 v0).bind fun x7 =>
    (pA h6 0 x7 v6 x2).bind fun h8 =>
    Rr (Cd d) 187 64 [some (vA v0), o1, o2, o3, some (vI x2), some (vI (w32 (v5 + 1))), some (vI (w32 (v6 + (-1))))] [] h8
  else
    some ([vI 1], hp) := (Rr_blk (Cd d) 187 [4, 19, 27, 64] 91 64 _ _ hp).trans rfl
set_option maxRecDepth 100000 in
theorem c188 (d : Nat) (v0 v1 : Int) (hp : HP) {n : Nat} (hg : gS hp v0 = some (12, n)) : Cd (d + 1) 188 [vA v0, vI v1] hp =
  Rr (Cd d) 188 2 [some (vA v0), some (vI v1), some (vI 0)] [] hp := (Cd_inst rfl rfl rfl hg).trans ((Rr_blk (Cd d) 188 [2] 14 0 _ [] hp).trans rfl)
set_option maxRecDepth 100000 in
theorem c188_2 (d : Nat) (v0 v1 v2 : Int) (hp : HP) : Rr (Cd d) 188 2 [some (vA v0), some (vI v1), some (vI v2)] [] hp =
  if v2 < v1 then
    (gF hp 12 7 v0).bind fun x1 =>
    (pA hp 0 x1 v2 v2).bind fun h2 =>
    Rr (Cd d) 188 2 [some (vA v0), some (vI v1), some (vI (w32 (v2 + 1)))] [] h2
  else
    some ([], hp) := (Rr_blk (Cd d) 188 [2] 14 2 _ _ hp).trans rfl
set_option maxRecDepth 100000 in
theorem c189 (d : Nat) (v0 v1 : Int) (hp : HP) {n : Nat} (hg : gS hp v0 = some (12, n)) : Cd (d + 1) 189 [vA v0, vI v1] hp =
  ((Cd d 173 [vA v0, vI v1] hp).bind toI).bind fun q1 =>
  if q1.1 = 0 then
    some ([vI ((-1))], q1.2)
  else
    (gF q1.2 12 0 v0).bind fun x2 =>
    (gA q1.2 0 x2 (w32 (20 + v1))).bind fun x3 =>
    if x3 < 3 then
      some ([vI 0], q1.2)
    else
      ((Cd d 188 [vA v0, vI x3] q1.2).bind toV).bind fun q4 =>
      Rr (Cd d) 189 25 [some (vA v0), some (vI v1), some (vI x3), some (vI 0), some (vI 1), none, none] [] q4 := (Cd_inst rfl rfl rfl hg).trans ((Rr_blk (Cd d) 189 [25, 46, 49, 72, 73, 82, 89] 92 0 _ [] hp).trans rfl)
set_option maxRecDepth 100000 in
theorem c189_25 (d : Nat) (v0 v1 v2 v3 v4 : Int) (o5 o6 : Option AV) (hp : HP) : Rr (Cd d) 189 25 [some (vA v0), some (vI v1), some (vI v2), some (vI v3), some (vI v4), o5, o6] [] hp =
  if v4 = 0 then
    Rr (Cd d) 189 89 [some (vA v0), some (vI v1), some (vI v2), some (vI v3), some (vI v4), o5, o6] [] hp
  else
    (gF hp 12 7 v0).bind fun x1 =>
    (gA hp 0 x1 0).bind fun x2 =>
    if x2 = 0 then
      (gF hp 12 7 v0).bind fun x3 =>
      (gA hp 0 x3 1).bind fun x4 =>
      (gF hp 12 7 v0).bind fun x5 =>
      (gA hp 0 x5 (w32 (v2 - 1))).bind fun x6 =>
      if x4 < x6 then
        Rr (Cd d) 189 46 [some (vA v0), some (vI v1), some (vI v2), some (vI v3), some (vI v4), o5, o6] [vI 1] hp
      else
        Rr (Cd d) 189 46 [some (vA v0), some (vI v1), some (vI v2), some (vI v3), some (vI v4), o5, o6] [vI 0] hp
    else
      Rr (Cd d) 189 89 [some (vA v0), some (vI v1), some (vI v2), some (vI v3), some (vI v4), o5, o6] [] hp := (Rr_blk (Cd d) 189 [25, 46, 49, 72, 73, 82, 89] 92 25 _ _ hp).trans rfl
set_option maxRecDepth 100000 in
theorem c189_46 (d : Nat) (v0 v1 v2 v3 s0 : Int) (o4 o5 o6 : Option AV) (hp : HP) : Rr (Cd d) 189 46 [some (vA v0), some (vI v1), some (vI v2), some (vI v3), o4, o5, o6] [vI s0] hp =
  Rr (Cd d) 189 49 [some (vA v0), some (vI v1), some (vI v2), some (vI v3), o4, some (vI s0), some (vI 0)] [] hp := (Rr_blk (Cd d) 189 [25, 46, 49, 72, 73, 82, 89] 92 46 _ _ hp).trans rfl
set_option maxRecDepth 100000 in
theorem c189_49 (d : Nat) (v0 v1 v2 v3 v5 v6 : Int) (o4 : Option AV) (hp : HP) : Rr (Cd d) 189 49 [some (vA v0), some (vI v1), some (vI v2), some (vI v3), o4, some (vI v5), some (vI v6)] [] hp =
  if v6 < v2 then
    if v5 = 0 then
      Rr (Cd d) 189 72 [some (vA v0), some (vI v1), some (vI v2), some (vI v3), o4, some (vI v5), some (vI v6)] [] hp
    else
      (gF hp 12 7 v0).bind fun x1 =>
      (gA hp 0 x1 v6).bind fun x2 =>
      (gF hp 12 7 v0).bind fun x3 =>
      if v2 = 0 then none else
      (gA hp 0 x3 (irem (w32 (v6 + 1)) v2)).bind fun x4 =>
      ((Cd d 178 [vA v0, vI v1, vI x2, vI x4] hp).bind toI).bind fun q5 =>
      if q5.1 = 0 then
        Rr (Cd d) 189 72 [some (vA v0), some (vI v1), some (vI v2), some (vI v3), o4, some (vI v5), some (vI v6)] [] q5.2
      else
        Rr (Cd d) 189 73 [some (vA v0), some (vI v1), some (vI v2), some (vI v3), o4, some (vI v5), some (vI v6)] [vI 1] q5.2
  else
    if v5 = 0 then
      Rr (Cd d) 189 82 [some (vA v0), some (vI v1), some (vI v2), some (vI v3), o4, some (vI v5), some (vI v6)] [vI 0, vI v3] hp
    else
      Rr (Cd d) 189 82 [some (vA v0), some (vI v1), some (vI v2), some (vI v3), o4, some (vI v5), some (vI v6)] [vI 1, vI v3] hp := (Rr_blk (Cd d) 189 [25, 46, 49, 72, 73, 82, 89] 92 49 _ _ hp).trans rfl
set_option maxRecDepth 100000 in
theorem c189_72 (d : Nat) (v0 v1 v2 v3 v6 : Int) (o4 o5 : Option AV) (hp : HP) : Rr (Cd d) 189 72 [some (vA v0), some (vI v1), some (vI v2), some (vI v3), o4, o5, some (vI v6)] [] hp =
  Rr (Cd d) 189 73 [some (vA v0), some (vI v1), some (vI v2), some (vI v3), o4, o5, some (vI v6)] [vI 0] hp := (Rr_blk (Cd d) 189 [25, 46, 49, 72, 73, 82, 89] 92 72 _ _ hp).trans rfl
set_option maxRecDepth 100000 in
theorem c189_73 (d : Nat) (v0 v1 v2 v3 v6 s0 : Int) (o4 o5 : Option AV) (hp : HP) : Rr (Cd d) 189 73 [some (vA v0), some (vI v1), some (vI v2), some (vI v3), o4, o5, some (vI v6)] [vI s0] hp =
  Rr (Cd d) 189 49 [some (vA v0), some (vI v1), some (vI v2), some (vI v3), o4, some (vI s0), some (vI (w32 (v6 + 1)))] [] hp := (Rr_blk (Cd d) 189 [25, 46, 49, 72, 73, 82, 89] 92 73 _ _ hp).trans rfl
set_option maxRecDepth 100000 in
theorem c189_82 (d : Nat) (v0 v1 v2 s0 s1 : Int) (o3 o4 o5 o6 : Option AV) (hp : HP) : Rr (Cd d) 189 82 [some (vA v0), some (vI v1), some (vI v2), o3, o4, o5, o6] [vI s1, vI s0] hp =
  ((Cd d 187 [vA v0, vI v2] hp).bind toI).bind fun q1 =>
  Rr (Cd d) 189 25 [some (vA v0), some (vI v1), some (vI v2), some (vI (w32 (s0 + s1))), some (vI q1.1), o5, o6] [] q1.2 := (Rr_blk (Cd d) 189 [25, 46, 49, 72, 73, 82, 89] 92 82 _ _ hp).trans rfl
set_option maxRecDepth 100000 in
theorem c189_89 (d : Nat) (v3 : Int) (o0 o1 o2 o4 o5 o6 : Option AV) (hp : HP) : Rr (Cd d) 189 89 [o0, o1, o2, some (vI v3), o4, o5, o6] [] hp =
  some ([vI v3], hp) := (Rr_blk (Cd d) 189 [25, 46, 49, 72, 73, 82, 89] 92 89 _ _ hp).trans rfl
set_option maxRecDepth 100000 in
theorem c190 (d : Nat) (v0 v1 v2 : Int) (hp : HP) {n : Nat} (hg : gS hp v0 = some (12, n)) : Cd (d + 1) 190 [vA v0, vI v1, vI v2] hp =
  (gF hp 12 0 v0).bind fun x1 =>
  (gA hp 0 x1 (w32 (20 + v1))).bind fun x2 =>
  (gF hp 12 0 v0).bind fun x3 =>
  (gA hp 0 x3 (w32 (20 + v2))).bind fun x4 =>
  if x2 = x4 then
    (gF hp 12 0 v0).bind fun x5 =>
    (gA hp 0 x5 (w32 (24 + v1))).bind fun x6 =>
    (gF hp 12 0 v0).bind fun x7 =>
    (gA hp 0 x7 (w32 (24 + v2))).bind fun x8 =>
    if x6 = x8 then
      ((Cd d 188 [vA v0, vI x2] hp).bind toV).bind fun q9 =>
      Rr (Cd d) 190 37 [some (vA v0), some (vI v1), some (vI v2), some (vI x2), some (vI 0), some (vI 1), none, none] [] q9
    else
      Rr (Cd d) 190 28 [some (vA v0), some (vI v1), some (vI v2), some (vI x2), none, none, none, none] [] hp
  else
    Rr (Cd d) 190 28 [some (vA v0), some (vI v1), some (vI v2), some (vI x2), none, none, none, none] [] hp := (Cd_inst rfl rfl rfl hg).trans ((Rr_blk (Cd d) 190 [28, 37, 43, 73, 74, 83] 93 0 _ [] hp).trans rfl)
set_option maxRecDepth 100000 in
theorem c190_28 (d : Nat) (o0 o1 o2 o3 o4 o5 o6 o7 : Option AV) (hp : HP) : Rr (Cd d) 190 28 [o0, o1, o2, o3, o4, o5, o6, o7] [] hp =
  some ([vI 0], hp) := (Rr_blk (Cd d) 190 [28, 37, 43, 73, 74, 83] 93 28 _ _ hp).trans rfl
set_option maxRecDepth 100000 in
theorem c190_37 (d : Nat) (v0 v1 v2 v3 v4 v5 : Int) (o6 o7 : Option AV) (hp : HP) : Rr (Cd d) 190 37 [some (vA v0), some (vI v1), some (vI v2), some (vI v3), some (vI v4), some (vI v5), o6, o7] [] hp =
  if v5 = 0 then
    some ([vI v4], hp)
  else
    Rr (Cd d) 190 43 [some (vA v0), some (vI v1), some (vI v2), some (vI v3), some (vI v4), some (vI v5), some (vI 1), some (vI 0)] [] hp := (Rr_blk (Cd d) 190 [28, 37, 43, 73, 74, 83] 93 37 _ _ hp).trans rfl
set_option maxRecDepth 100000 in
theorem c190_43 (d : Nat) (v0 v1 v2 v3 v4 v6 v7 : Int) (o5 : Option AV) (hp : HP) : Rr (Cd d) 190 43 [some (vA v0), some (vI v1), some (vI v2), some (vI v3), some (vI v4), o5, some (vI v6), some (vI v7)] [] hp =
  (gF hp 12 0 v0).bind fun x1 =>
  (gA hp 0 x1 (w32 (24 + v1))).bind fun x2 =>
  if v7 < x2 then
    if v6 = 0 then
      Rr (Cd d) 190 73 [some (vA v0), some (vI v1), some (vI v2), some (vI v3), some (vI v4), o5, some (vI v6), some (vI v7)] [] hp
    else
      (gF hp 12 7 v0).bind fun x3 =>
      ((Cd d 176 [vA v0, vI v1, vI v7] hp).bind toI).bind fun q4 =>
      (gA q4.2 0 x3 q4.1).bind fun x5 =>
      (gF q4.2 12 7 v0).bind fun x6 =>
      ((Cd d 177 [vA v0, vI v1, vI v7] q4.2).bind toI).bind fun q7 =>
      (gA q7.2 0 x6 q7.1).bind fun x8 =>
      ((Cd d 178 [vA v0, vI v2, vI x5, vI x8] q7.2).bind toI).bind fun q9 =>
      if q9.1 = 0 then
        Rr (Cd d) 190 73 [some (vA v0), some (vI v1), some (vI v2), some (vI v3), some (vI v4), o5, some (vI v6), some (vI v7)] [] q9.2
      else
        Rr (Cd d) 190 74 [some (vA v0), some (vI v1), some (vI v2), some (vI v3), some (vI v4), o5, some (vI v6), some (vI v7)] [vI 1] q9.2
  else
    if v6 = 0 then
      Rr (Cd d) 190 83 [some (vA v0), some (vI v1), some (vI v2), some (vI v3), some (vI v4), o5, some (vI v6), some (vI v7)] [vI 0, vI v4] hp
    else
      Rr (Cd d) 190 83 [some (vA v0), some (vI v1), some (vI v2), some (vI v3), some (vI v4), o5, some (vI v6), some (vI v7)] [vI 1, vI v4] hp := (Rr_blk (Cd d) 190 [28, 37, 43, 73, 74, 83] 93 43 _ _ hp).trans rfl
set_option maxRecDepth 100000 in
theorem c190_73 (d : Nat) (v0 v1 v2 v3 v4 v7 : Int) (o5 o6 : Option AV) (hp : HP) : Rr (Cd d) 190 73 [some (vA v0), some (vI v1), some (vI v2), some (vI v3), some (vI v4), o5, o6, some (vI v7)] [] hp =
  Rr (Cd d) 190 74 [some (vA v0), some (vI v1), some (vI v2), some (vI v3), some (vI v4), o5, o6, some (vI v7)] [vI 0] hp := (Rr_blk (Cd d) 190 [28, 37, 43, 73, 74, 83] 93 73 _ _ hp).trans rfl
set_option maxRecDepth 100000 in
theorem c190_74 (d : Nat) (v0 v1 v2 v3 v4 v7 s0 : Int) (o5 o6 : Option AV) (hp : HP) : Rr (Cd d) 190 74 [some (vA v0), some (vI v1), some (vI v2), some (vI v3), some (vI v4), o5, o6, some (vI v7)] [vI s0] hp =
  Rr (Cd d) 190 43 [some (vA v0), some (vI v1), some (vI v2), some (vI v3), some (vI v4), o5, some (vI s0), some (vI (w32 (v7 + 1)))] [] hp := (Rr_blk (Cd d) 190 [28, 37, 43, 73, 74, 83] 93 74 _ _ hp).trans rfl
set_option maxRecDepth 100000 in
theorem c190_83 (d : Nat) (v0 v1 v2 v3 s0 s1 : Int) (o4 o5 o6 o7 : Option AV) (hp : HP) : Rr (Cd d) 190 83 [some (vA v0), some (vI v1), some (vI v2), some (vI v3), o4, o5, o6, o7] [vI s1, vI s0] hp =
  ((Cd d 187 [vA v0, vI v3] hp).bind toI).bind fun q1 =>
  Rr (Cd d) 190 37 [some (vA v0), some (vI v1), some (vI v2), some (vI v3), some (vI (w32 (s0 + s1))), some (vI q1.1), o6, o7] [] q1.2 := (Rr_blk (Cd d) 190 [28, 37, 43, 73, 74, 83] 93 83 _ _ hp).trans rfl
set_option maxRecDepth 100000 in
theorem c191 (d : Nat) (v0 v1 v2 v3 : Int) (hp : HP) {n : Nat} (hg : gS hp v0 = some (12, n)) : Cd (d + 1) 191 [vA v0, vI v1, vI v2, vI v3] hp =
  ((Cd d 173 [vA v0, vI v1] hp).bind toI).bind fun q1 =>
  if q1.1 = 0 then
    Rr (Cd d) 191 13 [some (vA v0), some (vI v1), some (vI v2), some (vI v3), none, none] [] q1.2
  else
    ((Cd d 173 [vA v0, vI v2] q1.2).bind toI).bind fun q2 =>
    if q2.1 = 0 then
      Rr (Cd d) 191 13 [some (vA v0), some (vI v1), some (vI v2), some (vI v3), none, none] [] q2.2
    else
      ((Cd d 172 [vI v3, vI 0, vI 1] q2.2).bind toI).bind fun q3 =>
      if q3.1 = 0 then
        Rr (Cd d) 191 13 [some (vA v0), some (vI v1), some (vI v2), some (vI v3), none, none] [] q3.2
      else
        if v3 = 0 then
          ((Cd d 190 [vA v0, vI v1, vI v2] q3.2).bind toI).bind fun q4 =>
          some ([vI q4.1], q4.2)
        else
          Rr (Cd d) 191 26 [some (vA v0), some (vI v1), some (vI v2), some (vI v3), some (vI 1), some (vI 2)] [] q3.2 := (Cd_inst rfl rfl rfl hg).trans ((Rr_blk (Cd d) 191 [13, 26] 48 0 _ [] hp).trans rfl)
set_option maxRecDepth 100000 in
theorem c191_13 (d : Nat) (o0 o1 o2 o3 o4 o5 : Option AV) (hp : HP) : Rr (Cd d) 191 13 [o0, o1, o2, o3, o4, o5] [] hp =
  some ([vI ((-1))], hp) := (Rr_blk (Cd d) 191 [13, 26] 48 13 _ _ hp).trans rfl
set_option maxRecDepth 100000 in
theorem c191_26 (d : Nat) (v0 v1 v4 v5 : Int) (o2 o3 : Option AV) (hp : HP) : Rr (Cd d) 191 26 [some (vA v0), some (vI v1), o2, o3, some (vI v4), some (vI v5)] [] hp =
  (gF hp 12 0 v0).bind fun x1 =>
  (gA hp 0 x1 (w32 (20 + v1))).bind fun x2 =>
  if x2 < v5 then
    ((Cd d 190 [vA v0, vI v1, vI v1] hp).bind toI).bind fun q3 =>
    if q3.1 = 0 then none else
    some ([vI (idiv v4 q3.1)], q3.2)
  else
    Rr (Cd d) 191 26 [some (vA v0), some (vI v1), o2, o3, some (vI (w32 (v4 * v5))), some (vI (w32 (v5 + 1)))] [] hp := (Rr_blk (Cd d) 191 [13, 26] 48 26 _ _ hp).trans rfl
set_option maxRecDepth 100000 in
theorem c192 (d : Nat) (v0 v1 : Int) (hp : HP) {n : Nat} (hg : gS hp v0 = some (12, n)) : Cd (d + 1) 192 [vA v0, vI v1] hp =
  Rr (Cd d) 192 2 [some (vA v0), some (vI v1), some (vI 24)] [] hp := (Cd_inst rfl rfl rfl hg).trans ((Rr_blk (Cd d) 192 [2] 24 0 _ [] hp).trans rfl)
set_option maxRecDepth 100000 in
theorem c192_2 (d : Nat) (v0 v1 v2 : Int) (hp : HP) : Rr (Cd d) 192 2 [some (vA v0), some (vI v1), some (vI v2)] [] hp =
  if v2 < 0 then
    some ([], hp)
  else
    (gF hp 12 8 v0).bind fun x1 =>
    (gF hp 12 9 v0).bind fun x2 =>
    (pA hp 0 x1 x2 (iand (ishr v1 v2) 255)).bind fun h3 =>
    (gF h3 12 9 v0).bind fun x4 =>
    (pF h3 12 9 v0 (w32 (x4 + 1))).bind fun h5 =>
    Rr (Cd d) 192 2 [some (vA v0), some (vI v1), some (vI (w32 (v2 + (-8))))] [] h5 := (Rr_blk (Cd d) 192 [2] 24 2 _ _ hp).trans rfl
set_option maxRecDepth 100000 in
theorem c193 (d : Nat) (v0 v1 v2 v3 v4 v5 : Int) (hp : HP) {n : Nat} (hg : gS hp v0 = some (12, n)) : Cd (d + 1) 193 [vA v0, vI v1, vI v2, vI v3, vI v4, vI v5] hp =
  (gF hp 12 9 v0).bind fun x1 =>
  if 300 < w32 (x1 + 20) then
    some ([vI ((-1))], hp)
  else
    ((Cd d 192 [vA v0, vI v1] hp).bind toV).bind fun q2 =>
    ((Cd d 192 [vA v0, vI v2] q2).bind toV).bind fun q3 =>
    ((Cd d 192 [vA v0, vI v3] q3).bind toV).bind fun q4 =>
    ((Cd d 192 [vA v0, vI v4] q4).bind toV).bind fun q5 =>
    ((Cd d 192 [vA v0, vI v5] q5).bind toV).bind fun q6 =>
    (gF q6 12 9 v0).bind fun x7 =>
    some ([vI x7], q6) := (Cd_inst rfl rfl rfl hg).trans ((Rr_blk (Cd d) 193 [] 27 0 _ [] hp).trans rfl)
set_option maxRecDepth 100000 in
theorem c194 (d : Nat) (v0 v1 : Int) (hp : HP) {n : Nat} (hg : gS hp v0 = some (12, n)) : Cd (d + 1) 194 [vA v0, vI v1] hp =
  (gF hp 12 9 v0).bind fun x1 =>
  ((Cd d 172 [vI v1, vI 0, vI x1] hp).bind toI).bind fun q2 =>
  if q2.1 = 0 then
    some ([vI ((-1))], q2.2)
  else
    (pF q2.2 12 9 v0 v1).bind fun h3 =>
    some ([vI v1], h3) := (Cd_inst rfl rfl rfl hg).trans ((Rr_blk (Cd d) 194 [] 14 0 _ [] hp).trans rfl)
set_option maxRecDepth 100000 in
theorem c195 (d : Nat) (v0 v1 : Int) (hp : HP) {n : Nat} (hg : gS hp v0 = some (12, n)) : Cd (d + 1) 195 [vA v0, vI v1] hp =
  (gF hp 12 9 v0).bind fun x1 =>
  if v1 < x1 then
    (gF hp 12 8 v0).bind fun x2 =>
    (gA hp 0 x2 v1).bind fun x3 =>
    Rr (Cd d) 195 10 [some (vA v0), some (vI v1)] [vI x3] hp
  else
    Rr (Cd d) 195 10 [some (vA v0), some (vI v1)] [vI ((-1))] hp := (Cd_inst rfl rfl rfl hg).trans ((Rr_blk (Cd d) 195 [10] 12 0 _ [] hp).trans rfl)
set_option maxRecDepth 100000 in
theorem c195_10 (d : Nat) (s0 : Int) (o0 o1 : Option AV) (hp : HP) : Rr (Cd d) 195 10 [o0, o1] [vI s0] hp =
  some ([vI s0], hp) := (Rr_blk (Cd d) 195 [10] 12 10 _ _ hp).trans rfl
set_option maxRecDepth 100000 in
theorem c196 (d : Nat) (v0 : Int) (hp : HP) : Cd (d + 1) 196 [vI v0] hp =
  ((Cd d 172 [vI v0, vI 97, vI 122] hp).bind toI).bind fun q1 =>
  if q1.1 = 0 then
    ((Cd d 172 [vI v0, vI 65, vI 90] q1.2).bind toI).bind fun q2 =>
    if q2.1 = 0 then
      Rr (Cd d) 196 13 [some (vI v0)] [vI 0] q2.2
    else
      Rr (Cd d) 196 10 [some (vI v0)] [] q2.2
  else
    Rr (Cd d) 196 10 [some (vI v0)] [] q1.2 := (Rr_blk (Cd d) 196 [10, 13] 15 0 _ [] hp).trans rfl
set_option maxRecDepth 100000 in
theorem c196_10 (d : Nat) (o0 : Option AV) (hp : HP) : Rr (Cd d) 196 10 [o0] [] hp =
  Rr (Cd d) 196 13 [o0] [vI 1] hp := (Rr_blk (Cd d) 196 [10, 13] 15 10 _ _ hp).trans rfl
set_option maxRecDepth 100000 in
theorem c196_13 (d : Nat) (s0 : Int) (o0 : Option AV) (hp : HP) : Rr (Cd d) 196 13 [o0] [vI s0] hp =
  if s0 = 0 ∨ s0 = 1 then some ([vI s0], hp) else none := (Rr_blk (Cd d) 196 [10, 13] 15 13 _ _ hp).trans rfl
set_option maxRecDepth 100000 in
theorem c197 (d : Nat) (v0 : Int) (hp : HP) : Cd (d + 1) 197 [vI v0] hp =
  ((Cd d 172 [vI v0, vI 48, vI 57] hp).bind toI).bind fun q1 =>
  if q1.1 = 0 ∨ q1.1 = 1 then some ([vI q1.1], q1.2) else none := (Rr_blk (Cd d) 197 [] 6 0 _ [] hp).trans rfl
set_option maxRecDepth 100000 in
theorem c198 (d : Nat) (v0 : Int) (hp : HP) {n : Nat} (hg : gS hp v0 = some (12, n)) : Cd (d + 1) 198 [vA v0] hp =
  (gF hp 12 12 v0).bind fun x1 =>
  ((Cd d 195 [vA v0, vI x1] hp).bind toI).bind fun q2 =>
  if q2.1 = 32 then
    Rr (Cd d) 198 12 [some (vA v0), none, none] [] q2.2
  else
    (gF q2.2 12 12 v0).bind fun x3 =>
    ((Cd d 195 [vA v0, vI x3] q2.2).bind toI).bind fun q4 =>
    if q4.1 = 10 then
      Rr (Cd d) 198 12 [some (vA v0), none, none] [] q4.2
    else
      (gF q4.2 12 12 v0).bind fun x5 =>
      (pF q4.2 12 13 v0 x5).bind fun h6 =>
      (gF h6 12 12 v0).bind fun x7 =>
      ((Cd d 195 [vA v0, vI x7] h6).bind toI).bind fun q8 =>
      if q8.1 < 0 then
        (pF q8.2 12 14 v0 0).bind fun h17 =>
        Rr (Cd d) 198 198 [some (vA v0), some (vI q8.1), none] [] h17
      else
        ((Cd d 197 [vI q8.1] q8.2).bind toI).bind fun q9 =>
        if q9.1 = 0 then
          ((Cd d 196 [vI q8.1] q9.2).bind toI).bind fun q10 =>
          if q10.1 = 0 then
            (gF q10.2 12 12 v0).bind fun x11 =>
            (pF q10.2 12 12 v0 (w32 (x11 + 1))).bind fun h12 =>
            if q8.1 = 60 then
              Rr (Cd d) 198 161 [some (vA v0), some (vI q8.1), none] [] h12
            else
              if q8.1 = 62 then
                Rr (Cd d) 198 161 [some (vA v0), some (vI q8.1), none] [] h12
              else
                if q8.1 = 61 then
                  Rr (Cd d) 198 161 [some (vA v0), some (vI q8.1), none] [] h12
                else
                  if q8.1 = 35 then
                    Rr (Cd d) 198 161 [some (vA v0), some (vI q8.1), none] [] h12
                  else
                    if q8.1 = 43 then
                      Rr (Cd d) 198 161 [some (vA v0), some (vI q8.1), none] [] h12
                    else
                      if q8.1 = 45 then
                        Rr (Cd d) 198 161 [some (vA v0), some (vI q8.1), none] [] h12
                      else
                        if q8.1 = 42 then
                          Rr (Cd d) 198 161 [some (vA v0), some (vI q8.1), none] [] h12
                        else
                          if q8.1 = 40 then
                            Rr (Cd d) 198 161 [some (vA v0), some (vI q8.1), none] [] h12
                          else
                            if q8.1 = 41 then
                              Rr (Cd d) 198 161 [some (vA v0), some (vI q8.1), none] [] h12
                            else
                              if q8.1 = 59 then
                                Rr (Cd d) 198 161 [some (vA v0), some (vI q8.1), none] [] h12
                              else
                                Rr (Cd d) 198 164 [some (vA v0), some (vI q8.1), none] [vI 0] h12
          else
            (pF q10.2 12 14 v0 2).bind fun h13 =>
            (pF h13 12 16 v0 0).bind fun h14 =>
            Rr (Cd d) 198 82 [some (vA v0), some (vI q8.1), none] [] h14
        else
          (pF q9.2 12 14 v0 1).bind fun h15 =>
          (pF h15 12 15 v0 0).bind fun h16 =>
          Rr (Cd d) 198 43 [some (vA v0), some (vI q8.1), none] [] h16 := (Cd_inst rfl rfl rfl hg).trans ((Rr_blk (Cd d) 198 [0, 12, 43, 66, 82, 107, 161, 164, 171, 178, 197, 198] 200 0 _ [] hp).trans rfl)
set_option maxRecDepth 100000 in
theorem c198_0 (d : Nat) (v0 : Int) (o1 o2 : Option AV) (hp : HP) : Rr (Cd d) 198 0 [some (vA v0), o1, o2] [] hp =
  (gF hp 12 12 v0).bind fun x1 =>
  ((Cd d 195 [vA v0, vI x1] hp).bind toI).bind fun q2 =>
  if q2.1 = 32 then
    Rr (Cd d) 198 12 [some (vA v0), o1, o2] [] q2.2
  else
    (gF q2.2 12 12 v0).bind fun x3 =>
    ((Cd d 195 [vA v0, vI x3] q2.2).bind toI).bind fun q4 =>
    if q4.1 = 10 then
      Rr (Cd d) 198 12 [some (vA v0), o1, o2] [] q4.2
    else
      (gF q4.2 12 12 v0).bind fun x5 =>
      (pF q4.2 12 13 v0 x5).bind fun h6 =>
      (gF h6 12 12 v0).bind fun x7 =>
      ((Cd d 195 [vA v0, vI x7] h6).bind toI).bind fun q8 =>
      if q8.1 < 0 then
        (pF q8.2 12 14 v0 0).bind fun h17 =>
        Rr (Cd d) 198 198 [some (vA v0), some (vI q8.1), o2] [] h17
      else
        ((Cd d 197 [vI q8.1] q8.2).bind toI).bind fun q9 =>
        if q9.1 = 0 then
          ((Cd d 196 [vI q8.1] q9.2).bind toI).bind fun q10 =>
          if q10.1 = 0 then
            (gF q10.2 12 12 v0).bind fun x11 =>
            (pF q10.2 12 12 v0 (w32 (x11 + 1))).bind fun h12 =>
            if q8.1 = 60 then
              Rr (Cd d) 198 161 [some (vA v0), some (vI q8.1), o2] [] h12
            else
              if q8.1 = 62 then
                Rr (Cd d) 198 161 [some (vA v0), some (vI q8.1), o2] [] h12
              else
                if q8.1 = 61 then
                  Rr (Cd d) 198 161 [some (vA v0), some (vI q8.1), o2] [] h12
                else
                  if q8.1 = 35 then
                    Rr (Cd d) 198 161 [some (vA v0), some (vI q8.1), o2] [] h12
                  else
                    if q8.1 = 43 then
                      Rr (Cd d) 198 161 [some (vA v0), some (vI q8.1), o2] [] h12
                    else
                      if q8.1 = 45 then
                        Rr (Cd d) 198 161 [some (vA v0), some (vI q8.1), o2] [] h12
                      else
                        if q8.1 = 42 then
                          Rr (Cd d) 198 161 [some (vA v0), some (vI q8.1), o2] [] h12
                        else
                          if q8.1 = 40 then
                            Rr (Cd d) 198 161 [some (vA v0), some (vI q8.1), o2] [] h12
                          else
                            if q8.1 = 41 then
                              Rr (Cd d) 198 161 [some (vA v0), some (vI q8.1), o2] [] h12
                            else
                              if q8.1 = 59 then
                                Rr (Cd d) 198 161 [some (vA v0), some (vI q8.1), o2] [] h12
                              else
                                Rr (Cd d) 198 164 [some (vA v0), some (vI q8.1), o2] [vI 0] h12
          else
            (pF q10.2 12 14 v0 2).bind fun h13 =>
            (pF h13 12 16 v0 0).bind fun h14 =>
            Rr (Cd d) 198 82 [some (vA v0), some (vI q8.1), o2] [] h14
        else
          (pF q9.2 12 14 v0 1).bind fun h15 =>
          (pF h15 12 15 v0 0).bind fun h16 =>
          Rr (Cd d) 198 43 [some (vA v0), some (vI q8.1), o2] [] h16 := (Rr_blk (Cd d) 198 [0, 12, 43, 66, 82, 107, 161, 164, 171, 178, 197, 198] 200 0 _ _ hp).trans rfl
set_option maxRecDepth 100000 in
theorem c198_12 (d : Nat) (v0 : Int) (o1 o2 : Option AV) (hp : HP) : Rr (Cd d) 198 12 [some (vA v0), o1, o2] [] hp =
  (gF hp 12 12 v0).bind fun x1 =>
  (pF hp 12 12 v0 (w32 (x1 + 1))).bind fun h2 =>
  Rr (Cd d) 198 0 [some (vA v0), o1, o2] [] h2 := (Rr_blk (Cd d) 198 [0, 12, 43, 66, 82, 107, 161, 164, 171, 178, 197, 198] 200 12 _ _ hp).trans rfl
set_option maxRecDepth 100000 in
theorem c198_43 (d : Nat) (v0 : Int) (o1 o2 : Option AV) (hp : HP) : Rr (Cd d) 198 43 [some (vA v0), o1, o2] [] hp =
  (gF hp 12 12 v0).bind fun x1 =>
  ((Cd d 195 [vA v0, vI x1] hp).bind toI).bind fun q2 =>
  ((Cd d 197 [vI q2.1] q2.2).bind toI).bind fun q3 =>
  if q3.1 = 0 then
    Rr (Cd d) 198 198 [some (vA v0), o1, o2] [] q3.2
  else
    (gF q3.2 12 15 v0).bind fun x4 =>
    if x4 < 100000 then
      (gF q3.2 12 15 v0).bind fun x5 =>
      (gF q3.2 12 12 v0).bind fun x6 =>
      ((Cd d 195 [vA v0, vI x6] q3.2).bind toI).bind fun q7 =>
      (pF q7.2 12 15 v0 (w32 (w32 (w32 (10 * x5) + q7.1) - 48))).bind fun h8 =>
      Rr (Cd d) 198 66 [some (vA v0), o1, o2] [] h8
    else
      Rr (Cd d) 198 66 [some (vA v0), o1, o2] [] q3.2 := (Rr_blk (Cd d) 198 [0, 12, 43, 66, 82, 107, 161, 164, 171, 178, 197, 198] 200 43 _ _ hp).trans rfl
set_option maxRecDepth 100000 in
theorem c198_66 (d : Nat) (v0 : Int) (o1 o2 : Option AV) (hp : HP) : Rr (Cd d) 198 66 [some (vA v0), o1, o2] [] hp =
  (gF hp 12 12 v0).bind fun x1 =>
  (pF hp 12 12 v0 (w32 (x1 + 1))).bind fun h2 =>
  Rr (Cd d) 198 43 [some (vA v0), o1, o2] [] h2 := (Rr_blk (Cd d) 198 [0, 12, 43, 66, 82, 107, 161, 164, 171, 178, 197, 198] 200 66 _ _ hp).trans rfl
set_option maxRecDepth 100000 in
theorem c198_82 (d : Nat) (v0 : Int) (o1 o2 : Option AV) (hp : HP) : Rr (Cd d) 198 82 [some (vA v0), o1, o2] [] hp =
  (gF hp 12 12 v0).bind fun x1 =>
  ((Cd d 195 [vA v0, vI x1] hp).bind toI).bind fun q2 =>
  ((Cd d 196 [vI q2.1] q2.2).bind toI).bind fun q3 =>
  if q3.1 = 0 then
    (gF q3.2 12 12 v0).bind fun x4 =>
    (gF q3.2 12 13 v0).bind fun x5 =>
    if 7 < w32 (x4 - x5) then
      (pF q3.2 12 16 v0 0).bind fun h6 =>
      Rr (Cd d) 198 198 [some (vA v0), o1, o2] [] h6
    else
      Rr (Cd d) 198 198 [some (vA v0), o1, o2] [] q3.2
  else
    (gF q3.2 12 12 v0).bind fun x7 =>
    (gF q3.2 12 13 v0).bind fun x8 =>
    if w32 (x7 - x8) < 7 then
      (gF q3.2 12 16 v0).bind fun x9 =>
      (gF q3.2 12 12 v0).bind fun x10 =>
      ((Cd d 195 [vA v0, vI x10] q3.2).bind toI).bind fun q11 =>
      (pF q11.2 12 16 v0 (llor (llshl x9 8) q11.1)).bind fun h12 =>
      Rr (Cd d) 198 107 [some (vA v0), o1, o2] [] h12
    else
      Rr (Cd d) 198 107 [some (vA v0), o1, o2] [] q3.2 := (Rr_blk (Cd d) 198 [0, 12, 43, 66, 82, 107, 161, 164, 171, 178, 197, 198] 200 82 _ _ hp).trans rfl
set_option maxRecDepth 100000 in
theorem c198_107 (d : Nat) (v0 : Int) (o1 o2 : Option AV) (hp : HP) : Rr (Cd d) 198 107 [some (vA v0), o1, o2] [] hp =
  (gF hp 12 12 v0).bind fun x1 =>
  (pF hp 12 12 v0 (w32 (x1 + 1))).bind fun h2 =>
  Rr (Cd d) 198 82 [some (vA v0), o1, o2] [] h2 := (Rr_blk (Cd d) 198 [0, 12, 43, 66, 82, 107, 161, 164, 171, 178, 197, 198] 200 107 _ _ hp).trans rfl
set_option maxRecDepth 100000 in
theorem c198_161 (d : Nat) (v0 v1 : Int) (o2 : Option AV) (hp : HP) : Rr (Cd d) 198 161 [some (vA v0), some (vI v1), o2] [] hp =
  Rr (Cd d) 198 164 [some (vA v0), some (vI v1), o2] [vI 1] hp := (Rr_blk (Cd d) 198 [0, 12, 43, 66, 82, 107, 161, 164, 171, 178, 197, 198] 200 161 _ _ hp).trans rfl
set_option maxRecDepth 100000 in
theorem c198_164 (d : Nat) (v0 v1 s0 : Int) (o2 : Option AV) (hp : HP) : Rr (Cd d) 198 164 [some (vA v0), some (vI v1), o2] [vI s0] hp =
  if s0 = 0 then
    Rr (Cd d) 198 171 [some (vA v0), some (vI v1), some (vI s0)] [vI 3, vA v0] hp
  else
    Rr (Cd d) 198 171 [some (vA v0), some (vI v1), some (vI s0)] [vI v1, vA v0] hp := (Rr_blk (Cd d) 198 [0, 12, 43, 66, 82, 107, 161, 164, 171, 178, 197, 198] 200 164 _ _ hp).trans rfl
set_option maxRecDepth 100000 in
theorem c198_171 (d : Nat) (v0 v1 s0 s1 : Int) (o2 : Option AV) (hp : HP) : Rr (Cd d) 198 171 [some (vA v0), some (vI v1), o2] [vI s1, vA s0] hp =
  (pF hp 12 14 s0 s1).bind fun h1 =>
  if v1 = 60 then
    Rr (Cd d) 198 178 [some (vA v0), some (vI v1), o2] [] h1
  else
    if v1 = 62 then
      Rr (Cd d) 198 178 [some (vA v0), some (vI v1), o2] [] h1
    else
      Rr (Cd d) 198 198 [some (vA v0), some (vI v1), o2] [] h1 := (Rr_blk (Cd d) 198 [0, 12, 43, 66, 82, 107, 161, 164, 171, 178, 197, 198] 200 171 _ _ hp).trans rfl
set_option maxRecDepth 100000 in
theorem c198_178 (d : Nat) (v0 v1 : Int) (o2 : Option AV) (hp : HP) : Rr (Cd d) 198 178 [some (vA v0), some (vI v1), o2] [] hp =
  (gF hp 12 12 v0).bind fun x1 =>
  ((Cd d 195 [vA v0, vI x1] hp).bind toI).bind fun q2 =>
  if q2.1 = 61 then
    (gF q2.2 12 12 v0).bind fun x3 =>
    (pF q2.2 12 12 v0 (w32 (x3 + 1))).bind fun h4 =>
    if v1 = 60 then
      Rr (Cd d) 198 197 [some (vA v0), some (vI v1), o2] [vI 4, vA v0] h4
    else
      Rr (Cd d) 198 197 [some (vA v0), some (vI v1), o2] [vI 5, vA v0] h4
  else
    Rr (Cd d) 198 198 [some (vA v0), some (vI v1), o2] [] q2.2 := (Rr_blk (Cd d) 198 [0, 12, 43, 66, 82, 107, 161, 164, 171, 178, 197, 198] 200 178 _ _ hp).trans rfl
set_option maxRecDepth 100000 in
theorem c198_197 (d : Nat) (s0 s1 : Int) (o0 o1 o2 : Option AV) (hp : HP) : Rr (Cd d) 198 197 [o0, o1, o2] [vI s1, vA s0] hp =
  (pF hp 12 14 s0 s1).bind fun h1 =>
  Rr (Cd d) 198 198 [o0, o1, o2] [] h1 := (Rr_blk (Cd d) 198 [0, 12, 43, 66, 82, 107, 161, 164, 171, 178, 197, 198] 200 197 _ _ hp).trans rfl
set_option maxRecDepth 100000 in
theorem c198_198 (d : Nat) (o0 o1 o2 : Option AV) (hp : HP) : Rr (Cd d) 198 198 [o0, o1, o2] [] hp =
  some ([], hp) := (Rr_blk (Cd d) 198 [0, 12, 43, 66, 82, 107, 161, 164, 171, 178, 197, 198] 200 198 _ _ hp).trans rfl
set_option maxRecDepth 100000 in
theorem c199 (d : Nat) (v0 v1 v2 : Int) (hp : HP) : Cd (d + 1) 199 [vI v0, vI v1, vI v2] hp =
  some ([vL (llor (llshl (llor (llshl v0 8) v1) 8) v2)], hp) := (Rr_blk (Cd d) 199 [] 14 0 _ [] hp).trans rfl
