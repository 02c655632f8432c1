/-! the methods as equations, written by a program -/
theorem Cd_inst {d z : Nat} {o : Int} {av : List AV} {hp : HP} {t n s : Nat} (hk : knd (vA o :: av) (sgOf z) = true) (hs : (skT[z]?).getD 0 = s + 1) (ht : (tgT[z]?).getD 999 = t) (hg : gS hp o = some (t, n)) : Cd (d + 1) z (vA o :: av) hp = Rr (Cd d) z 0 (ent (mMl z) (vA o :: av)) [] hp := by
  have hr : rcv z (vA o :: av) hp = true := by
    unfold rcv
    rw [hs]
    simp only [hg, ht]
    exact Nat.beq_refl t
  rw [Cd_succ, hk, hr]
  rfl
set_option maxRecDepth 100000 in
theorem c283 (d : Nat) (v0 : Int) (hp : HP) : Cd (d + 1) 283 [vI v0] hp =
  if 0 < iand (ixor v0 ((-1))) (w32 (v0 - 1)) then
    if 65536 < iand (ixor v0 ((-1))) (w32 (v0 - 1)) then
      Rr (Cd d) 283 24 [some (vI (iushr (iand (ixor v0 ((-1))) (w32 (v0 - 1))) 16)), some (vI (w32 (1 + 16)))] [] hp
    else
      Rr (Cd d) 283 24 [some (vI (iand (ixor v0 ((-1))) (w32 (v0 - 1)))), some (vI 1)] [] hp
  else
    some ([vI (iand (iand (ixor v0 ((-1))) (w32 (v0 - 1))) 32)], hp) := (Rr_blk (Cd d) 283 [24, 32, 40, 48] 55 0 _ [] hp).trans rfl
set_option maxRecDepth 100000 in
theorem c283_24 (d : Nat) (v0 v1 : Int) (hp : HP) : Rr (Cd d) 283 24 [some (vI v0), some (vI v1)] [] hp =
  if 256 < v0 then
    Rr (Cd d) 283 32 [some (vI (iushr v0 8)), some (vI (w32 (v1 + 8)))] [] hp
  else
    Rr (Cd d) 283 32 [some (vI v0), some (vI v1)] [] hp := (Rr_blk (Cd d) 283 [24, 32, 40, 48] 55 24 _ _ hp).trans rfl
set_option maxRecDepth 100000 in
theorem c283_32 (d : Nat) (v0 v1 : Int) (hp : HP) : Rr (Cd d) 283 32 [some (vI v0), some (vI v1)] [] hp =
  if 16 < v0 then
    Rr (Cd d) 283 40 [some (vI (iushr v0 4)), some (vI (w32 (v1 + 4)))] [] hp
  else
    Rr (Cd d) 283 40 [some (vI v0), some (vI v1)] [] hp := (Rr_blk (Cd d) 283 [24, 32, 40, 48] 55 32 _ _ hp).trans rfl
set_option maxRecDepth 100000 in
theorem c283_40 (d : Nat) (v0 v1 : Int) (hp : HP) : Rr (Cd d) 283 40 [some (vI v0), some (vI v1)] [] hp =
  if 4 < v0 then
    Rr (Cd d) 283 48 [some (vI (iushr v0 2)), some (vI (w32 (v1 + 2)))] [] hp
  else
    Rr (Cd d) 283 48 [some (vI v0), some (vI v1)] [] hp := (Rr_blk (Cd d) 283 [24, 32, 40, 48] 55 40 _ _ hp).trans rfl
set_option maxRecDepth 100000 in
theorem c283_48 (d : Nat) (v0 v1 : Int) (hp : HP) : Rr (Cd d) 283 48 [some (vI v0), some (vI v1)] [] hp =
  some ([vI (w32 (v1 + (iushr v0 1)))], hp) := (Rr_blk (Cd d) 283 [24, 32, 40, 48] 55 48 _ _ hp).trans rfl
set_option maxRecDepth 100000 in
theorem c284 (d : Nat) (v0 : Int) (hp : HP) : Cd (d + 1) 284 [vI v0] hp =
  some ([vI (iand (w32 (w32 (iand (w32 (w32 (iand (w32 (v0 - (iand (iushr v0 1) 1431655765))) 858993459 + (iand (iushr (w32 (v0 - (iand (iushr v0 1) 1431655765))) 2) 858993459)) + (iushr (w32 (iand (w32 (v0 - (iand (iushr v0 1) 1431655765))) 858993459 + (iand (iushr (w32 (v0 - (iand (iushr v0 1) 1431655765))) 2) 858993459))) 4))) 252645135 + (iushr (iand (w32 (w32 (iand (w32 (v0 - (iand (iushr v0 1) 1431655765))) 858993459 + (iand (iushr (w32 (v0 - (iand (iushr v0 1) 1431655765))) 2) 858993459)) + (iushr (w32 (iand (w32 (v0 - (iand (iushr v0 1) 1431655765))) 858993459 + (iand (iushr (w32 (v0 - (iand (iushr v0 1) 1431655765))) 2) 858993459))) 4))) 252645135) 8)) + (iushr (w32 (iand (w32 (w32 (iand (w32 (v0 - (iand (iushr v0 1) 1431655765))) 858993459 + (iand (iushr (w32 (v0 - (iand (iushr v0 1) 1431655765))) 2) 858993459)) + (iushr (w32 (iand (w32 (v0 - (iand (iushr v0 1) 1431655765))) 858993459 + (iand (iushr (w32 (v0 - (iand (iushr v0 1) 1431655765))) 2) 858993459))) 4))) 252645135 + (iushr (iand (w32 (w32 (iand (w32 (v0 - (iand (iushr v0 1) 1431655765))) 858993459 + (iand (iushr (w32 (v0 - (iand (iushr v0 1) 1431655765))) 2) 858993459)) + (iushr (w32 (iand (w32 (v0 - (iand (iushr v0 1) 1431655765))) 858993459 + (iand (iushr (w32 (v0 - (iand (iushr v0 1) 1431655765))) 2) 858993459))) 4))) 252645135) 8))) 16))) 63)], hp) := (Rr_blk (Cd d) 284 [] 43 0 _ [] hp).trans rfl
set_option maxRecDepth 100000 in
theorem c285 (d : Nat) (v0 : Int) (hp : HP) : Cd (d + 1) 285 [vI v0] hp =
  if v0 < 0 then
    Rr (Cd d) 285 6 [some (vI v0)] [vI (w32 (-v0))] hp
  else
    Rr (Cd d) 285 6 [some (vI v0)] [vI v0] hp := (Rr_blk (Cd d) 285 [6] 8 0 _ [] hp).trans rfl
set_option maxRecDepth 100000 in
theorem c285_6 (d : Nat) (s0 : Int) (o0 : Option AV) (hp : HP) : Rr (Cd d) 285 6 [o0] [vI s0] hp =
  some ([vI s0], hp) := (Rr_blk (Cd d) 285 [6] 8 6 _ _ hp).trans rfl
set_option maxRecDepth 100000 in
theorem c286 (d : Nat) (v0 v1 : Int) (hp : HP) : Cd (d + 1) 286 [vI v0, vI v1] hp =
  if v0 < v1 then
    Rr (Cd d) 286 6 [some (vI v0), some (vI v1)] [vI v1] hp
  else
    Rr (Cd d) 286 6 [some (vI v0), some (vI v1)] [vI v0] hp := (Rr_blk (Cd d) 286 [6] 8 0 _ [] hp).trans rfl
set_option maxRecDepth 100000 in
theorem c286_6 (d : Nat) (s0 : Int) (o0 o1 : Option AV) (hp : HP) : Rr (Cd d) 286 6 [o0, o1] [vI s0] hp =
  some ([vI s0], hp) := (Rr_blk (Cd d) 286 [6] 8 6 _ _ hp).trans rfl
set_option maxRecDepth 100000 in
theorem c287 (d : Nat) (v0 v2 : Int) (hp : HP) : Cd (d + 1) 287 [vL v0, vL v2] hp =
  if lcmp v0 v2 < 0 then
    Rr (Cd d) 287 7 [some (vL v0), none, some (vL v2), none] [vL v2] hp
  else
    Rr (Cd d) 287 7 [some (vL v0), none, some (vL v2), none] [vL v0] hp := (Rr_blk (Cd d) 287 [7] 9 0 _ [] hp).trans rfl
set_option maxRecDepth 100000 in
theorem c287_7 (d : Nat) (s0 : Int) (o0 o1 o2 o3 : Option AV) (hp : HP) : Rr (Cd d) 287 7 [o0, o1, o2, o3] [vL s0] hp =
  some ([vL s0], hp) := (Rr_blk (Cd d) 287 [7] 9 7 _ _ hp).trans rfl
set_option maxRecDepth 100000 in
theorem c288 (d : Nat) (v0 v1 : Int) (hp : HP) : Cd (d + 1) 288 [vI v0, vI v1] hp =
  if v1 < v0 then
    Rr (Cd d) 288 6 [some (vI v0), some (vI v1)] [vI v1] hp
  else
    Rr (Cd d) 288 6 [some (vI v0), some (vI v1)] [vI v0] hp := (Rr_blk (Cd d) 288 [6] 8 0 _ [] hp).trans rfl
set_option maxRecDepth 100000 in
theorem c288_6 (d : Nat) (s0 : Int) (o0 o1 : Option AV) (hp : HP) : Rr (Cd d) 288 6 [o0, o1] [vI s0] hp =
  some ([vI s0], hp) := (Rr_blk (Cd d) 288 [6] 8 6 _ _ hp).trans rfl
set_option maxRecDepth 100000 in
theorem c289 (d : Nat) (v0 v2 : Int) (hp : HP) : Cd (d + 1) 289 [vL v0, vL v2] hp =
  if 0 < lcmp v0 v2 then
    Rr (Cd d) 289 7 [some (vL v0), none, some (vL v2), none] [vL v2] hp
  else
    Rr (Cd d) 289 7 [some (vL v0), none, some (vL v2), none] [vL v0] hp := (Rr_blk (Cd d) 289 [7] 9 0 _ [] hp).trans rfl
set_option maxRecDepth 100000 in
theorem c289_7 (d : Nat) (s0 : Int) (o0 o1 o2 o3 : Option AV) (hp : HP) : Rr (Cd d) 289 7 [o0, o1, o2, o3] [vL s0] hp =
  some ([vL s0], hp) := (Rr_blk (Cd d) 289 [7] 9 7 _ _ hp).trans rfl
set_option maxRecDepth 100000 in
theorem c290 (d : Nat) (v0 : Int) (hp : HP) {n : Nat} (hg : gS hp v0 = some (50, n)) : Cd (d + 1) 290 [vA v0] hp =
  (gF hp 50 0 v0).bind fun x1 =>
  (gL hp x1).bind fun x2 =>
  ((Cd d 294 [vA v0] hp).bind toI).bind fun q3 =>
  some ([vI (ishr x2 q3.1)], q3.2) := (Cd_inst rfl rfl rfl hg).trans ((Rr_blk (Cd d) 290 [] 8 0 _ [] hp).trans rfl)
set_option maxRecDepth 100000 in
theorem c291 (d : Nat) (v0 v1 : Int) (hp : HP) {n : Nat} (hg : gS hp v0 = some (50, n)) : Cd (d + 1) 291 [vA v0, vI v1] hp =
  ((Cd d 295 [vA v0] hp).bind toI).bind fun q1 =>
  if q1.1 = 0 then
    (gF q1.2 50 0 v0).bind fun x2 =>
    none
  else
    (gF q1.2 50 0 v0).bind fun x3 =>
    ((Cd d 297 [vA x3, vI v1] q1.2).bind toI).bind fun q4 =>
    if 0 ≤ q4.1 ∧ q4.1 < 65536 then some ([vI q4.1], q4.2) else none := (Cd_inst rfl rfl rfl hg).trans ((Rr_blk (Cd d) 291 [] 14 0 _ [] hp).trans rfl)
set_option maxRecDepth 100000 in
theorem c292 (d : Nat) (v0 v1 : Int) (hp : HP) {n : Nat} (hg : gS hp v0 = some (50, n)) : Cd (d + 1) 292 [vA v0, vI v1] hp =
  ((Cd d 293 [vA v0, vI v1, vI 0] hp).bind toI).bind fun q1 =>
  some ([vI q1.1], q1.2) := (Cd_inst rfl rfl rfl hg).trans ((Rr_blk (Cd d) 292 [] 6 0 _ [] hp).trans rfl)
set_option maxRecDepth 100000 in
theorem c293 (d : Nat) (v0 v1 v2 : Int) (hp : HP) {n : Nat} (hg : gS hp v0 = some (50, n)) : Cd (d + 1) 293 [vA v0, vI v1, vI v2] hp =
  ((Cd d 295 [vA v0] hp).bind toI).bind fun q1 =>
  if q1.1 = 0 then
    (gF q1.2 50 0 v0).bind fun x2 =>
    ((Cd d 290 [vA v0] q1.2).bind toI).bind fun q3 =>
    none
  else
    (gF q1.2 50 0 v0).bind fun x4 =>
    ((Cd d 290 [vA v0] q1.2).bind toI).bind fun q5 =>
    ((Cd d 299 [vA x4, vI v1, vI v2, vI q5.1] q5.2).bind toI).bind fun q6 =>
    some ([vI q6.1], q6.2) := (Cd_inst rfl rfl rfl hg).trans ((Rr_blk (Cd d) 293 [] 20 0 _ [] hp).trans rfl)
set_option maxRecDepth 100000 in
theorem c294 (d : Nat) (v0 : Int) (hp : HP) {n : Nat} (hg : gS hp v0 = some (50, n)) : Cd (d + 1) 294 [vA v0] hp =
  if 1 = 0 then
    Rr (Cd d) 294 6 [some (vA v0)] [vI 1] hp
  else
    (gF hp 50 1 v0).bind fun x1 =>
    Rr (Cd d) 294 6 [some (vA v0)] [vI x1] hp := (Cd_inst rfl rfl rfl hg).trans ((Rr_blk (Cd d) 294 [6] 8 0 _ [] hp).trans rfl)
set_option maxRecDepth 100000 in
theorem c294_6 (d : Nat) (s0 : Int) (o0 : Option AV) (hp : HP) : Rr (Cd d) 294 6 [o0] [vI s0] hp =
  if -128 ≤ s0 ∧ s0 < 128 then some ([vI s0], hp) else none := (Rr_blk (Cd d) 294 [6] 8 6 _ _ hp).trans rfl
set_option maxRecDepth 100000 in
theorem c295 (d : Nat) (v0 : Int) (hp : HP) {n : Nat} (hg : gS hp v0 = some (50, n)) : Cd (d + 1) 295 [vA v0] hp =
  if 1 = 0 then
    Rr (Cd d) 295 7 [some (vA v0)] [] hp
  else
    (gF hp 50 1 v0).bind fun x1 =>
    if x1 = 0 then
      Rr (Cd d) 295 8 [some (vA v0)] [vI 1] hp
    else
      Rr (Cd d) 295 7 [some (vA v0)] [] hp := (Cd_inst rfl rfl rfl hg).trans ((Rr_blk (Cd d) 295 [7, 8] 10 0 _ [] hp).trans rfl)
set_option maxRecDepth 100000 in
theorem c295_7 (d : Nat) (o0 : Option AV) (hp : HP) : Rr (Cd d) 295 7 [o0] [] hp =
  Rr (Cd d) 295 8 [o0] [vI 0] hp := (Rr_blk (Cd d) 295 [7, 8] 10 7 _ _ hp).trans rfl
set_option maxRecDepth 100000 in
theorem c295_8 (d : Nat) (s0 : Int) (o0 : Option AV) (hp : HP) : Rr (Cd d) 295 8 [o0] [vI s0] hp =
  if s0 = 0 ∨ s0 = 1 then some ([vI s0], hp) else none := (Rr_blk (Cd d) 295 [7, 8] 10 8 _ _ hp).trans rfl
set_option maxRecDepth 100000 in
theorem c296 (d : Nat) (v0 v1 : Int) (hp : HP) : Cd (d + 1) 296 [vI v0, vI v1] hp =
  ((Cd d 301 [vI v0, vI v1, vA 0] hp).bind toI).bind fun q1 =>
  some ([], q1.2) := (Rr_blk (Cd d) 296 [] 7 0 _ [] hp).trans rfl
set_option maxRecDepth 100000 in
theorem c297 (d : Nat) (v0 v1 : Int) (hp : HP) : Cd (d + 1) 297 [vA v0, vI v1] hp =
  (gL hp v0).bind fun x1 =>
  ((Cd d 296 [vI v1, vI x1] hp).bind toV).bind fun q2 =>
  (gA q2 2 v0 v1).bind fun x3 =>
  if 0 ≤ i2c (iand x3 255) ∧ i2c (iand x3 255) < 65536 then some ([vI (i2c (iand x3 255))], q2) else none := (Rr_blk (Cd d) 297 [] 12 0 _ [] hp).trans rfl
set_option maxRecDepth 100000 in
theorem c298 (d : Nat) (v0 : Int) (hp : HP) : Cd (d + 1) 298 [vI v0] hp =
  if v0 < 0 then
    Rr (Cd d) 298 7 [some (vI v0)] [] hp
  else
    if 255 < v0 then
      Rr (Cd d) 298 7 [some (vI v0)] [] hp
    else
      Rr (Cd d) 298 8 [some (vI v0)] [vI 1] hp := (Rr_blk (Cd d) 298 [7, 8] 10 0 _ [] hp).trans rfl
set_option maxRecDepth 100000 in
theorem c298_7 (d : Nat) (o0 : Option AV) (hp : HP) : Rr (Cd d) 298 7 [o0] [] hp =
  Rr (Cd d) 298 8 [o0] [vI 0] hp := (Rr_blk (Cd d) 298 [7, 8] 10 7 _ _ hp).trans rfl
set_option maxRecDepth 100000 in
theorem c298_8 (d : Nat) (s0 : Int) (o0 : Option AV) (hp : HP) : Rr (Cd d) 298 8 [o0] [vI s0] hp =
  if s0 = 0 ∨ s0 = 1 then some ([vI s0], hp) else none := (Rr_blk (Cd d) 298 [7, 8] 10 8 _ _ hp).trans rfl
set_option maxRecDepth 100000 in
theorem c299 (d : Nat) (v0 v1 v2 v3 : Int) (hp : HP) : Cd (d + 1) 299 [vA v0, vI v1, vI v2, vI v3] hp =
  ((Cd d 298 [vI v1] hp).bind toI).bind fun q1 =>
  if q1.1 = 0 then
    some ([vI ((-1))], q1.2)
  else
    ((Cd d 286 [vI v2, vI 0] q1.2).bind toI).bind fun q2 =>
    (gL q2.2 v0).bind fun x3 =>
    ((Cd d 288 [vI v3, vI x3] q2.2).bind toI).bind fun q4 =>
    if q2.1 < q4.1 then
      ((Cd d 300 [vA v0, vI v1, vI q2.1, vI q4.1] q4.2).bind toI).bind fun q5 =>
      some ([vI q5.1], q5.2)
    else
      some ([vI ((-1))], q4.2) := (Rr_blk (Cd d) 299 [] 26 0 _ [] hp).trans rfl
set_option maxRecDepth 100000 in
theorem c300 (d : Nat) (v0 v1 v2 v3 : Int) (hp : HP) : Cd (d + 1) 300 [vA v0, vI v1, vI v2, vI v3] hp =
  Rr (Cd d) 300 5 [some (vA v0), some (vI v1), some (vI v2), some (vI v3), some (vI (i2b v1)), some (vI v2)] [] hp := (Rr_blk (Cd d) 300 [5] 20 0 _ [] hp).trans rfl
set_option maxRecDepth 100000 in
theorem c300_5 (d : Nat) (v0 v3 v4 v5 : Int) (o1 o2 : Option AV) (hp : HP) : Rr (Cd d) 300 5 [some (vA v0), o1, o2, some (vI v3), some (vI v4), some (vI v5)] [] hp =
  if v5 < v3 then
    (gA hp 2 v0 v5).bind fun x1 =>
    if x1 = v4 then
      some ([vI v5], hp)
    else
      Rr (Cd d) 300 5 [some (vA v0), o1, o2, some (vI v3), some (vI v4), some (vI (w32 (v5 + 1)))] [] hp
  else
    some ([vI ((-1))], hp) := (Rr_blk (Cd d) 300 [5] 20 5 _ _ hp).trans rfl
set_option maxRecDepth 100000 in
theorem c301 (d : Nat) (v0 v1 v2 : Int) (hp : HP) : Cd (d + 1) 301 [vI v0, vI v1, vA v2] hp =
  if v0 < 0 then
    Rr (Cd d) 301 5 [some (vI v0), some (vI v1), some (vA v2)] [] hp
  else
    if v0 < v1 then
      some ([vI v0], hp)
    else
      Rr (Cd d) 301 5 [some (vI v0), some (vI v1), some (vA v2)] [] hp := (Rr_blk (Cd d) 301 [5] 13 0 _ [] hp).trans rfl
set_option maxRecDepth 100000 in
theorem c301_5 (d : Nat) (v0 v1 v2 : Int) (hp : HP) : Rr (Cd d) 301 5 [some (vI v0), some (vI v1), some (vA v2)] [] hp =
  none := (Rr_blk (Cd d) 301 [5] 13 5 _ _ hp).trans rfl
set_option maxRecDepth 100000 in
theorem c159 (d : Nat) (v0 : Int) (hp : HP) : Cd (d + 1) 159 [vI v0] hp =
  if v0 = 0 then
    Rr (Cd d) 159 5 [some (vI v0)] [vI 0] hp
  else
    Rr (Cd d) 159 5 [some (vI v0)] [vI 1] hp := (Rr_blk (Cd d) 159 [5] 7 0 _ [] hp).trans rfl
set_option maxRecDepth 100000 in
theorem c159_5 (d : Nat) (s0 : Int) (o0 : Option AV) (hp : HP) : Rr (Cd d) 159 5 [o0] [vI s0] hp =
  some ([vI s0], hp) := (Rr_blk (Cd d) 159 [5] 7 5 _ _ hp).trans rfl
set_option maxRecDepth 100000 in
theorem c160 (d : Nat) (v0 : Int) (hp : HP) : Cd (d + 1) 160 [vI v0] hp =
  if v0 < 0 then
    Rr (Cd d) 160 7 [some (vI v0)] [] hp
  else
    if v0 < 3 then
      Rr (Cd d) 160 8 [some (vI v0)] [vI 1] hp
    else
      Rr (Cd d) 160 7 [some (vI v0)] [] hp := (Rr_blk (Cd d) 160 [7, 8] 10 0 _ [] hp).trans rfl
set_option maxRecDepth 100000 in
theorem c160_7 (d : Nat) (o0 : Option AV) (hp : HP) : Rr (Cd d) 160 7 [o0] [] hp =
  Rr (Cd d) 160 8 [o0] [vI 0] hp := (Rr_blk (Cd d) 160 [7, 8] 10 7 _ _ hp).trans rfl
set_option maxRecDepth 100000 in
theorem c160_8 (d : Nat) (s0 : Int) (o0 : Option AV) (hp : HP) : Rr (Cd d) 160 8 [o0] [vI s0] hp =
  if s0 = 0 ∨ s0 = 1 then some ([vI s0], hp) else none := (Rr_blk (Cd d) 160 [7, 8] 10 8 _ _ hp).trans rfl
set_option maxRecDepth 100000 in
theorem c161 (d : Nat) (v0 : Int) (hp : HP) : Cd (d + 1) 161 [vI v0] hp =
  if v0 < 0 then
    Rr (Cd d) 161 7 [some (vI v0)] [] hp
  else
    if v0 < 6 then
      Rr (Cd d) 161 8 [some (vI v0)] [vI 1] hp
    else
      Rr (Cd d) 161 7 [some (vI v0)] [] hp := (Rr_blk (Cd d) 161 [7, 8] 10 0 _ [] hp).trans rfl
set_option maxRecDepth 100000 in
theorem c161_7 (d : Nat) (o0 : Option AV) (hp : HP) : Rr (Cd d) 161 7 [o0] [] hp =
  Rr (Cd d) 161 8 [o0] [vI 0] hp := (Rr_blk (Cd d) 161 [7, 8] 10 7 _ _ hp).trans rfl
set_option maxRecDepth 100000 in
theorem c161_8 (d : Nat) (s0 : Int) (o0 : Option AV) (hp : HP) : Rr (Cd d) 161 8 [o0] [vI s0] hp =
  if s0 = 0 ∨ s0 = 1 then some ([vI s0], hp) else none := (Rr_blk (Cd d) 161 [7, 8] 10 8 _ _ hp).trans rfl
set_option maxRecDepth 100000 in
theorem c162 (d : Nat) (v0 : Int) (hp : HP) : Cd (d + 1) 162 [vI v0] hp =
  if v0 = 2 then
    some ([vI 3], hp)
  else
  if v0 = 3 then
    some ([vI 13], hp)
  else
  if v0 = 4 then
    some ([vI 1], hp)
  else
  if v0 = 5 then
    some ([vI 1], hp)
  else
  if v0 = 6 then
    some ([vI 63], hp)
  else
  some ([vI 1], hp) := (Rr_blk (Cd d) 162 [] 11 0 _ [] hp).trans rfl
set_option maxRecDepth 100000 in
theorem c163 (d : Nat) (v0 : Int) (hp : HP) : Cd (d + 1) 163 [vI v0] hp =
  Rr (Cd d) 163 4 [some (vI v0), some (vI 1), some (vI 0)] [] hp := (Rr_blk (Cd d) 163 [4] 16 0 _ [] hp).trans rfl
set_option maxRecDepth 100000 in
theorem c163_4 (d : Nat) (v0 v1 v2 : Int) (hp : HP) : Rr (Cd d) 163 4 [some (vI v0), some (vI v1), some (vI v2)] [] hp =
  if v2 < v0 then
    Rr (Cd d) 163 4 [some (vI v0), some (vI (w32 (v1 * 3))), some (vI (w32 (v2 + 1)))] [] hp
  else
    some ([vI v1], hp) := (Rr_blk (Cd d) 163 [4] 16 4 _ _ hp).trans rfl
set_option maxRecDepth 100000 in
theorem c164 (d : Nat) (v0 v1 : Int) (hp : HP) : Cd (d + 1) 164 [vI v0, vI v1] hp =
  Rr (Cd d) 164 8 [some (vI v0), some (vI v1), some (vI 0), some (vI v0), some (vI (w32 (v1 - 1)))] [] hp := (Rr_blk (Cd d) 164 [8] 29 0 _ [] hp).trans rfl
set_option maxRecDepth 100000 in
theorem c164_8 (d : Nat) (v2 v3 v4 : Int) (o0 o1 : Option AV) (hp : HP) : Rr (Cd d) 164 8 [o0, o1, some (vI v2), some (vI v3), some (vI v4)] [] hp =
  if v4 < 0 then
    some ([vI v2], hp)
  else
    Rr (Cd d) 164 8 [o0, o1, some (vI (ior v2 (ishl (irem v3 3) (w32 (2 * v4))))), some (vI (idiv v3 3)), some (vI (w32 (v4 + (-1))))] [] hp := (Rr_blk (Cd d) 164 [8] 29 8 _ _ hp).trans rfl
set_option maxRecDepth 100000 in
theorem c165 (d : Nat) (v0 v1 : Int) (hp : HP) : Cd (d + 1) 165 [vI v0, vI v1] hp =
  some ([vI (iand (ishr v0 (w32 (2 * v1))) 3)], hp) := (Rr_blk (Cd d) 165 [] 9 0 _ [] hp).trans rfl
set_option maxRecDepth 100000 in
theorem c166 (d : Nat) (v0 v1 v2 : Int) (hp : HP) : Cd (d + 1) 166 [vI v0, vI v1, vI v2] hp =
  ((Cd d 165 [vI v0, vI v1] hp).bind toI).bind fun q1 =>
  ((Cd d 165 [vI v0, vI v2] q1.2).bind toI).bind fun q2 =>
  some ([vI (w32 (w32 (q1.1 * 3) + q2.1))], q2.2) := (Rr_blk (Cd d) 166 [] 11 0 _ [] hp).trans rfl
set_option maxRecDepth 100000 in
theorem c167 (d : Nat) (v0 v1 v2 : Int) (hp : HP) : Cd (d + 1) 167 [vI v0, vI v1, vI v2] hp =
  Rr (Cd d) 167 8 [some (vI v0), some (vI v1), some (vI v2), some (vI 0), some (vI 1), some (vI v0), some (vI 0)] [] hp := (Rr_blk (Cd d) 167 [8] 38 0 _ [] hp).trans rfl
set_option maxRecDepth 100000 in
theorem c167_8 (d : Nat) (v1 v2 v3 v4 v5 v6 : Int) (o0 : Option AV) (hp : HP) : Rr (Cd d) 167 8 [o0, some (vI v1), some (vI v2), some (vI v3), some (vI v4), some (vI v5), some (vI v6)] [] hp =
  if v6 < v1 then
    (gA hp 0 2 (w32 (w32 (v2 * 3) + (irem v5 3)))).bind fun x1 =>
    Rr (Cd d) 167 8 [o0, some (vI v1), some (vI v2), some (vI (w32 (v3 + (w32 (x1 * v4))))), some (vI (w32 (v4 * 3))), some (vI (idiv v5 3)), some (vI (w32 (v6 + 1)))] [] hp
  else
    some ([vI v3], hp) := (Rr_blk (Cd d) 167 [8] 38 8 _ _ hp).trans rfl
set_option maxRecDepth 100000 in
theorem c168 (d : Nat) (v0 v1 : Int) (hp : HP) : Cd (d + 1) 168 [vI v0, vI v1] hp =
  (gA hp 0 2 (w32 (w32 (v1 * 3) + (idiv v0 3)))).bind fun x1 =>
  (gA hp 0 2 (w32 (w32 (v1 * 3) + (irem v0 3)))).bind fun x2 =>
  some ([vI (w32 (w32 (x1 * 3) + x2))], hp) := (Rr_blk (Cd d) 168 [] 25 0 _ [] hp).trans rfl
set_option maxRecDepth 100000 in
theorem c169 (d : Nat) (v0 v1 : Int) (hp : HP) : Cd (d + 1) 169 [vI v0, vI v1] hp =
  if iand (ishr v0 v1) 1 = 1 then
    Rr (Cd d) 169 10 [some (vI v0), some (vI v1)] [vI 1] hp
  else
    Rr (Cd d) 169 10 [some (vI v0), some (vI v1)] [vI 0] hp := (Rr_blk (Cd d) 169 [10] 12 0 _ [] hp).trans rfl
set_option maxRecDepth 100000 in
theorem c169_10 (d : Nat) (s0 : Int) (o0 o1 : Option AV) (hp : HP) : Rr (Cd d) 169 10 [o0, o1] [vI s0] hp =
  if s0 = 0 ∨ s0 = 1 then some ([vI s0], hp) else none := (Rr_blk (Cd d) 169 [10] 12 10 _ _ hp).trans rfl
