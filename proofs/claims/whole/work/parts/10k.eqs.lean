/-! the methods as equations, written by a program -/
set_option maxRecDepth 100000 in
theorem c302 (d : Nat) (v0 : Int) (hp : HP) : Cd (d + 1) 302 [vA v0] hp =
  ((Cd d 116 [vA ((hp.1.length : Int))] (mk hp 11 7)).bind toV).bind fun q1 =>
  ((Cd d 170 [vA ((q1.1.length : Int))] (mk q1 12 44)).bind toV).bind fun q2 =>
  Rr (Cd d) 302 10 [some (vA v0), some (vA ((hp.1.length : Int))), some (vA ((q1.1.length : Int))), some (vI 0)] [] q2 := (Rr_blk (Cd d) 302 [10, 1054] 1059 0 _ [] hp).trans rfl
set_option maxRecDepth 100000 in
theorem c302_10 (d : Nat) (v0 v1 v2 v3 : Int) (hp : HP) : Rr (Cd d) 302 10 [some (vA v0), some (vA v1), some (vA v2), some (vI v3)] [] hp =
  (gL hp v0).bind fun x1 =>
  if w32 (x1 - 6) < v3 then
    some ([vI 1], hp)
  else
    (gA hp 0 v0 v3).bind fun x2 =>
    if iand x2 63 = 0 then
      (gA hp 0 v0 (w32 (v3 + 1))).bind fun x3 =>
      ((Cd d 117 [vA v1, vI x3] hp).bind toI).bind fun q4 =>
      (gA q4.2 0 v0 (w32 (v3 + 1))).bind fun x5 =>
      ((Cd d 175 [vA v2, vI x5] q4.2).bind toI).bind fun q6 =>
      if q4.1 = q6.1 then
        Rr (Cd d) 302 1054 [some (vA v0), some (vA v1), some (vA v2), some (vI v3)] [] q6.2
      else
        some ([vI 0], q6.2)
    else
    if iand x2 63 = 1 then
      (gA hp 0 v0 (w32 (v3 + 1))).bind fun x7 =>
      (gA hp 0 v0 (w32 (v3 + 2))).bind fun x8 =>
      (gA hp 0 v0 (w32 (v3 + 3))).bind fun x9 =>
      ((Cd d 118 [vA v1, vI x7, vI x8, vI x9] hp).bind toI).bind fun q10 =>
      (gA q10.2 0 v0 (w32 (v3 + 1))).bind fun x11 =>
      (gA q10.2 0 v0 (w32 (v3 + 2))).bind fun x12 =>
      (gA q10.2 0 v0 (w32 (v3 + 3))).bind fun x13 =>
      ((Cd d 179 [vA v2, vI x11, vI x12, vI x13] q10.2).bind toI).bind fun q14 =>
      if q10.1 = q14.1 then
        Rr (Cd d) 302 1054 [some (vA v0), some (vA v1), some (vA v2), some (vI v3)] [] q14.2
      else
        some ([vI 0], q14.2)
    else
    if iand x2 63 = 2 then
      (gA hp 0 v0 (w32 (v3 + 1))).bind fun x15 =>
      (gA hp 0 v0 (w32 (v3 + 2))).bind fun x16 =>
      ((Cd d 119 [vA v1, vI x15, vI x16] hp).bind toI).bind fun q17 =>
      (gA q17.2 0 v0 (w32 (v3 + 1))).bind fun x18 =>
      (gA q17.2 0 v0 (w32 (v3 + 2))).bind fun x19 =>
      ((Cd d 184 [vA v2, vI x18, vI x19] q17.2).bind toI).bind fun q20 =>
      if q17.1 = q20.1 then
        Rr (Cd d) 302 1054 [some (vA v0), some (vA v1), some (vA v2), some (vI v3)] [] q20.2
      else
        some ([vI 0], q20.2)
    else
    if iand x2 63 = 3 then
      (gA hp 0 v0 (w32 (v3 + 1))).bind fun x21 =>
      (gA hp 0 v0 (w32 (v3 + 2))).bind fun x22 =>
      (gA hp 0 v0 (w32 (v3 + 3))).bind fun x23 =>
      ((Cd d 120 [vA v1, vI x21, vI x22, vI x23] hp).bind toI).bind fun q24 =>
      (gA q24.2 0 v0 (w32 (v3 + 1))).bind fun x25 =>
      (gA q24.2 0 v0 (w32 (v3 + 2))).bind fun x26 =>
      (gA q24.2 0 v0 (w32 (v3 + 3))).bind fun x27 =>
      ((Cd d 186 [vA v2, vI x25, vI x26, vI x27] q24.2).bind toI).bind fun q28 =>
      if q24.1 = q28.1 then
        Rr (Cd d) 302 1054 [some (vA v0), some (vA v1), some (vA v2), some (vI v3)] [] q28.2
      else
        some ([vI 0], q28.2)
    else
    if iand x2 63 = 4 then
      (gA hp 0 v0 (w32 (v3 + 1))).bind fun x29 =>
      ((Cd d 121 [vA v1, vI x29] hp).bind toI).bind fun q30 =>
      (gA q30.2 0 v0 (w32 (v3 + 1))).bind fun x31 =>
      ((Cd d 189 [vA v2, vI x31] q30.2).bind toI).bind fun q32 =>
      if q30.1 = q32.1 then
        Rr (Cd d) 302 1054 [some (vA v0), some (vA v1), some (vA v2), some (vI v3)] [] q32.2
      else
        some ([vI 0], q32.2)
    else
    if iand x2 63 = 5 then
      (gA hp 0 v0 (w32 (v3 + 1))).bind fun x33 =>
      (gA hp 0 v0 (w32 (v3 + 2))).bind fun x34 =>
      (gA hp 0 v0 (w32 (v3 + 3))).bind fun x35 =>
      ((Cd d 122 [vA v1, vI x33, vI x34, vI x35] hp).bind toI).bind fun q36 =>
      (gA q36.2 0 v0 (w32 (v3 + 1))).bind fun x37 =>
      (gA q36.2 0 v0 (w32 (v3 + 2))).bind fun x38 =>
      (gA q36.2 0 v0 (w32 (v3 + 3))).bind fun x39 =>
      ((Cd d 191 [vA v2, vI x37, vI x38, vI x39] q36.2).bind toI).bind fun q40 =>
      if q36.1 = q40.1 then
        Rr (Cd d) 302 1054 [some (vA v0), some (vA v1), some (vA v2), some (vI v3)] [] q40.2
      else
        some ([vI 0], q40.2)
    else
    if iand x2 63 = 6 then
      (gA hp 0 v0 (w32 (v3 + 1))).bind fun x41 =>
      (gA hp 0 v0 (w32 (v3 + 2))).bind fun x42 =>
      (gA hp 0 v0 (w32 (v3 + 3))).bind fun x43 =>
      (gA hp 0 v0 (w32 (v3 + 4))).bind fun x44 =>
      (gA hp 0 v0 (w32 (v3 + 5))).bind fun x45 =>
      ((Cd d 123 [vA v1, vI x41, vI x42, vI x43, vI x44, vI x45] hp).bind toI).bind fun q46 =>
      (gA q46.2 0 v0 (w32 (v3 + 1))).bind fun x47 =>
      (gA q46.2 0 v0 (w32 (v3 + 2))).bind fun x48 =>
      (gA q46.2 0 v0 (w32 (v3 + 3))).bind fun x49 =>
      (gA q46.2 0 v0 (w32 (v3 + 4))).bind fun x50 =>
      (gA q46.2 0 v0 (w32 (v3 + 5))).bind fun x51 =>
      ((Cd d 193 [vA v2, vI x47, vI x48, vI x49, vI x50, vI x51] q46.2).bind toI).bind fun q52 =>
      if q46.1 = q52.1 then
        Rr (Cd d) 302 1054 [some (vA v0), some (vA v1), some (vA v2), some (vI v3)] [] q52.2
      else
        some ([vI 0], q52.2)
    else
    if iand x2 63 = 7 then
      (gA hp 0 v0 (w32 (v3 + 1))).bind fun x53 =>
      ((Cd d 124 [vA v1, vI x53] hp).bind toI).bind fun q54 =>
      (gA q54.2 0 v0 (w32 (v3 + 1))).bind fun x55 =>
      ((Cd d 194 [vA v2, vI x55] q54.2).bind toI).bind fun q56 =>
      if q54.1 = q56.1 then
        Rr (Cd d) 302 1054 [some (vA v0), some (vA v1), some (vA v2), some (vI v3)] [] q56.2
      else
        some ([vI 0], q56.2)
    else
    if iand x2 63 = 8 then
      ((Cd d 125 [vA v1] hp).bind toI).bind fun q57 =>
      ((Cd d 219 [vA v2] q57.2).bind toI).bind fun q58 =>
      if q57.1 = q58.1 then
        Rr (Cd d) 302 1054 [some (vA v0), some (vA v1), some (vA v2), some (vI v3)] [] q58.2
      else
        some ([vI 0], q58.2)
    else
    if iand x2 63 = 9 then
      (gA hp 0 v0 (w32 (v3 + 1))).bind fun x59 =>
      ((Cd d 126 [vA v1, vI x59] hp).bind toI).bind fun q60 =>
      (gA q60.2 0 v0 (w32 (v3 + 1))).bind fun x61 =>
      ((Cd d 220 [vA v2, vI x61] q60.2).bind toI).bind fun q62 =>
      if q60.1 = q62.1 then
        Rr (Cd d) 302 1054 [some (vA v0), some (vA v1), some (vA v2), some (vI v3)] [] q62.2
      else
        some ([vI 0], q62.2)
    else
    if iand x2 63 = 10 then
      (gA hp 0 v0 (w32 (v3 + 1))).bind fun x63 =>
      (gA hp 0 v0 (w32 (v3 + 2))).bind fun x64 =>
      (gA hp 0 v0 (w32 (v3 + 3))).bind fun x65 =>
      (gA hp 0 v0 (w32 (v3 + 4))).bind fun x66 =>
      (gA hp 0 v0 (w32 (v3 + 5))).bind fun x67 =>
      ((Cd d 127 [vA v1, vI x63, vI x64, vI x65, vI x66, vI x67] hp).bind toI).bind fun q68 =>
      (gA q68.2 0 v0 (w32 (v3 + 1))).bind fun x69 =>
      (gA q68.2 0 v0 (w32 (v3 + 2))).bind fun x70 =>
      (gA q68.2 0 v0 (w32 (v3 + 3))).bind fun x71 =>
      (gA q68.2 0 v0 (w32 (v3 + 4))).bind fun x72 =>
      (gA q68.2 0 v0 (w32 (v3 + 5))).bind fun x73 =>
      ((Cd d 233 [vA v2, vI x69, vI x70, vI x71, vI x72, vI x73] q68.2).bind toI).bind fun q74 =>
      if q68.1 = q74.1 then
        Rr (Cd d) 302 1054 [some (vA v0), some (vA v1), some (vA v2), some (vI v3)] [] q74.2
      else
        some ([vI 0], q74.2)
    else
    if iand x2 63 = 11 then
      (gA hp 0 v0 (w32 (v3 + 1))).bind fun x75 =>
      (gA hp 0 v0 (w32 (v3 + 2))).bind fun x76 =>
      (gA hp 0 v0 (w32 (v3 + 3))).bind fun x77 =>
      ((Cd d 128 [vA v1, vI x75, vI x76, vI x77] hp).bind toI).bind fun q78 =>
      (gA q78.2 0 v0 (w32 (v3 + 1))).bind fun x79 =>
      (gA q78.2 0 v0 (w32 (v3 + 2))).bind fun x80 =>
      (gA q78.2 0 v0 (w32 (v3 + 3))).bind fun x81 =>
      ((Cd d 235 [vA v2, vI x79, vI x80, vI x81] q78.2).bind toI).bind fun q82 =>
      if q78.1 = q82.1 then
        Rr (Cd d) 302 1054 [some (vA v0), some (vA v1), some (vA v2), some (vI v3)] [] q82.2
      else
        some ([vI 0], q82.2)
    else
    if iand x2 63 = 12 then
      (gA hp 0 v0 (w32 (v3 + 1))).bind fun x83 =>
      (gA hp 0 v0 (w32 (v3 + 2))).bind fun x84 =>
      (gA hp 0 v0 (w32 (v3 + 3))).bind fun x85 =>
      ((Cd d 129 [vA v1, vI x83, vI x84, vI x85] hp).bind toI).bind fun q86 =>
      (gA q86.2 0 v0 (w32 (v3 + 1))).bind fun x87 =>
      (gA q86.2 0 v0 (w32 (v3 + 2))).bind fun x88 =>
      (gA q86.2 0 v0 (w32 (v3 + 3))).bind fun x89 =>
      ((Cd d 237 [vA v2, vI x87, vI x88, vI x89] q86.2).bind toI).bind fun q90 =>
      if q86.1 = q90.1 then
        Rr (Cd d) 302 1054 [some (vA v0), some (vA v1), some (vA v2), some (vI v3)] [] q90.2
      else
        some ([vI 0], q90.2)
    else
    if iand x2 63 = 13 then
      (gA hp 0 v0 (w32 (v3 + 1))).bind fun x91 =>
      (gA hp 0 v0 (w32 (v3 + 2))).bind fun x92 =>
      (gA hp 0 v0 (w32 (v3 + 3))).bind fun x93 =>
      ((Cd d 130 [vA v1, vI x91, vI x92, vI x93] hp).bind toI).bind fun q94 =>
      (gA q94.2 0 v0 (w32 (v3 + 1))).bind fun x95 =>
      (gA q94.2 0 v0 (w32 (v3 + 2))).bind fun x96 =>
      (gA q94.2 0 v0 (w32 (v3 + 3))).bind fun x97 =>
      ((Cd d 240 [vA v2, vI x95, vI x96, vI x97] q94.2).bind toI).bind fun q98 =>
      if q94.1 = q98.1 then
        Rr (Cd d) 302 1054 [some (vA v0), some (vA v1), some (vA v2), some (vI v3)] [] q98.2
      else
        some ([vI 0], q98.2)
    else
    if iand x2 63 = 14 then
      (gA hp 0 v0 (w32 (v3 + 1))).bind fun x99 =>
      (gA hp 0 v0 (w32 (v3 + 2))).bind fun x100 =>
      (gA hp 0 v0 (w32 (v3 + 3))).bind fun x101 =>
      (gA hp 0 v0 (w32 (v3 + 4))).bind fun x102 =>
      ((Cd d 131 [vA v1, vI x99, vI x100, vI x101, vI x102] hp).bind toI).bind fun q103 =>
      (gA q103.2 0 v0 (w32 (v3 + 1))).bind fun x104 =>
      (gA q103.2 0 v0 (w32 (v3 + 2))).bind fun x105 =>
      (gA q103.2 0 v0 (w32 (v3 + 3))).bind fun x106 =>
      (gA q103.2 0 v0 (w32 (v3 + 4))).bind fun x107 =>
      ((Cd d 246 [vA v2, vI x104, vI x105, vI x106, vI x107] q103.2).bind toI).bind fun q108 =>
      if q103.1 = q108.1 then
        Rr (Cd d) 302 1054 [some (vA v0), some (vA v1), some (vA v2), some (vI v3)] [] q108.2
      else
        some ([vI 0], q108.2)
    else
    if iand x2 63 = 15 then
      (gA hp 0 v0 (w32 (v3 + 1))).bind fun x109 =>
      (gA hp 0 v0 (w32 (v3 + 2))).bind fun x110 =>
      (gA hp 0 v0 (w32 (v3 + 3))).bind fun x111 =>
      ((Cd d 132 [vA v1, vI x109, vI x110, vI x111] hp).bind toI).bind fun q112 =>
      (gA q112.2 0 v0 (w32 (v3 + 1))).bind fun x113 =>
      (gA q112.2 0 v0 (w32 (v3 + 2))).bind fun x114 =>
      (gA q112.2 0 v0 (w32 (v3 + 3))).bind fun x115 =>
      ((Cd d 247 [vA v2, vI x113, vI x114, vI x115] q112.2).bind toI).bind fun q116 =>
      if q112.1 = q116.1 then
        Rr (Cd d) 302 1054 [some (vA v0), some (vA v1), some (vA v2), some (vI v3)] [] q116.2
      else
        some ([vI 0], q116.2)
    else
    if iand x2 63 = 16 then
      (gA hp 0 v0 (w32 (v3 + 1))).bind fun x117 =>
      (gA hp 0 v0 (w32 (v3 + 2))).bind fun x118 =>
      (gA hp 0 v0 (w32 (v3 + 3))).bind fun x119 =>
      ((Cd d 133 [vA v1, vI x117, vI x118, vI x119] hp).bind toL).bind fun q120 =>
      (gA q120.2 0 v0 (w32 (v3 + 1))).bind fun x121 =>
      (gA q120.2 0 v0 (w32 (v3 + 2))).bind fun x122 =>
      (gA q120.2 0 v0 (w32 (v3 + 3))).bind fun x123 =>
      ((Cd d 251 [vA v2, vI x121, vI x122, vI x123] q120.2).bind toL).bind fun q124 =>
      if lcmp q120.1 q124.1 = 0 then
        Rr (Cd d) 302 1054 [some (vA v0), some (vA v1), some (vA v2), some (vI v3)] [] q124.2
      else
        some ([vI 0], q124.2)
    else
    if iand x2 63 = 17 then
      (gA hp 0 v0 (w32 (v3 + 1))).bind fun x125 =>
      (gA hp 0 v0 (w32 (v3 + 2))).bind fun x126 =>
      (gA hp 0 v0 (w32 (v3 + 3))).bind fun x127 =>
      ((Cd d 134 [vA v1, vI x125, vI x126, vI x127] hp).bind toI).bind fun q128 =>
      (gA q128.2 0 v0 (w32 (v3 + 1))).bind fun x129 =>
      (gA q128.2 0 v0 (w32 (v3 + 2))).bind fun x130 =>
      (gA q128.2 0 v0 (w32 (v3 + 3))).bind fun x131 =>
      ((Cd d 253 [vA v2, vI x129, vI x130, vI x131] q128.2).bind toI).bind fun q132 =>
      if q128.1 = q132.1 then
        Rr (Cd d) 302 1054 [some (vA v0), some (vA v1), some (vA v2), some (vI v3)] [] q132.2
      else
        some ([vI 0], q132.2)
    else
    if iand x2 63 = 18 then
      (gA hp 0 v0 (w32 (v3 + 1))).bind fun x133 =>
      (gA hp 0 v0 (w32 (v3 + 2))).bind fun x134 =>
      (gA hp 0 v0 (w32 (v3 + 3))).bind fun x135 =>
      ((Cd d 135 [vA v1, vI x133, vI x134, vI x135] hp).bind toI).bind fun q136 =>
      (gA q136.2 0 v0 (w32 (v3 + 1))).bind fun x137 =>
      (gA q136.2 0 v0 (w32 (v3 + 2))).bind fun x138 =>
      (gA q136.2 0 v0 (w32 (v3 + 3))).bind fun x139 =>
      ((Cd d 254 [vA v2, vI x137, vI x138, vI x139] q136.2).bind toI).bind fun q140 =>
      if q136.1 = q140.1 then
        Rr (Cd d) 302 1054 [some (vA v0), some (vA v1), some (vA v2), some (vI v3)] [] q140.2
      else
        some ([vI 0], q140.2)
    else
    if iand x2 63 = 19 then
      (gA hp 0 v0 (w32 (v3 + 1))).bind fun x141 =>
      ((Cd d 136 [vA v1, vI x141] hp).bind toI).bind fun q142 =>
      (gA q142.2 0 v0 (w32 (v3 + 1))).bind fun x143 =>
      ((Cd d 256 [vA v2, vI x143] q142.2).bind toI).bind fun q144 =>
      if q142.1 = q144.1 then
        Rr (Cd d) 302 1054 [some (vA v0), some (vA v1), some (vA v2), some (vI v3)] [] q144.2
      else
        some ([vI 0], q144.2)
    else
    if iand x2 63 = 20 then
      (gA hp 0 v0 (w32 (v3 + 1))).bind fun x145 =>
      ((Cd d 137 [vA v1, vI x145] hp).bind toI).bind fun q146 =>
      (gA q146.2 0 v0 (w32 (v3 + 1))).bind fun x147 =>
      ((Cd d 258 [vA v2, vI x147] q146.2).bind toI).bind fun q148 =>
      if q146.1 = q148.1 then
        Rr (Cd d) 302 1054 [some (vA v0), some (vA v1), some (vA v2), some (vI v3)] [] q148.2
      else
        some ([vI 0], q148.2)
    else
    if iand x2 63 = 21 then
      (gA hp 0 v0 (w32 (v3 + 1))).bind fun x149 =>
      (gA hp 0 v0 (w32 (v3 + 2))).bind fun x150 =>
      (gA hp 0 v0 (w32 (v3 + 3))).bind fun x151 =>
      (gA hp 0 v0 (w32 (v3 + 4))).bind fun x152 =>
      (gA hp 0 v0 (w32 (v3 + 5))).bind fun x153 =>
      ((Cd d 138 [vA v1, vI x149, vI x150, vI x151, vI x152, vI x153] hp).bind toI).bind fun q154 =>
      (gA q154.2 0 v0 (w32 (v3 + 1))).bind fun x155 =>
      (gA q154.2 0 v0 (w32 (v3 + 2))).bind fun x156 =>
      (gA q154.2 0 v0 (w32 (v3 + 3))).bind fun x157 =>
      (gA q154.2 0 v0 (w32 (v3 + 4))).bind fun x158 =>
      (gA q154.2 0 v0 (w32 (v3 + 5))).bind fun x159 =>
      ((Cd d 259 [vA v2, vI x155, vI x156, vI x157, vI x158, vI x159] q154.2).bind toI).bind fun q160 =>
      if q154.1 = q160.1 then
        Rr (Cd d) 302 1054 [some (vA v0), some (vA v1), some (vA v2), some (vI v3)] [] q160.2
      else
        some ([vI 0], q160.2)
    else
    if iand x2 63 = 22 then
      (gA hp 0 v0 (w32 (v3 + 1))).bind fun x161 =>
      (gA hp 0 v0 (w32 (v3 + 2))).bind fun x162 =>
      ((Cd d 139 [vA v1, vI x161, vI x162] hp).bind toI).bind fun q163 =>
      (gA q163.2 0 v0 (w32 (v3 + 1))).bind fun x164 =>
      (gA q163.2 0 v0 (w32 (v3 + 2))).bind fun x165 =>
      ((Cd d 261 [vA v2, vI x164, vI x165] q163.2).bind toI).bind fun q166 =>
      if q163.1 = q166.1 then
        Rr (Cd d) 302 1054 [some (vA v0), some (vA v1), some (vA v2), some (vI v3)] [] q166.2
      else
        some ([vI 0], q166.2)
    else
    if iand x2 63 = 23 then
      (gA hp 0 v0 (w32 (v3 + 1))).bind fun x167 =>
      ((Cd d 140 [vA v1, vI x167] hp).bind toI).bind fun q168 =>
      (gA q168.2 0 v0 (w32 (v3 + 1))).bind fun x169 =>
      ((Cd d 265 [vA v2, vI x169] q168.2).bind toI).bind fun q170 =>
      if q168.1 = q170.1 then
        Rr (Cd d) 302 1054 [some (vA v0), some (vA v1), some (vA v2), some (vI v3)] [] q170.2
      else
        some ([vI 0], q170.2)
    else
    if iand x2 63 = 24 then
      (gA hp 0 v0 (w32 (v3 + 1))).bind fun x171 =>
      (gA hp 0 v0 (w32 (v3 + 2))).bind fun x172 =>
      (gA hp 0 v0 (w32 (v3 + 3))).bind fun x173 =>
      (gA hp 0 v0 (w32 (v3 + 4))).bind fun x174 =>
      (gA hp 0 v0 (w32 (v3 + 5))).bind fun x175 =>
      ((Cd d 141 [vA v1, vI x171, vI x172, vI x173, vI x174, vI x175] hp).bind toI).bind fun q176 =>
      (gA q176.2 0 v0 (w32 (v3 + 1))).bind fun x177 =>
      (gA q176.2 0 v0 (w32 (v3 + 2))).bind fun x178 =>
      (gA q176.2 0 v0 (w32 (v3 + 3))).bind fun x179 =>
      (gA q176.2 0 v0 (w32 (v3 + 4))).bind fun x180 =>
      (gA q176.2 0 v0 (w32 (v3 + 5))).bind fun x181 =>
      ((Cd d 266 [vA v2, vI x177, vI x178, vI x179, vI x180, vI x181] q176.2).bind toI).bind fun q182 =>
      if q176.1 = q182.1 then
        Rr (Cd d) 302 1054 [some (vA v0), some (vA v1), some (vA v2), some (vI v3)] [] q182.2
      else
        some ([vI 0], q182.2)
    else
    if iand x2 63 = 25 then
      (gA hp 0 v0 (w32 (v3 + 1))).bind fun x183 =>
      (gA hp 0 v0 (w32 (v3 + 2))).bind fun x184 =>
      (gA hp 0 v0 (w32 (v3 + 3))).bind fun x185 =>
      (gA hp 0 v0 (w32 (v3 + 4))).bind fun x186 =>
      (gA hp 0 v0 (w32 (v3 + 5))).bind fun x187 =>
      ((Cd d 142 [vA v1, vI x183, vI x184, vI x185, vI x186, vI x187] hp).bind toI).bind fun q188 =>
      (gA q188.2 0 v0 (w32 (v3 + 1))).bind fun x189 =>
      (gA q188.2 0 v0 (w32 (v3 + 2))).bind fun x190 =>
      (gA q188.2 0 v0 (w32 (v3 + 3))).bind fun x191 =>
      (gA q188.2 0 v0 (w32 (v3 + 4))).bind fun x192 =>
      (gA q188.2 0 v0 (w32 (v3 + 5))).bind fun x193 =>
      ((Cd d 267 [vA v2, vI x189, vI x190, vI x191, vI x192, vI x193] q188.2).bind toI).bind fun q194 =>
      if q188.1 = q194.1 then
        Rr (Cd d) 302 1054 [some (vA v0), some (vA v1), some (vA v2), some (vI v3)] [] q194.2
      else
        some ([vI 0], q194.2)
    else
    if iand x2 63 = 26 then
      (gA hp 0 v0 (w32 (v3 + 1))).bind fun x195 =>
      ((Cd d 143 [vA v1, vI x195] hp).bind toI).bind fun q196 =>
      (gA q196.2 0 v0 (w32 (v3 + 1))).bind fun x197 =>
      ((Cd d 268 [vA v2, vI x197] q196.2).bind toI).bind fun q198 =>
      if q196.1 = q198.1 then
        Rr (Cd d) 302 1054 [some (vA v0), some (vA v1), some (vA v2), some (vI v3)] [] q198.2
      else
        some ([vI 0], q198.2)
    else
    if iand x2 63 = 27 then
      (gA hp 0 v0 (w32 (v3 + 1))).bind fun x199 =>
      (gA hp 0 v0 (w32 (v3 + 2))).bind fun x200 =>
      (gA hp 0 v0 (w32 (v3 + 3))).bind fun x201 =>
      ((Cd d 144 [vA v1, vI x199, vI x200, vI x201] hp).bind toI).bind fun q202 =>
      (gA q202.2 0 v0 (w32 (v3 + 1))).bind fun x203 =>
      (gA q202.2 0 v0 (w32 (v3 + 2))).bind fun x204 =>
      (gA q202.2 0 v0 (w32 (v3 + 3))).bind fun x205 =>
      ((Cd d 270 [vA v2, vI x203, vI x204, vI x205] q202.2).bind toI).bind fun q206 =>
      if q202.1 = q206.1 then
        Rr (Cd d) 302 1054 [some (vA v0), some (vA v1), some (vA v2), some (vI v3)] [] q206.2
      else
        some ([vI 0], q206.2)
    else
    if iand x2 63 = 28 then
      (gA hp 0 v0 (w32 (v3 + 1))).bind fun x207 =>
      ((Cd d 145 [vA v1, vI x207] hp).bind toI).bind fun q208 =>
      (gA q208.2 0 v0 (w32 (v3 + 1))).bind fun x209 =>
      ((Cd d 275 [vA v2, vI x209] q208.2).bind toI).bind fun q210 =>
      if q208.1 = q210.1 then
        Rr (Cd d) 302 1054 [some (vA v0), some (vA v1), some (vA v2), some (vI v3)] [] q210.2
      else
        some ([vI 0], q210.2)
    else
    if iand x2 63 = 29 then
      (gA hp 0 v0 (w32 (v3 + 1))).bind fun x211 =>
      (gA hp 0 v0 (w32 (v3 + 2))).bind fun x212 =>
      (gA hp 0 v0 (w32 (v3 + 3))).bind fun x213 =>
      (gA hp 0 v0 (w32 (v3 + 4))).bind fun x214 =>
      ((Cd d 146 [vA v1, vI x211, vI x212, vI x213, vI x214] hp).bind toI).bind fun q215 =>
      (gA q215.2 0 v0 (w32 (v3 + 1))).bind fun x216 =>
      (gA q215.2 0 v0 (w32 (v3 + 2))).bind fun x217 =>
      (gA q215.2 0 v0 (w32 (v3 + 3))).bind fun x218 =>
      (gA q215.2 0 v0 (w32 (v3 + 4))).bind fun x219 =>
      ((Cd d 278 [vA v2, vI x216, vI x217, vI x218, vI x219] q215.2).bind toI).bind fun q220 =>
      if q215.1 = q220.1 then
        Rr (Cd d) 302 1054 [some (vA v0), some (vA v1), some (vA v2), some (vI v3)] [] q220.2
      else
        some ([vI 0], q220.2)
    else
    if iand x2 63 = 30 then
      ((Cd d 147 [vA v1] hp).bind toI).bind fun q221 =>
      ((Cd d 279 [vA v2] q221.2).bind toI).bind fun q222 =>
      if q221.1 = q222.1 then
        Rr (Cd d) 302 1054 [some (vA v0), some (vA v1), some (vA v2), some (vI v3)] [] q222.2
      else
        some ([vI 0], q222.2)
    else
    if iand x2 63 = 31 then
      ((Cd d 148 [vA v1] hp).bind toI).bind fun q223 =>
      ((Cd d 280 [vA v2] q223.2).bind toI).bind fun q224 =>
      if q223.1 = q224.1 then
        Rr (Cd d) 302 1054 [some (vA v0), some (vA v1), some (vA v2), some (vI v3)] [] q224.2
      else
        some ([vI 0], q224.2)
    else
    if iand x2 63 = 32 then
      (gA hp 0 v0 (w32 (v3 + 1))).bind fun x225 =>
      ((Cd d 149 [vA v1, vI x225] hp).bind toI).bind fun q226 =>
      (gA q226.2 0 v0 (w32 (v3 + 1))).bind fun x227 =>
      ((Cd d 282 [vA v2, vI x227] q226.2).bind toI).bind fun q228 =>
      if q226.1 = q228.1 then
        Rr (Cd d) 302 1054 [some (vA v0), some (vA v1), some (vA v2), some (vI v3)] [] q228.2
      else
        some ([vI 0], q228.2)
    else
    Rr (Cd d) 302 1054 [some (vA v0), some (vA v1), some (vA v2), some (vI v3)] [] hp := (Rr_blk (Cd d) 302 [10, 1054] 1059 10 _ _ hp).trans rfl
set_option maxRecDepth 100000 in
theorem c302_1054 (d : Nat) (v0 v1 v2 v3 : Int) (hp : HP) : Rr (Cd d) 302 1054 [some (vA v0), some (vA v1), some (vA v2), some (vI v3)] [] hp =
  Rr (Cd d) 302 10 [some (vA v0), some (vA v1), some (vA v2), some (vI (w32 (v3 + 6)))] [] hp := (Rr_blk (Cd d) 302 [10, 1054] 1059 1054 _ _ hp).trans rfl
