/-! A machine of whole numbers: the bytecode of all methods as tables of six-tuples (op, a, b, c, x, z); the heap as a shape (tag and length of each cell) and what lies in each cell as a whole number. A reference is the number of its cell, none is -1. -/
abbrev AV : Type := Int ⊕ Int ⊕ Int
abbrev vI (z : Int) : AV := Sum.inl z
abbrev vL (z : Int) : AV := Sum.inr (Sum.inl z)
abbrev vA (z : Int) : AV := Sum.inr (Sum.inr z)
abbrev HP : Type := List (Nat × Nat) × (Nat → Nat → Int)
abbrev RT : Type := List AV × HP
abbrev RI : Type := Nat × Nat × Nat × Nat × Nat × Int
abbrev LVs : Type := List (Option AV)
abbrev KT : Type := Nat → LVs → List AV → HP → Option RT
def w32 (z : Int) : Int := (Int32.ofInt z).toInt
def w64 (z : Int) : Int := (Int64.ofInt z).toInt
def iand (x y : Int) : Int := (Int32.ofInt x &&& Int32.ofInt y).toInt
def ior (x y : Int) : Int := (Int32.ofInt x ||| Int32.ofInt y).toInt
def ixor (x y : Int) : Int := (Int32.ofInt x ^^^ Int32.ofInt y).toInt
def ishl (x y : Int) : Int := (Int32.ofInt x <<< (Int32.ofInt y &&& 31)).toInt
def ishr (x y : Int) : Int := (Int32.ofInt x >>> (Int32.ofInt y &&& 31)).toInt
def iushr (x y : Int) : Int := (((Int32.ofInt x).toUInt32 >>> ((Int32.ofInt y).toUInt32 &&& Int32.toUInt32 31)).toInt32).toInt
def idiv (x y : Int) : Int := (Int32.ofInt x / Int32.ofInt y).toInt
def irem (x y : Int) : Int := (Int32.ofInt x % Int32.ofInt y).toInt
def lland (x y : Int) : Int := (Int64.ofInt x &&& Int64.ofInt y).toInt
def llor (x y : Int) : Int := (Int64.ofInt x ||| Int64.ofInt y).toInt
def llshl (x y : Int) : Int := (Int64.ofInt x <<< ((Int32.ofInt y).toInt64 &&& 63)).toInt
def lldiv (x y : Int) : Int := (Int64.ofInt x / Int64.ofInt y).toInt
def llrem (x y : Int) : Int := (Int64.ofInt x % Int64.ofInt y).toInt
def i2c (x : Int) : Int := (((Int32.ofInt x).toUInt32 % 65536).toInt32).toInt
def i2b (x : Int) : Int := ((Int32.ofInt x).toInt8.toInt32).toInt
def lcmp (x y : Int) : Int := if y < x then 1 else if x = y then 0 else -1
/-- the heap -/
def u2 (c : Nat → Nat → Int) (i k : Nat) (v : Int) : Nat → Nat → Int := fun i' k' => if i' = i ∧ k' = k then v else c i' k'
def gS (hp : HP) (o : Int) : Option (Nat × Nat) := if o < 0 then none else hp.1[o.toNat]?
def gF (hp : HP) (tg k : Nat) (o : Int) : Option Int := (gS hp o).bind fun q => if q.1 = tg ∧ k < q.2 then some (hp.2 o.toNat k) else none
def pF (hp : HP) (tg k : Nat) (o v : Int) : Option HP := (gS hp o).bind fun q => if q.1 = tg ∧ k < q.2 then some (hp.1, u2 hp.2 o.toNat k v) else none
def gA (hp : HP) (a : Nat) (o i : Int) : Option Int := (gS hp o).bind fun q => if (q.1 = 100 + a ∨ q.1 = 110 + a) ∧ 0 ≤ i ∧ i < q.2 then some (hp.2 o.toNat i.toNat) else none
def pA (hp : HP) (a : Nat) (o i v : Int) : Option HP := (gS hp o).bind fun q => if q.1 = 100 + a ∧ 0 ≤ i ∧ i < q.2 then some (hp.1, u2 hp.2 o.toNat i.toNat v) else none
def gR (hp : HP) (o i : Int) : Option Int := (gS hp o).bind fun q => if (q.1 = 103 ∨ q.1 = 104) ∧ 0 ≤ i ∧ i < q.2 then some (hp.2 o.toNat i.toNat) else none
/-- a reference of a class laid into an array of that class (tag 103: class 1; tag 104: class 8) -/
def pR (hp : HP) (o i v : Int) : Option HP := (gS hp o).bind fun q => (gS hp v).bind fun q2 => if ((q.1 = 103 ∧ q2.1 = 1) ∨ (q.1 = 104 ∧ q2.1 = 8)) ∧ 0 ≤ i ∧ i < q.2 then some (hp.1, u2 hp.2 o.toNat i.toNat v) else none
def gL (hp : HP) (o : Int) : Option Int := (gS hp o).bind fun q => if 100 ≤ q.1 then some (q.2 : Int) else none
/-- which fields are references: the default is none -/
def knds : List (List Nat) := [[0, 0, 0], [2, 2, 2, 2, 0, 0, 2, 2, 0, 3], [2, 2, 2, 0, 0, 0, 0, 0], [0, 0, 0, 0, 0], [2, 2, 2, 2, 2, 2, 0, 3, 0, 0, 3, 0, 0, 0, 0, 0, 0], [2, 0], [2, 2, 2, 2, 2, 0, 0, 0, 0, 0, 0, 0, 0, 3], [2, 0, 0], [2, 0, 0, 3], [2, 2], [2, 2, 2, 2, 2, 2, 0, 0], [2, 2, 2, 2, 2, 2, 2], [2, 2, 2, 2, 2, 2, 0, 2, 2, 0, 0, 0, 0, 0, 0, 0, 1, 0, 0, 0, 0, 2, 0, 0, 3, 0, 0, 0, 3, 2, 2, 2, 0, 0, 0, 0, 0, 2, 2, 2, 2, 0, 0, 0]]
def kd (t k : Nat) : Nat := if t = 103 ∨ t = 104 then 2 else ((knds[t]?).getD []).getD k 0
def dfl (t k : Nat) : Int := if kd t k = 2 then -1 else 0
def mk (hp : HP) (t n : Nat) : HP := (hp.1 ++ [(t, n)], fun i k => if i = hp.1.length then dfl t k else hp.2 i k)
def cpy (c : Nat → Nat → Int) (so : Nat) (sp : Nat) (d : Nat) (dp n : Nat) : Nat → Nat → Int := fun i k => if i = d ∧ dp ≤ k ∧ k < dp + n then c so (sp + (k - dp)) else c i k
def acp (hp : HP) (so sp d dp n : Int) : Option HP := (gS hp so).bind fun q1 => (gS hp d).bind fun q2 => if q1.1 = 100 ∧ q2.1 = 100 ∧ 0 ≤ sp ∧ 0 ≤ dp ∧ 0 ≤ n ∧ sp + n ≤ q1.2 ∧ dp + n ≤ q2.2 then some (hp.1, cpy hp.2 so.toNat sp.toNat d.toNat dp.toNat n.toNat) else none
/-- what is taken off the stack -/
def e1I (st : List AV) (f : Int → List AV → Option RT) : Option RT := match st with | .inl x :: r => f x r | _ => none
def e1L (st : List AV) (f : Int → List AV → Option RT) : Option RT := match st with | .inr (.inl x) :: r => f x r | _ => none
def e1A (st : List AV) (f : Int → List AV → Option RT) : Option RT := match st with | .inr (.inr x) :: r => f x r | _ => none
def e2I (st : List AV) (f : Int → Int → List AV → Option RT) : Option RT := match st with | .inl y :: .inl x :: r => f x y r | _ => none
def e2L (st : List AV) (f : Int → Int → List AV → Option RT) : Option RT := match st with | .inr (.inl y) :: .inr (.inl x) :: r => f x y r | _ => none
def eLI (st : List AV) (f : Int → Int → List AV → Option RT) : Option RT := match st with | .inl y :: .inr (.inl x) :: r => f x y r | _ => none
def eIA (st : List AV) (f : Int → Int → List AV → Option RT) : Option RT := match st with | .inl y :: .inr (.inr x) :: r => f x y r | _ => none
def eLA (st : List AV) (f : Int → Int → List AV → Option RT) : Option RT := match st with | .inr (.inl y) :: .inr (.inr x) :: r => f x y r | _ => none
def eAA (st : List AV) (f : Int → Int → List AV → Option RT) : Option RT := match st with | .inr (.inr y) :: .inr (.inr x) :: r => f x y r | _ => none
def eIIA (st : List AV) (f : Int → Int → Int → List AV → Option RT) : Option RT := match st with | .inl v :: .inl i :: .inr (.inr o) :: r => f o i v r | _ => none
def eLIA (st : List AV) (f : Int → Int → Int → List AV → Option RT) : Option RT := match st with | .inr (.inl v) :: .inl i :: .inr (.inr o) :: r => f o i v r | _ => none
def eAIA (st : List AV) (f : Int → Int → Int → List AV → Option RT) : Option RT := match st with | .inr (.inr v) :: .inl i :: .inr (.inr o) :: r => f o i v r | _ => none
def eCP (st : List AV) (f : Int → Int → Int → Int → Int → List AV → Option RT) : Option RT := match st with | .inl n :: .inl dp :: .inr (.inr d) :: .inl sp :: .inr (.inr so) :: r => f so sp d dp n r | _ => none
def gl (ls : LVs) (a : Nat) : Option AV := (ls[a]?).getD none
def lI (ls : LVs) (a : Nat) (f : Int → Option RT) : Option RT := match gl ls a with | some (.inl x) => f x | _ => none
def lL (ls : LVs) (a : Nat) (f : Int → Option RT) : Option RT := match gl ls a with | some (.inr (.inl x)) => f x | _ => none
def lA (ls : LVs) (a : Nat) (f : Int → Option RT) : Option RT := match gl ls a with | some (.inr (.inr x)) => f x | _ => none
def isL (v : Option AV) : Bool := match v with | some (.inr (.inl _)) => true | _ => false
/-- a long that lies just ahead is broken -/
def brk (ls : LVs) (a : Nat) : LVs := match a with | 0 => ls | b + 1 => if isL (gl ls b) then ls.set b none else ls
def s1 (ls : LVs) (a : Nat) (v : AV) (f : LVs → Option RT) : Option RT := if a < ls.length then f ((brk ls a).set a (some v)) else none
def s2 (ls : LVs) (a : Nat) (v : AV) (f : LVs → Option RT) : Option RT := if a + 1 < ls.length then f (((brk ls a).set a (some v)).set (a + 1) none) else none
def toI (r : RT) : Option (Int × HP) := match r.1 with | [.inl x] => some (x, r.2) | _ => none
def toL (r : RT) : Option (Int × HP) := match r.1 with | [.inr (.inl x)] => some (x, r.2) | _ => none
def toA (r : RT) : Option (Int × HP) := match r.1 with | [.inr (.inr x)] => some (x, r.2) | _ => none
def toV (r : RT) : Option HP := match r.1 with | [] => some r.2 | _ => none
def swi (x : Int) : List (Int × Nat) → Nat → (Nat → Option RT) → Option RT
  | [], d, k => k d
  | q :: r, d, k => if x = q.1 then k q.2 else swi x r d k
/-- the width of what lies on the stack below a call -/
def wid (st : List AV) : Nat := match st with | [] => 0 | .inr (.inl _) :: r => 2 + wid r | _ :: r => 1 + wid r
def swT : List (List (Int × Nat) × Nat × Int × Int) := [([(97, 2), (98, 6), (120, 10), (121, 14)], 18, 0, 0), ([(4, 27), (5, 47), (8, 77), (35, 67), (42, 12), (43, 2), (45, 7), (60, 17), (61, 57), (62, 37)], 81, 0, 0), ([(0, 2), (1, 4), (2, 6)], 8, 0, 2), ([(10, 39), (11, 51), (12, 43), (13, 47)], 51, 10, 13), ([(0, 18), (1, 20), (2, 24)], 28, 0, 2), ([(0, 21), (1, 25)], 29, 0, 0), ([(0, 25), (1, 28), (2, 32)], 36, 0, 2), ([(0, 21), (1, 23)], 34, 0, 0), ([(0, 2), (1, 14), (2, 33), (3, 33), (4, 33), (5, 33), (6, 41), (7, 48), (8, 55)], 62, 0, 8), ([(0, 30), (1, 34)], 38, 0, 0), ([(0, 2), (1, 7), (2, 12), (3, 17)], 22, 0, 3), ([(0, 2), (1, 6), (2, 10), (3, 15), (4, 20), (5, 24)], 29, 0, 5), ([(3, 11), (4, 14), (5, 18)], 21, 3, 5), ([(0, 27), (1, 57), (2, 59), (3, 61)], 63, 0, 3), ([(2, 2), (3, 4), (4, 8), (5, 8), (6, 6)], 8, 2, 6), ([(0, 79), (1, 84), (2, 89), (3, 94), (4, 99), (5, 102)], 105, 0, 5), ([(0, 22), (1, 39), (2, 76), (3, 103), (4, 140), (5, 157), (6, 194), (7, 251), (8, 268), (9, 275), (10, 292), (11, 349), (12, 386), (13, 423), (14, 460), (15, 507), (16, 544), (17, 582), (18, 619), (19, 656), (20, 673), (21, 690), (22, 747), (23, 774), (24, 791), (25, 848), (26, 905), (27, 922), (28, 959), (29, 976), (30, 1023), (31, 1030), (32, 1037)], 1054, 0, 32)]
def swP (n : Nat) : List (Int × Nat) := ((swT[n]?).getD ([], 0, 0, 0)).1
def swD (n : Nat) : Nat := ((swT[n]?).getD ([], 0, 0, 0)).2.1
def stK (cf : Nat → List AV → HP → Option RT) (ri : RI) (pc : Nat) (ls : LVs) (st : List AV) (hp : HP) (k : KT) : Option RT :=
  match ri with
  | (0, _, _, _, _, z) => k (pc + 1) ls (vI z :: st) hp
  | (1, _, _, _, _, z) => k (pc + 1) ls (vI z :: st) hp
  | (2, _, _, _, _, z) => k (pc + 1) ls (vI z :: st) hp
  | (3, _, _, _, _, z) => k (pc + 1) ls (vI z :: st) hp
  | (4, _, _, _, _, z) => k (pc + 1) ls (vI z :: st) hp
  | (5, a, _, _, _, _) => lI ls a fun x => k (pc + 1) ls (vI x :: st) hp
  | (6, a, _, _, _, _) => lL ls a fun x => k (pc + 1) ls (vL x :: st) hp
  | (7, a, _, _, _, _) => lA ls a fun x => k (pc + 1) ls (vA x :: st) hp
  | (8, a, _, _, _, _) => e1I st fun x r => s1 ls a (vI x) fun l => k (pc + 1) l r hp
  | (9, a, _, _, _, _) => e1L st fun x r => s2 ls a (vL x) fun l => k (pc + 1) l r hp
  | (10, a, _, _, _, _) => e1A st fun x r => s1 ls a (vA x) fun l => k (pc + 1) l r hp
  | (11, a, _, _, _, z) => lI ls a fun x => s1 ls a (vI (w32 (x + z))) fun l => k (pc + 1) l st hp
  | (12, a, b, 1, _, _) => e1A st fun o r => (gF hp a b o).bind fun x => k (pc + 1) ls (vL x :: r) hp
  | (12, a, b, 2, _, _) => e1A st fun o r => (gF hp a b o).bind fun x => k (pc + 1) ls (vA x :: r) hp
  | (12, a, b, _, _, _) => e1A st fun o r => (gF hp a b o).bind fun x => k (pc + 1) ls (vI x :: r) hp
  | (13, a, b, 0, _, _) => eIA st fun o v r => (pF hp a b o v).bind fun h => k (pc + 1) ls r h
  | (13, a, b, 1, _, _) => eLA st fun o v r => (pF hp a b o v).bind fun h => k (pc + 1) ls r h
  | (13, a, b, 2, _, _) => eAA st fun o v r => (pF hp a b o v).bind fun h => k (pc + 1) ls r h
  | (13, a, b, _, _, _) => eIA st fun o v r => if v = 0 ∨ v = 1 then (pF hp a b o v).bind fun h => k (pc + 1) ls r h else none
  | (14, _, _, _, _, _) => eIA st fun o i r => (gA hp 0 o i).bind fun x => k (pc + 1) ls (vI x :: r) hp
  | (15, _, _, _, _, _) => eIA st fun o i r => (gA hp 1 o i).bind fun x => k (pc + 1) ls (vL x :: r) hp
  | (16, _, _, _, _, _) => eIA st fun o i r => (gA hp 2 o i).bind fun x => k (pc + 1) ls (vI x :: r) hp
  | (17, _, _, _, _, _) => eIA st fun o i r => (gR hp o i).bind fun x => k (pc + 1) ls (vA x :: r) hp
  | (18, _, _, _, _, _) => eIIA st fun o i v r => (pA hp 0 o i v).bind fun h => k (pc + 1) ls r h
  | (19, _, _, _, _, _) => eLIA st fun o i v r => (pA hp 1 o i v).bind fun h => k (pc + 1) ls r h
  | (20, _, _, _, _, _) => eIIA st fun o i v r => if v = 0 ∨ v = 1 then (pA hp 2 o i v).bind fun h => k (pc + 1) ls r h else none
  | (21, _, _, _, _, _) => eAIA st fun o i v r => (pR hp o i v).bind fun h => k (pc + 1) ls r h
  | (22, _, _, _, _, _) => e1A st fun o r => (gL hp o).bind fun x => k (pc + 1) ls (vI x :: r) hp
  | (23, _, _, _, _, _) => e2I st fun x y r => k (pc + 1) ls (vI (w32 (x + y)) :: r) hp
  | (24, _, _, _, _, _) => e2I st fun x y r => k (pc + 1) ls (vI (w32 (x - y)) :: r) hp
  | (25, _, _, _, _, _) => e2I st fun x y r => k (pc + 1) ls (vI (w32 (x * y)) :: r) hp
  | (26, _, _, _, _, _) => e2I st fun x y r => k (pc + 1) ls (vI (iand x y) :: r) hp
  | (27, _, _, _, _, _) => e2I st fun x y r => k (pc + 1) ls (vI (ior x y) :: r) hp
  | (28, _, _, _, _, _) => e2I st fun x y r => k (pc + 1) ls (vI (ixor x y) :: r) hp
  | (29, _, _, _, _, _) => e2I st fun x y r => k (pc + 1) ls (vI (ishl x y) :: r) hp
  | (30, _, _, _, _, _) => e2I st fun x y r => k (pc + 1) ls (vI (ishr x y) :: r) hp
  | (31, _, _, _, _, _) => e2I st fun x y r => k (pc + 1) ls (vI (iushr x y) :: r) hp
  | (32, _, _, _, _, _) => e2I st fun x y r => if y = 0 then none else k (pc + 1) ls (vI (idiv x y) :: r) hp
  | (33, _, _, _, _, _) => e2I st fun x y r => if y = 0 then none else k (pc + 1) ls (vI (irem x y) :: r) hp
  | (34, _, _, _, _, _) => e1I st fun x r => k (pc + 1) ls (vI (w32 (-x)) :: r) hp
  | (35, _, _, _, _, _) => e2L st fun x y r => k (pc + 1) ls (vL (w64 (x + y)) :: r) hp
  | (36, _, _, _, _, _) => e2L st fun x y r => k (pc + 1) ls (vL (w64 (x - y)) :: r) hp
  | (37, _, _, _, _, _) => e2L st fun x y r => k (pc + 1) ls (vL (w64 (x * y)) :: r) hp
  | (38, _, _, _, _, _) => e2L st fun x y r => k (pc + 1) ls (vL (lland x y) :: r) hp
  | (39, _, _, _, _, _) => e2L st fun x y r => k (pc + 1) ls (vL (llor x y) :: r) hp
  | (40, _, _, _, _, _) => e2L st fun x y r => if y = 0 then none else k (pc + 1) ls (vL (lldiv x y) :: r) hp
  | (41, _, _, _, _, _) => e2L st fun x y r => if y = 0 then none else k (pc + 1) ls (vL (llrem x y) :: r) hp
  | (42, _, _, _, _, _) => e1L st fun x r => k (pc + 1) ls (vL (w64 (-x)) :: r) hp
  | (43, _, _, _, _, _) => e1I st fun x r => k (pc + 1) ls (vL x :: r) hp
  | (44, _, _, _, _, _) => e1L st fun x r => k (pc + 1) ls (vI (w32 x) :: r) hp
  | (45, _, _, _, _, _) => e2L st fun x y r => k (pc + 1) ls (vI (lcmp x y) :: r) hp
  | (46, _, _, _, _, _) => eLI st fun x y r => k (pc + 1) ls (vL (llshl x y) :: r) hp
  | (47, _, _, _, _, z) => k (pc + 1) ls (vL z :: st) hp
  | (48, _, _, _, _, z) => k (pc + 1) ls (vL z :: st) hp
  | (49, _, _, _, _, _) => e1I st fun x r => k (pc + 1) ls (vI (i2c x) :: r) hp
  | (50, _, _, _, _, _) => match st with
    | .inl x :: r => k (pc + 1) ls (vI x :: vI x :: r) hp
    | .inr (.inr x) :: r => k (pc + 1) ls (vA x :: vA x :: r) hp
    | _ => none
  | (51, _, _, _, _, _) => eIA st fun o i r => k (pc + 1) ls (vI i :: vA o :: vI i :: vA o :: r) hp
  | (52, _, _, _, _, _) => match st with
    | .inl _ :: r => k (pc + 1) ls r hp
    | .inr (.inr _) :: r => k (pc + 1) ls r hp
    | _ => none
  | (53, 0, b, _, _, _) => e1I st fun x r => if x = 0 then k b ls r hp else k (pc + 1) ls r hp
  | (53, 1, b, _, _, _) => e1I st fun x r => if x = 0 then k (pc + 1) ls r hp else k b ls r hp
  | (53, 2, b, _, _, _) => e1I st fun x r => if x < 0 then k b ls r hp else k (pc + 1) ls r hp
  | (53, 3, b, _, _, _) => e1I st fun x r => if x < 0 then k (pc + 1) ls r hp else k b ls r hp
  | (53, 4, b, _, _, _) => e1I st fun x r => if 0 < x then k b ls r hp else k (pc + 1) ls r hp
  | (53, _, b, _, _, _) => e1I st fun x r => if 0 < x then k (pc + 1) ls r hp else k b ls r hp
  | (54, 0, b, _, _, _) => e2I st fun x y r => if x = y then k b ls r hp else k (pc + 1) ls r hp
  | (54, 1, b, _, _, _) => e2I st fun x y r => if x = y then k (pc + 1) ls r hp else k b ls r hp
  | (54, 2, b, _, _, _) => e2I st fun x y r => if x < y then k b ls r hp else k (pc + 1) ls r hp
  | (54, 3, b, _, _, _) => e2I st fun x y r => if x < y then k (pc + 1) ls r hp else k b ls r hp
  | (54, 4, b, _, _, _) => e2I st fun x y r => if y < x then k b ls r hp else k (pc + 1) ls r hp
  | (54, _, b, _, _, _) => e2I st fun x y r => if y < x then k (pc + 1) ls r hp else k b ls r hp
  | (55, _, b, _, _, _) => e1A st fun x r => if x = 0 then none else if x < 0 then k b ls r hp else k (pc + 1) ls r hp
  | (56, _, b, _, _, _) => e1A st fun x r => if x = 0 then none else if x < 0 then k (pc + 1) ls r hp else k b ls r hp
  | (57, _, b, _, _, _) => k b ls st hp
  | (58, a, _, _, _, _) => e1I st fun x r => swi x (swP a) (swD a) fun t => k t ls r hp
  | (59, a, _, _, _, _) => e1I st fun x r => swi x (swP a) (swD a) fun t => k t ls r hp
  | (60, _, _, _, _, _) => match st with | [] => some ([], hp) | _ => none
  | (61, _, _, _, _, _) => match st with | [.inl x] => some ([vI x], hp) | _ => none
  | (62, _, _, _, _, _) => match st with | [.inl x] => if x = 0 ∨ x = 1 then some ([vI x], hp) else none | _ => none
  | (63, _, _, _, _, _) => match st with | [.inr (.inl x)] => some ([vL x], hp) | _ => none
  | (64, _, _, _, _, _) => match st with | [.inr (.inr x)] => if x = 0 then none else some ([vA x], hp) | _ => none
  | (65, _, _, _, _, _) => match st with | [.inl x] => if 0 ≤ x ∧ x < 65536 then some ([vI x], hp) else none | _ => none
  | (66, _, _, _, _, _) => match st with | [.inl x] => if -128 ≤ x ∧ x < 128 then some ([vI x], hp) else none | _ => none
  | (67, a, b, 0, _, _) => if wid (st.drop b) ≤ 8 then ((cf a (st.take b).reverse hp).bind toV).bind fun q => k (pc + 1) ls (st.drop b) q else none
  | (67, a, b, 1, _, _) => if wid (st.drop b) ≤ 8 then ((cf a (st.take b).reverse hp).bind toI).bind fun q => k (pc + 1) ls (vI q.1 :: st.drop b) q.2 else none
  | (67, a, b, 2, _, _) => if wid (st.drop b) ≤ 8 then ((cf a (st.take b).reverse hp).bind toL).bind fun q => k (pc + 1) ls (vL q.1 :: st.drop b) q.2 else none
  | (67, a, b, _, _, _) => if wid (st.drop b) ≤ 8 then ((cf a (st.take b).reverse hp).bind toA).bind fun q => k (pc + 1) ls (vA q.1 :: st.drop b) q.2 else none
  | (68, a, b, _, _, _) => k (pc + 1) ls (vA hp.1.length :: st) (mk hp a b)
  | (69, a, _, _, _, _) => e1I st fun n r => if 0 ≤ n ∧ n ≤ 100000 then k (pc + 1) ls (vA hp.1.length :: r) (mk hp a n.toNat) else none
  | (70, a, _, _, _, _) => e1I st fun n r => if 0 ≤ n ∧ n ≤ 100000 then k (pc + 1) ls (vA hp.1.length :: r) (mk hp a n.toNat) else none
  | (71, _, _, 0, _, z) => k (pc + 1) ls (vI z :: st) hp
  | (71, _, _, _, _, z) => k (pc + 1) ls (vA z :: st) hp
  | (72, _, _, _, _, _) => k (pc + 1) ls (vA (-1) :: st) hp
  | (73, _, _, _, _, z) => k (pc + 1) ls (vA z :: st) hp
  | (74, _, _, _, _, _) => eCP st fun so sp d dp n r => if wid r ≤ 8 then (acp hp so sp d dp n).bind fun h => k (pc + 1) ls r h else none
  | (75, _, _, _, _, _) => e1A st fun x r => if 0 < x ∧ wid r ≤ 8 then k (pc + 1) ls r hp else none
  | (76, _, _, _, _, _) => e1I st fun x r => k (pc + 1) ls (vI (i2b x) :: r) hp
  | _ => none
