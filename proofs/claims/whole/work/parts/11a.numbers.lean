/-! the machine's words on small numbers -/
def b2i (b : Bool) : Int := match b with | true => 1 | false => 0
theorem b2i_t : b2i true = 1 := rfl
theorem b2i_f : b2i false = 0 := rfl
theorem b2i_0 {b : Bool} : b2i b = 0 ↔ b = false := by cases b <;> simp [b2i]
theorem b2i_1 {b : Bool} : b2i b = 1 ↔ b = true := by cases b <;> simp [b2i]
theorem b2i_or (b : Bool) : (b2i b = 0 ∨ b2i b = 1) = True := by cases b <;> simp [b2i]
theorem b2i_inj {a b : Bool} : b2i a = b2i b ↔ a = b := by cases a <;> cases b <;> simp [b2i]
theorem b2i_b (b : Bool) : 0 ≤ b2i b ∧ b2i b ≤ 1 := by cases b <;> simp [b2i]
theorem tI_m (x : Int) (h : HP) : toI ([vI x], h) = some (x, h) := rfl
theorem tL_m (x : Int) (h : HP) : toL ([vL x], h) = some (x, h) := rfl
theorem tA_m (x : Int) (h : HP) : toA ([vA x], h) = some (x, h) := rfl
theorem tV_m (h : HP) : toV ([], h) = some h := rfl
theorem bnd_s {α β : Type} (x : α) (f : α → Option β) : (some x).bind f = f x := rfl
theorem sh_k : ∀ n, n < 32 → ((Int32.ofNat n &&& 31).toBitVec.smod 32).toNat = n := by decide +kernel
theorem ofI_nat {x : Int} (h : 0 ≤ x) : Int32.ofInt x = Int32.ofNat x.toNat := by
  show Int32.ofInt x = Int32.ofInt (x.toNat : Int)
  rw [Int.toNat_of_nonneg h]
theorem nat_tn {n : Nat} (h : n < 4294967296) : (Int32.ofNat n).toBitVec.toNat = n := by
  show (BitVec.ofNat 32 n).toNat = n
  rw [BitVec.toNat_ofNat]; omega
theorem toI_of {v : Int32} {n : Nat} (h : v.toBitVec.toNat = n) (hn : n < 2147483648) : v.toInt = (n : Int) := by
  rw [← Int32.toInt_toBitVec, BitVec.toInt_eq_toNat_of_lt (by omega), h]
theorem iand_n {x y : Int} (hx : 0 ≤ x) (hx2 : x < 2147483648) (hy : 0 ≤ y) (hy2 : y < 2147483648) : iand x y = ((x.toNat &&& y.toNat : Nat) : Int) := by
  unfold iand
  rw [ofI_nat hx, ofI_nat hy]
  refine toI_of ?_ (Nat.lt_of_le_of_lt Nat.and_le_left (by omega))
  rw [Int32.toBitVec_and, BitVec.toNat_and, nat_tn (by omega), nat_tn (by omega)]
theorem ior_n {x y : Int} (hx : 0 ≤ x) (hx2 : x < 2147483648) (hy : 0 ≤ y) (hy2 : y < 2147483648) : ior x y = ((x.toNat ||| y.toNat : Nat) : Int) := by
  unfold ior
  rw [ofI_nat hx, ofI_nat hy]
  refine toI_of ?_ (Nat.or_lt_two_pow (n := 31) (by omega) (by omega))
  rw [Int32.toBitVec_or, BitVec.toNat_or, nat_tn (by omega), nat_tn (by omega)]
theorem ishr_n {x k : Int} (hx : 0 ≤ x) (hx2 : x < 2147483648) (hk : 0 ≤ k) (hk2 : k < 32) : ishr x k = ((x.toNat >>> k.toNat : Nat) : Int) := by
  unfold ishr
  rw [ofI_nat hx, ofI_nat hk]
  refine toI_of ?_ (Nat.lt_of_le_of_lt (Nat.shiftRight_le _ _) (by omega))
  rw [Int32.toBitVec_shiftRight, BitVec.sshiftRight_eq', sh_k _ (by omega), BitVec.toNat_sshiftRight_of_msb_false, nat_tn (by omega)]
  rw [BitVec.msb_eq_false_iff_two_mul_lt, nat_tn (by omega)]; omega
theorem ishl_n {x k : Int} (hx : 0 ≤ x) (hx2 : x < 2147483648) (hk : 0 ≤ k) (hk2 : k < 32) (h : x.toNat * 2 ^ k.toNat < 2147483648) : ishl x k = ((x.toNat * 2 ^ k.toNat : Nat) : Int) := by
  unfold ishl
  rw [ofI_nat hx, ofI_nat hk]
  refine toI_of ?_ h
  rw [Int32.toBitVec_shiftLeft, BitVec.shiftLeft_eq', sh_k _ (by omega), BitVec.toNat_shiftLeft, nat_tn (by omega), Nat.shiftLeft_eq, Nat.mod_eq_of_lt (by omega)]
theorem idiv_n {x y : Int} (hx : 0 ≤ x) (hx2 : x < 2147483648) (hy : 0 < y) (hy2 : y < 2147483648) : idiv x y = x / y := by
  unfold idiv
  rw [Int32.toInt_div, t_i ⟨by omega, by omega⟩, t_i ⟨by omega, by omega⟩, Int.tdiv_eq_ediv_of_nonneg hx]
  have h1 : 0 ≤ x / y := Int.ediv_nonneg hx (by omega)
  have h2 : x / y ≤ x := Int.ediv_le_self y hx
  unfold Int.bmod
  simp only
  have h3 : x / y % (2 ^ 32 : Nat) = x / y := Int.emod_eq_of_lt h1 (by omega)
  rw [h3]
  split <;> omega
theorem irem_n {x y : Int} (hx : 0 ≤ x) (hx2 : x < 2147483648) (hy : 0 < y) (hy2 : y < 2147483648) : irem x y = x % y := by
  unfold irem
  rw [Int32.toInt_mod, t_i ⟨by omega, by omega⟩, t_i ⟨by omega, by omega⟩, Int.tmod_eq_emod_of_nonneg hx]
theorem w64_id {z : Int} (h1 : -9223372036854775808 ≤ z) (h2 : z < 9223372036854775808) : w64 z = z := t_l ⟨h1, h2⟩
theorem nat_tl {n : Nat} (h : n < 18446744073709551616) : (Int64.ofNat n).toBitVec.toNat = n := by
  show (BitVec.ofNat 64 n).toNat = n
  rw [BitVec.toNat_ofNat]; omega
theorem ofL_nat {x : Int} (h : 0 ≤ x) : Int64.ofInt x = Int64.ofNat x.toNat := by
  show Int64.ofInt x = Int64.ofInt (x.toNat : Int)
  rw [Int.toNat_of_nonneg h]
theorem toL_of {v : Int64} {n : Nat} (h : v.toBitVec.toNat = n) (hn : n < 9223372036854775808) : v.toInt = (n : Int) := by
  rw [← Int64.toInt_toBitVec, BitVec.toInt_eq_toNat_of_lt (by omega), h]
theorem llor_n {x y : Int} (hx : 0 ≤ x) (hx2 : x < 9223372036854775808) (hy : 0 ≤ y) (hy2 : y < 9223372036854775808) : llor x y = ((x.toNat ||| y.toNat : Nat) : Int) := by
  unfold llor
  rw [ofL_nat hx, ofL_nat hy]
  refine toL_of ?_ (Nat.or_lt_two_pow (n := 63) (by omega) (by omega))
  rw [Int64.toBitVec_or, BitVec.toNat_or, nat_tl (by omega), nat_tl (by omega)]
theorem lland_n {x y : Int} (hx : 0 ≤ x) (hx2 : x < 9223372036854775808) (hy : 0 ≤ y) (hy2 : y < 9223372036854775808) : lland x y = ((x.toNat &&& y.toNat : Nat) : Int) := by
  unfold lland
  rw [ofL_nat hx, ofL_nat hy]
  refine toL_of ?_ (Nat.lt_of_le_of_lt Nat.and_le_left (by omega))
  rw [Int64.toBitVec_and, BitVec.toNat_and, nat_tl (by omega), nat_tl (by omega)]
theorem sh_l8 : ∀ n, n < 64 → (((Int32.ofNat n).toInt64 &&& 63).toBitVec.smod 64).toNat = n := by decide +kernel
theorem llshl_n {x k : Int} (hx : 0 ≤ x) (hx2 : x < 9223372036854775808) (hk : 0 ≤ k) (hk2 : k < 64) (h : x.toNat * 2 ^ k.toNat < 9223372036854775808) : llshl x k = ((x.toNat * 2 ^ k.toNat : Nat) : Int) := by
  unfold llshl
  rw [ofL_nat hx, ofI_nat hk]
  refine toL_of ?_ h
  rw [Int64.toBitVec_shiftLeft, BitVec.shiftLeft_eq', sh_l8 _ (by omega), BitVec.toNat_shiftLeft, nat_tl (by omega), Nat.shiftLeft_eq, Nat.mod_eq_of_lt (by omega)]
theorem lldiv_n {x y : Int} (hx : 0 ≤ x) (hx2 : x < 9223372036854775808) (hy : 0 < y) (hy2 : y < 9223372036854775808) : lldiv x y = x / y := by
  unfold lldiv
  rw [Int64.toInt_div, t_l ⟨by omega, by omega⟩, t_l ⟨by omega, by omega⟩, Int.tdiv_eq_ediv_of_nonneg hx]
  have h1 : 0 ≤ x / y := Int.ediv_nonneg hx (by omega)
  have h2 : x / y ≤ x := Int.ediv_le_self y hx
  unfold Int.bmod
  simp only
  have h3 : x / y % (2 ^ 64 : Nat) = x / y := Int.emod_eq_of_lt h1 (by omega)
  rw [h3]
  split <;> omega
theorem llrem_n {x y : Int} (hx : 0 ≤ x) (hx2 : x < 9223372036854775808) (hy : 0 < y) (hy2 : y < 9223372036854775808) : llrem x y = x % y := by
  unfold llrem
  rw [Int64.toInt_mod, t_l ⟨by omega, by omega⟩, t_l ⟨by omega, by omega⟩, Int.tmod_eq_emod_of_nonneg hx]
/-- a bit of a number -/
def bt (x k : Int) : Bool := x.toNat.testBit k.toNat
theorem bt_sh {x k : Int} (hx : 0 ≤ x) (hx2 : x < 2147483648) (hk : 0 ≤ k) (hk2 : k < 32) : iand (ishr x k) 1 = b2i (bt x k) := by
  rw [ishr_n hx hx2 hk hk2, iand_n (Int.natCast_nonneg _) (by
    have := Nat.shiftRight_le x.toNat k.toNat
    omega) (by decide) (by decide)]
  unfold bt Nat.testBit
  rw [Int.toNat_natCast, show ((1 : Int).toNat) = 1 from rfl, Nat.and_comm, Nat.and_comm 1 _, Nat.and_one_is_mod]
  rcases Nat.mod_two_eq_zero_or_one (x.toNat >>> k.toNat) with h | h <;> rw [h] <;> rfl
theorem pow_sh {k : Int} (hk : 0 ≤ k) (hk2 : k < 31) : ishl 1 k = ((2 ^ k.toNat : Nat) : Int) := by
  have h : 2 ^ k.toNat < 2147483648 := Nat.lt_of_lt_of_le (Nat.pow_lt_pow_right (by decide) (by omega : k.toNat < 31)) (by decide)
  rw [ishl_n (by decide) (by decide) hk (by omega) (by rw [show (1 : Int).toNat = 1 from rfl, Nat.one_mul]; exact h)]
  rw [show (1 : Int).toNat = 1 from rfl, Nat.one_mul]
