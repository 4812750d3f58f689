/-! ROWS: division, bits, longs, conversions, switches -/
abbrev R64 (z : Int) : Prop := -9223372036854775808 ≤ z ∧ z < 9223372036854775808
theorem i64_toInt {z : Int} (h : R64 z) : (Int64.ofInt z).toInt = z := Int64.toInt_ofInt_of_le (by simpa using h.1) (by simpa using h.2)
theorem i32_div {a b : Int} (ha : 0 ≤ a) (ha' : a < 2147483648) (hb : 0 < b) (hb' : b < 2147483648) : Int32.ofInt a / Int32.ofInt b = Int32.ofInt (a / b) := by
  rw [← Int.tdiv_eq_ediv_of_nonneg ha]
  refine (Int32.ofInt_tdiv ?_ ?_ ?_ ?_).symm
  · have : Int32.minValue.toInt = -2147483648 := by decide +kernel
    omega
  · have : Int32.maxValue.toInt = 2147483647 := by decide +kernel
    omega
  · have : Int32.minValue.toInt = -2147483648 := by decide +kernel
    omega
  · have : Int32.maxValue.toInt = 2147483647 := by decide +kernel
    omega
theorem i32_mod {a b : Int} (ha : 0 ≤ a) (ha' : a < 2147483648) (hb : 0 < b) (hb' : b < 2147483648) : Int32.ofInt a % Int32.ofInt b = Int32.ofInt (a % b) := by
  rw [← Int.tmod_eq_emod_of_nonneg ha]
  refine (Int32.ofInt_tmod ?_ ?_ ?_ ?_).symm
  · have : Int32.minValue.toInt = -2147483648 := by decide +kernel
    omega
  · have : Int32.maxValue.toInt = 2147483647 := by decide +kernel
    omega
  · have : Int32.minValue.toInt = -2147483648 := by decide +kernel
    omega
  · have : Int32.maxValue.toInt = 2147483647 := by decide +kernel
    omega
theorem i64_div {a b : Int} (ha : 0 ≤ a) (ha' : a < 9223372036854775808) (hb : 0 < b) (hb' : b < 9223372036854775808) : Int64.ofInt a / Int64.ofInt b = Int64.ofInt (a / b) := by
  rw [← Int.tdiv_eq_ediv_of_nonneg ha]
  refine (Int64.ofInt_tdiv ?_ ?_ ?_ ?_).symm
  · have : Int64.minValue.toInt = -9223372036854775808 := by decide +kernel
    omega
  · have : Int64.maxValue.toInt = 9223372036854775807 := by decide +kernel
    omega
  · have : Int64.minValue.toInt = -9223372036854775808 := by decide +kernel
    omega
  · have : Int64.maxValue.toInt = 9223372036854775807 := by decide +kernel
    omega
theorem i64_mod {a b : Int} (ha : 0 ≤ a) (ha' : a < 9223372036854775808) (hb : 0 < b) (hb' : b < 9223372036854775808) : Int64.ofInt a % Int64.ofInt b = Int64.ofInt (a % b) := by
  rw [← Int.tmod_eq_emod_of_nonneg ha]
  refine (Int64.ofInt_tmod ?_ ?_ ?_ ?_).symm
  · have : Int64.minValue.toInt = -9223372036854775808 := by decide +kernel
    omega
  · have : Int64.maxValue.toInt = 9223372036854775807 := by decide +kernel
    omega
  · have : Int64.minValue.toInt = -9223372036854775808 := by decide +kernel
    omega
  · have : Int64.maxValue.toInt = 9223372036854775807 := by decide +kernel
    omega
theorem i32_i2l {a : Int} (h : R32 a) : (Int32.ofInt a).toInt64 = Int64.ofInt a := by
  rw [← Int64.toInt_inj, Int32.toInt_toInt64, i32_toInt h, i64_toInt ⟨by omega, by omega⟩]
theorem i64_l2i {a : Int} (h : R32 a) : (Int64.ofInt a).toInt32 = Int32.ofInt a := by
  rw [← Int32.toInt_inj, Int64.toInt_toInt32, i64_toInt ⟨by omega, by omega⟩, i32_toInt h]
  exact Int.bmod_eq_of_le (by omega) (by omega)
theorem i32_i2b {a : Int} (h : R32 a) : (Int32.ofInt a).toInt8.toInt32 = Int32.ofInt (a.bmod 256) := by
  have h1 : -128 ≤ a.bmod 256 ∧ a.bmod 256 < 128 := ⟨Int.le_bmod (by omega), Int.bmod_lt (by omega)⟩
  rw [← Int32.toInt_inj, Int8.toInt_toInt32, Int32.toInt_toInt8, i32_toInt h, i32_toInt ⟨by omega, by omega⟩]
theorem i32_i2s {a : Int} (h : R32 a) : (Int32.ofInt a).toInt16.toInt32 = Int32.ofInt (a.bmod 65536) := by
  have h1 : -32768 ≤ a.bmod 65536 ∧ a.bmod 65536 < 32768 := ⟨Int.le_bmod (by omega), Int.bmod_lt (by omega)⟩
  rw [← Int32.toInt_inj, Int16.toInt_toInt32, Int32.toInt_toInt16, i32_toInt h, i32_toInt ⟨by omega, by omega⟩]
theorem lg_cmp_int {a b : Int} (ha : R64 a) (hb : R64 b) : lg_cmp (Int64.ofInt a) (Int64.ofInt b) = Int32.ofInt (if b < a then 1 else if a = b then 0 else -1) := by
  unfold lg_cmp
  have e1 : (Int64.ofInt a > Int64.ofInt b) ↔ b < a := by rw [GT.gt, Int64.lt_iff_toInt_lt, i64_toInt ha, i64_toInt hb]
  have e2 : (Int64.ofInt a = Int64.ofInt b) ↔ a = b := by rw [← Int64.toInt_inj, i64_toInt ha, i64_toInt hb]
  by_cases h1 : b < a
  · rw [if_pos (e1.mpr h1), if_pos h1]; rfl
  · rw [if_neg (fun h => h1 (e1.mp h)), if_neg h1]
    by_cases h2 : a = b
    · rw [if_pos (e2.mpr h2), if_pos h2]; rfl
    · rw [if_neg (fun h => h2 (e2.mp h)), if_neg h2]; rfl
theorem i64_nat_bv (m : Nat) : (Int64.ofInt (m : Int)).toBitVec = BitVec.ofNat 64 m := by
  rw [Int64.toBitVec_ofInt, BitVec.ofInt_natCast]
theorem i64_or (a b : Nat) : Int64.ofInt (a : Int) ||| Int64.ofInt (b : Int) = Int64.ofInt ((a ||| b : Nat) : Int) := by
  rw [← Int64.toBitVec_inj, Int64.toBitVec_or, i64_nat_bv, i64_nat_bv, i64_nat_bv, BitVec.ofNat_or]
theorem i64_and (a b : Nat) : Int64.ofInt (a : Int) &&& Int64.ofInt (b : Int) = Int64.ofInt ((a &&& b : Nat) : Int) := by
  rw [← Int64.toBitVec_inj, Int64.toBitVec_and, i64_nat_bv, i64_nat_bv, i64_nat_bv, BitVec.ofNat_and]
theorem i64_shl1 : ∀ c : Nat, c < 64 → Int64.ofInt 1 <<< ((Int32.ofInt (c : Int)).toInt64 &&& 63) = Int64.ofInt ((2 ^ c : Nat) : Int) := by decide +kernel
theorem i64_nat0 {m : Nat} (h : m < 18446744073709551616) : lg_cmp (Int64.ofInt (m : Int)) (Int64.ofInt 0) = 0 ↔ m = 0 := by
  have e : Int64.ofInt (m : Int) = Int64.ofInt 0 ↔ m = 0 := by
    rw [← Int64.toBitVec_inj, i64_nat_bv, show Int64.ofInt 0 = Int64.ofInt ((0 : Nat) : Int) from rfl, i64_nat_bv]
    constructor
    · intro h1
      have h2 := congrArg BitVec.toNat h1
      simp only [BitVec.toNat_ofNat] at h2
      omega
    · rintro rfl; rfl
  unfold lg_cmp
  by_cases h1 : Int64.ofInt (m : Int) > Int64.ofInt 0
  · rw [if_pos h1]
    refine ⟨fun h2 => absurd h2 (by decide +kernel), fun h2 => ?_⟩
    rw [GT.gt, Int64.lt_iff_toInt_lt, e.mpr h2] at h1
    omega
  · rw [if_neg h1]
    by_cases h2 : Int64.ofInt (m : Int) = Int64.ofInt 0
    · rw [if_pos h2]
      exact ⟨fun _ => e.mp h2, fun _ => rfl⟩
    · rw [if_neg h2]
      exact ⟨fun h3 => absurd h3 (by decide +kernel), fun h3 => absurd (e.mpr h3) h2⟩
theorem i32_nat_bv (m : Nat) : (Int32.ofInt (m : Int)).toBitVec = BitVec.ofNat 32 m := by
  rw [Int32.toBitVec_ofInt, BitVec.ofInt_natCast]
theorem i32_or (a b : Nat) : Int32.ofInt (a : Int) ||| Int32.ofInt (b : Int) = Int32.ofInt ((a ||| b : Nat) : Int) := by
  rw [← Int32.toBitVec_inj, Int32.toBitVec_or, i32_nat_bv, i32_nat_bv, i32_nat_bv, BitVec.ofNat_or]
theorem i32_and (a b : Nat) : Int32.ofInt (a : Int) &&& Int32.ofInt (b : Int) = Int32.ofInt ((a &&& b : Nat) : Int) := by
  rw [← Int32.toBitVec_inj, Int32.toBitVec_and, i32_nat_bv, i32_nat_bv, i32_nat_bv, BitVec.ofNat_and]
theorem i32_ord {a b k : Nat} (h : b < 2 ^ k) : Int32.ofInt ((a * 2 ^ k : Nat) : Int) ||| Int32.ofInt (b : Int) = Int32.ofInt ((a * 2 ^ k + b : Nat) : Int) := by
  rw [i32_or, ← Nat.shiftLeft_eq, Nat.shiftLeft_add_eq_or_of_lt h]
theorem i32_andm (a k : Nat) : Int32.ofInt (a : Int) &&& Int32.ofInt ((2 ^ k - 1 : Nat) : Int) = Int32.ofInt ((a % 2 ^ k : Nat) : Int) := by
  rw [i32_and, Nat.and_two_pow_sub_one_eq_mod]
theorem bv_smod32 : ∀ b : Nat, b < 32 → ((BitVec.ofNat 32 b).smod 32) = BitVec.ofNat 32 b := by decide +kernel
theorem i32_shl {a : Int} {b : Nat} (hb : b < 32) : Int32.ofInt a <<< (Int32.ofInt (b : Int) &&& 31) = Int32.ofInt (a * 2 ^ b) := by
  have e : Int32.ofInt (b : Int) &&& 31 = Int32.ofInt (b : Int) := by
    have := i32_andm b 5
    rw [show ((2 ^ 5 - 1 : Nat) : Int) = 31 from rfl, Nat.mod_eq_of_lt (by omega)] at this
    exact this
  rw [e, ← Int32.toBitVec_inj, Int32.toBitVec_shiftLeft, i32_nat_bv, Int32.ofInt_mul, Int32.toBitVec_mul]
  have e2 : ((BitVec.ofNat 32 b).smod 32) = BitVec.ofNat 32 b := bv_smod32 b hb
  rw [e2]
  show (Int32.ofInt a).toBitVec <<< (BitVec.ofNat 32 b).toNat = _
  rw [BitVec.toNat_ofNat, Nat.mod_eq_of_lt (by omega), BitVec.shiftLeft_eq_mul_twoPow]
  congr 1
  rw [Int32.toBitVec_ofInt, show ((2 : Int) ^ b) = ((2 ^ b : Nat) : Int) by simp, BitVec.ofInt_natCast]
  exact BitVec.eq_of_toNat_eq (by rw [BitVec.toNat_twoPow, BitVec.toNat_ofNat])
theorem i32_shr {a : Int} {b : Nat} (ha : R32 a) (hb : b < 32) : Int32.ofInt a >>> (Int32.ofInt (b : Int) &&& 31) = Int32.ofInt (a / 2 ^ b) := by
  have e : Int32.ofInt (b : Int) &&& 31 = Int32.ofInt (b : Int) := by
    have := i32_andm b 5
    rw [show ((2 ^ 5 - 1 : Nat) : Int) = 31 from rfl, Nat.mod_eq_of_lt (by omega)] at this
    exact this
  rw [e]
  have e2 : ((BitVec.ofNat 32 b).smod 32) = BitVec.ofNat 32 b := bv_smod32 b hb
  have hp : (1 : Int) ≤ 2 ^ b := by
    have : 0 < 2 ^ b := Nat.two_pow_pos b
    have h2 : ((2 ^ b : Nat) : Int) = 2 ^ b := by simp
    omega
  have hr : R32 (a / 2 ^ b) := by
    refine ⟨?_, ?_⟩
    · refine Int.le_ediv_of_mul_le (by omega) ?_
      have := Int.mul_le_mul_of_nonneg_left hp (show (0 : Int) ≤ 2147483648 by omega)
      have := ha.1
      omega
    · refine Int.ediv_lt_of_lt_mul (by omega) ?_
      have := Int.mul_le_mul_of_nonneg_left hp (show (0 : Int) ≤ 2147483648 by omega)
      have := ha.2
      omega
  rw [← Int32.toInt_inj, i32_toInt hr, ← Int32.toInt_toBitVec, Int32.toBitVec_shiftRight, i32_nat_bv, e2]
  show ((Int32.ofInt a).toBitVec.sshiftRight (BitVec.ofNat 32 b).toNat).toInt = _
  rw [BitVec.toNat_ofNat, Nat.mod_eq_of_lt (by omega), BitVec.toInt_sshiftRight, Int32.toInt_toBitVec, i32_toInt ha, Int.shiftRight_eq_div_pow]
  simp
theorem i32_and31 (x : Int32) : x &&& 31 = Int32.ofInt (x.toInt % 32) := by
  have h : ∃ m : Nat, m < 4294967296 ∧ x = Int32.ofInt (m : Int) := by
    refine ⟨(x.toInt % 4294967296).toNat, by omega, ?_⟩
    rw [← Int32.toInt_inj, Int32.toInt_ofInt, Int.toNat_of_nonneg (by omega)]
    show _ = (x.toInt % ((4294967296 : Nat) : Int)).bmod 4294967296
    rw [Int.emod_bmod]
    have h1 := Int32.le_toInt x
    have h2 := Int32.toInt_lt x
    rw [Int.bmod_eq_of_le (by omega) (by omega)]
  obtain ⟨m, hm, rfl⟩ := h
  have := i32_andm m 5
  rw [show ((2 ^ 5 - 1 : Nat) : Int) = 31 from rfl] at this
  rw [show (31 : Int32) = Int32.ofInt 31 from rfl, this, Int32.toInt_ofInt]
  refine congrArg Int32.ofInt ?_
  show ((m % 32 : Nat) : Int) = ((m : Int).bmod 4294967296) % 32
  rw [Int.bmod_def]
  split <;> omega
section RowsB
variable {K : Kx} {φ : Ph} {σ : Si} {pc : Nat} {L L' : List Value} {st : List Value}
theorem r_idiv {a b : Int} (hd : decode K.2.2.1.2.1 pc = .ok (.idiv, 1)) (ha : 0 ≤ a ∧ a < 2147483648) (hb : 0 < b ∧ b < 2147483648) (k : RW K φ σ (pc + 1) L (iv (a / b) :: st)) : RW K φ σ pc L (iv b :: iv a :: st) := by
  intro p e s m args below meth c H locs ls F hW hS hl h0
  have k := k p e s m args below meth c H locs ls F hW hS hl h0
  unfold iv at k
  rw [← i32_div ha.1 ha.2 hb.1 hb.2] at k
  refine lv_idiv F.1 F.2.1 hd (fun h => ?_) k
  have := (i32_eq (a := b) (b := 0) ⟨by omega, by omega⟩ ⟨by omega, by omega⟩).mp h
  omega
theorem r_irem {a b : Int} (hd : decode K.2.2.1.2.1 pc = .ok (.irem, 1)) (ha : 0 ≤ a ∧ a < 2147483648) (hb : 0 < b ∧ b < 2147483648) (k : RW K φ σ (pc + 1) L (iv (a % b) :: st)) : RW K φ σ pc L (iv b :: iv a :: st) := by
  intro p e s m args below meth c H locs ls F hW hS hl h0
  have k := k p e s m args below meth c H locs ls F hW hS hl h0
  unfold iv at k
  rw [Int.emod_def, Int32.ofInt_sub, Int.mul_comm, Int32.ofInt_mul, ← i32_div ha.1 ha.2 hb.1 hb.2] at k
  refine lv_irem F.1 F.2.1 hd (fun h => ?_) k
  have := (i32_eq (a := b) (b := 0) ⟨by omega, by omega⟩ ⟨by omega, by omega⟩).mp h
  omega
theorem i64_ne0 {b : Int} (h : 0 < b ∧ b < 9223372036854775808) : ¬ Int64.ofInt b = 0 := by
  intro h1
  have h2 := congrArg Int64.toInt h1
  rw [i64_toInt ⟨by omega, by omega⟩] at h2
  have : (0 : Int64).toInt = 0 := by decide +kernel
  omega
theorem r_ldiv {a b : Int} (hd : decode K.2.2.1.2.1 pc = .ok (.ldiv, 1)) (ha : 0 ≤ a ∧ a < 9223372036854775808) (hb : 0 < b ∧ b < 9223372036854775808) (k : RW K φ σ (pc + 1) L (jl (a / b) :: st)) : RW K φ σ pc L (jl b :: jl a :: st) := by
  intro p e s m args below meth c H locs ls F hW hS hl h0
  have k := k p e s m args below meth c H locs ls F hW hS hl h0
  unfold jl at k
  rw [← i64_div ha.1 ha.2 hb.1 hb.2] at k
  exact lv_ldiv F.1 F.2.1 hd (i64_ne0 hb) k
theorem r_lrem {a b : Int} (hd : decode K.2.2.1.2.1 pc = .ok (.lrem, 1)) (ha : 0 ≤ a ∧ a < 9223372036854775808) (hb : 0 < b ∧ b < 9223372036854775808) (k : RW K φ σ (pc + 1) L (jl (a % b) :: st)) : RW K φ σ pc L (jl b :: jl a :: st) := by
  intro p e s m args below meth c H locs ls F hW hS hl h0
  have k := k p e s m args below meth c H locs ls F hW hS hl h0
  unfold jl at k
  rw [Int.emod_def, Int64.ofInt_sub, Int.mul_comm, Int64.ofInt_mul, ← i64_div ha.1 ha.2 hb.1 hb.2] at k
  exact lv_lrem F.1 F.2.1 hd (i64_ne0 hb) k
theorem r_i2l {a : Int} (hd : decode K.2.2.1.2.1 pc = .ok (.i2l, 1)) (ha : R32 a) (k : RW K φ σ (pc + 1) L (jl a :: st)) : RW K φ σ pc L (iv a :: st) :=
  fun p e s m args below meth c H locs ls F hW hS hl h0 => lv_i2l F.1 F.2.1 hd (i32_i2l ha) (k p e s m args below meth c H locs ls F hW hS hl h0)
theorem r_l2i {a : Int} (hd : decode K.2.2.1.2.1 pc = .ok (.l2i, 1)) (ha : R32 a) (k : RW K φ σ (pc + 1) L (iv a :: st)) : RW K φ σ pc L (jl a :: st) :=
  fun p e s m args below meth c H locs ls F hW hS hl h0 => lv_l2i F.1 F.2.1 hd (i64_l2i ha) (k p e s m args below meth c H locs ls F hW hS hl h0)
theorem r_i2b {a : Int} (hd : decode K.2.2.1.2.1 pc = .ok (.i2b, 1)) (ha : R32 a) (k : RW K φ σ (pc + 1) L (iv (a.bmod 256) :: st)) : RW K φ σ pc L (iv a :: st) :=
  fun p e s m args below meth c H locs ls F hW hS hl h0 => lv_i2b F.1 F.2.1 hd (i32_i2b ha) (k p e s m args below meth c H locs ls F hW hS hl h0)
theorem r_i2s {a : Int} (hd : decode K.2.2.1.2.1 pc = .ok (.i2s, 1)) (ha : R32 a) (k : RW K φ σ (pc + 1) L (iv (a.bmod 65536) :: st)) : RW K φ σ pc L (iv a :: st) :=
  fun p e s m args below meth c H locs ls F hW hS hl h0 => lv_i2s F.1 F.2.1 hd (i32_i2s ha) (k p e s m args below meth c H locs ls F hW hS hl h0)
theorem r_lcmp {a b : Int} (hd : decode K.2.2.1.2.1 pc = .ok (.lcmp, 1)) (ha : R64 a) (hb : R64 b) (k : RW K φ σ (pc + 1) L (iv (if b < a then 1 else if a = b then 0 else -1) :: st)) : RW K φ σ pc L (jl b :: jl a :: st) := by
  intro p e s m args below meth c H locs ls F hW hS hl h0
  have k := k p e s m args below meth c H locs ls F hW hS hl h0
  unfold iv at k
  rw [← lg_cmp_int ha hb] at k
  exact W.lcmp F.1 F.2.1 hd k
theorem r_lcmp0 {m : Nat} (hd : decode K.2.2.1.2.1 pc = .ok (.lcmp, 1)) (hm : m < 18446744073709551616) (k : ∀ z : Int, R32 z → (z = 0 ↔ m = 0) → RW K φ σ (pc + 1) L (iv z :: st)) : RW K φ σ pc L (jl 0 :: jl (m : Int) :: st) := by
  intro p e s m' args below meth c H locs ls F hW hS hl h0
  have hz : R32 (lg_cmp (Int64.ofInt (m : Int)) (Int64.ofInt 0)).toInt := ⟨Int32.le_toInt _, Int32.toInt_lt _⟩
  have e' : (lg_cmp (Int64.ofInt (m : Int)) (Int64.ofInt 0)).toInt = 0 ↔ m = 0 := by
    rw [← i64_nat0 hm, ← Int32.toInt_inj]
    exact Iff.rfl
  have k := k _ hz e' p e s m' args below meth c H locs ls F hW hS hl h0
  unfold iv at k
  rw [Int32.ofInt_toInt] at k
  exact W.lcmp F.1 F.2.1 hd k
theorem r_lor {a b : Nat} (hd : decode K.2.2.1.2.1 pc = .ok (.lor, 1)) (k : RW K φ σ (pc + 1) L (jl ((a ||| b : Nat) : Int) :: st)) : RW K φ σ pc L (jl (b : Int) :: jl (a : Int) :: st) := by
  intro p e s m args below meth c H locs ls F hW hS hl h0
  have k := k p e s m args below meth c H locs ls F hW hS hl h0
  unfold jl at k
  rw [← i64_or] at k
  exact lv_lor F.1 F.2.1 hd k
theorem r_land {a b : Nat} (hd : decode K.2.2.1.2.1 pc = .ok (.land, 1)) (k : RW K φ σ (pc + 1) L (jl ((a &&& b : Nat) : Int) :: st)) : RW K φ σ pc L (jl (b : Int) :: jl (a : Int) :: st) := by
  intro p e s m args below meth c H locs ls F hW hS hl h0
  have k := k p e s m args below meth c H locs ls F hW hS hl h0
  unfold jl at k
  rw [← i64_and] at k
  exact lv_land F.1 F.2.1 hd k
theorem r_lshl1 {c : Nat} (hd : decode K.2.2.1.2.1 pc = .ok (.lshl, 1)) (hc : c < 64) (k : RW K φ σ (pc + 1) L (jl ((2 ^ c : Nat) : Int) :: st)) : RW K φ σ pc L (iv (c : Int) :: jl 1 :: st) :=
  fun p e s m args below meth cc H locs ls F hW hS hl h0 => lv_lshl F.1 F.2.1 hd (i64_shl1 c hc) (k p e s m args below meth cc H locs ls F hW hS hl h0)
theorem r_ishl {a : Int} {b : Nat} (hd : decode K.2.2.1.2.1 pc = .ok (.ishl, 1)) (hb : b < 32) (k : RW K φ σ (pc + 1) L (iv (a * 2 ^ b) :: st)) : RW K φ σ pc L (iv (b : Int) :: iv a :: st) := by
  intro p e s m args below meth c H locs ls F hW hS hl h0
  have k := k p e s m args below meth c H locs ls F hW hS hl h0
  unfold iv at k
  rw [← i32_shl hb] at k
  exact lv_ishl F.1 F.2.1 hd k
theorem r_ishr {a : Int} {b : Nat} (hd : decode K.2.2.1.2.1 pc = .ok (.ishr, 1)) (ha : R32 a) (hb : b < 32) (k : RW K φ σ (pc + 1) L (iv (a / 2 ^ b) :: st)) : RW K φ σ pc L (iv (b : Int) :: iv a :: st) := by
  intro p e s m args below meth c H locs ls F hW hS hl h0
  have k := k p e s m args below meth c H locs ls F hW hS hl h0
  unfold iv at k
  rw [← i32_shr ha hb] at k
  exact lv_ishr F.1 F.2.1 hd k
theorem r_ior {a b k : Nat} (hd : decode K.2.2.1.2.1 pc = .ok (.ior, 1)) (hb : b < 2 ^ k) (kk : RW K φ σ (pc + 1) L (iv ((a * 2 ^ k + b : Nat) : Int) :: st)) : RW K φ σ pc L (iv (b : Int) :: iv ((a * 2 ^ k : Nat) : Int) :: st) := by
  intro p e s m args below meth c H locs ls F hW hS hl h0
  have k := kk p e s m args below meth c H locs ls F hW hS hl h0
  unfold iv at k
  rw [← i32_ord hb] at k
  exact lv_ior F.1 F.2.1 hd k
theorem r_iandm {a k : Nat} (hd : decode K.2.2.1.2.1 pc = .ok (.iand, 1)) (kk : RW K φ σ (pc + 1) L (iv ((a % 2 ^ k : Nat) : Int) :: st)) : RW K φ σ pc L (iv ((2 ^ k - 1 : Nat) : Int) :: iv (a : Int) :: st) := by
  intro p e s m args below meth c H locs ls F hW hS hl h0
  have k := kk p e s m args below meth c H locs ls F hW hS hl h0
  unfold iv at k
  rw [← i32_andm] at k
  exact lv_iand F.1 F.2.1 hd k
theorem r_iand31 {a : Int} (hd : decode K.2.2.1.2.1 pc = .ok (.iand, 1)) (ha : R32 a) (kk : RW K φ σ (pc + 1) L (iv (a % 32) :: st)) : RW K φ σ pc L (iv 31 :: iv a :: st) := by
  intro p e s m args below meth c H locs ls F hW hS hl h0
  have k := kk p e s m args below meth c H locs ls F hW hS hl h0
  have e := i32_and31 (Int32.ofInt a)
  rw [i32_toInt ha] at e
  unfold iv at k
  rw [← e] at k
  exact lv_iand F.1 F.2.1 hd k
theorem r_tabIn {dflt lo hi : Int} {offs : Array Int} {len : Nat} {x off : Int} {tgt : Nat} (hd : decode K.2.2.1.2.1 pc = .ok (.tableswitch dflt lo hi offs, len)) (hx : R32 x) (h1 : ¬ x < lo) (h2 : ¬ hi < x) (ho : offs[(x - lo).toNat]? = some off) (ht : (pc : Int) + off = (tgt : Int)) (k : RW K φ σ tgt L st) : RW K φ σ pc L (iv x :: st) :=
  fun p e s m args below meth c H locs ls F hW hS hl h0 => lv_tableIn F.1 F.2.1 hd (by rw [i32_toInt hx]; exact h1) (by rw [i32_toInt hx]; exact h2) (by rw [i32_toInt hx]; exact ho) ht (k p e s m args below meth c H locs ls F hW hS hl h0)
theorem r_tabOut {dflt lo hi : Int} {offs : Array Int} {len : Nat} {x : Int} {tgt : Nat} (hd : decode K.2.2.1.2.1 pc = .ok (.tableswitch dflt lo hi offs, len)) (hx : R32 x) (h : x < lo ∨ hi < x) (ht : (pc : Int) + dflt = (tgt : Int)) (k : RW K φ σ tgt L st) : RW K φ σ pc L (iv x :: st) :=
  fun p e s m args below meth c H locs ls F hW hS hl h0 => lv_tableOut F.1 F.2.1 hd (by rw [i32_toInt hx]; exact h) ht (k p e s m args below meth c H locs ls F hW hS hl h0)
theorem r_nonnull {x : Nat} {off : Int} {tgt : Nat} (hd : decode K.2.2.1.2.1 pc = .ok (.ifnonnull off, 3)) (ht : (pc : Int) + off = (tgt : Int)) (k : RW K φ σ tgt L st) : RW K φ σ pc L (.ref x :: st) :=
  fun p e s m args below meth c H locs ls F hW hS hl h0 => lv_ifnonnull F.1 F.2.1 hd ht (k p e s m args below meth c H locs ls F hW hS hl h0)
theorem r_nonnullN {off : Int} (hd : decode K.2.2.1.2.1 pc = .ok (.ifnonnull off, 3)) (k : RW K φ σ (pc + 3) L st) : RW K φ σ pc L (.null :: st) :=
  fun p e s m args below meth c H locs ls F hW hS hl h0 => lv_ifnonnullN F.1 F.2.1 hd (k p e s m args below meth c H locs ls F hW hS hl h0)
/-- a truth as Java has it -/
def bi (P : Prop) [Decidable P] : Int := if P then 1 else 0
theorem bi_R (P : Prop) [Decidable P] : R32 (bi P) := by unfold bi; split <;> exact ⟨by omega, by omega⟩
theorem r_ifeqb {P : Prop} [Decidable P] {off : Int} {tgt : Nat} (hd : decode K.2.2.1.2.1 pc = .ok (.ifCond .eq off, 3)) (ht : (pc : Int) + off = (tgt : Int)) (kt : ¬ P → RW K φ σ tgt L st) (kf : P → RW K φ σ (pc + 3) L st) : RW K φ σ pc L (iv (bi P) :: st) := by
  refine r_ifeq hd ht (bi_R P) (fun h => kt ?_) (fun h => kf ?_)
  · intro hp; unfold bi at h; rw [if_pos hp] at h; omega
  · by_cases hp : P
    · exact hp
    · unfold bi at h; rw [if_neg hp] at h; omega
theorem r_ifneb {P : Prop} [Decidable P] {off : Int} {tgt : Nat} (hd : decode K.2.2.1.2.1 pc = .ok (.ifCond .ne off, 3)) (ht : (pc : Int) + off = (tgt : Int)) (kt : P → RW K φ σ tgt L st) (kf : ¬ P → RW K φ σ (pc + 3) L st) : RW K φ σ pc L (iv (bi P) :: st) := by
  refine r_ifne hd ht (bi_R P) (fun h => kt ?_) (fun h => kf ?_)
  · by_cases hp : P
    · exact hp
    · unfold bi at h; rw [if_neg hp] at h; omega
  · intro hp; unfold bi at h; rw [if_pos hp] at h; omega
end RowsB
