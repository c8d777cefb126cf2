/-! ===== Int64 as an unsigned number: uN x ===== -/
def uN (x : Int64) : Nat := x.toUInt64.toNat
theorem uN_lt (x : Int64) : uN x < 18446744073709551616 := x.toUInt64.toNat_lt
theorem uN_inj {x y : Int64} (h : uN x = uN y) : x = y := congrArg UInt64.toInt64 (UInt64.toNat_inj.mp h)
theorem uN_add (x y : Int64) : uN (x + y) = (uN x + uN y) % 18446744073709551616 := by
  show (x.toUInt64 + y.toUInt64).toNat = _
  exact UInt64.toNat_add _ _
theorem uN_mul (x y : Int64) : uN (x * y) = (uN x * uN y) % 18446744073709551616 := by
  show (x.toUInt64 * y.toUInt64).toNat = _
  exact UInt64.toNat_mul _ _
theorem uN_shl (x : Int64) : uN (x <<< ((1 : Int32).toInt64 &&& 63)) = (2 * uN x) % 18446744073709551616 := by
  have h : (((1 : Int32).toInt64 &&& 63).toBitVec.smod 64).toNat = 1 := by decide
  show (x.toBitVec <<< (((1 : Int32).toInt64 &&& 63).toBitVec.smod 64).toNat).toNat = _
  rw [h, BitVec.toNat_shiftLeft, Nat.shiftLeft_eq, Nat.mul_comm]
  rfl
theorem uN_shr (x : Int64) (s : UInt64) : uN (x.toUInt64 >>> s).toInt64 = uN x / 2 ^ (s.toNat % 64) := by
  show (x.toUInt64 >>> s).toNat = _
  rw [UInt64.toNat_shiftRight, Nat.shiftRight_eq_div_pow]
  rfl
theorem uN_s32 (x : Int64) : uN (x.toUInt64 >>> ((32 : Int32).toInt64.toUInt64 &&& Int64.toUInt64 63)).toInt64 = uN x / 4294967296 := by
  have h : ((32 : Int32).toInt64.toUInt64 &&& Int64.toUInt64 63).toNat % 64 = 32 := by decide
  rw [uN_shr, h]
theorem uN_s63 (x : Int64) : uN (x.toUInt64 >>> ((63 : Int32).toInt64.toUInt64 &&& Int64.toUInt64 63)).toInt64 = uN x / 9223372036854775808 := by
  have h : ((63 : Int32).toInt64.toUInt64 &&& Int64.toUInt64 63).toNat % 64 = 63 := by decide
  rw [uN_shr, h]
theorem uN_lo (x : Int64) : uN (x &&& 4294967295) = uN x % 4294967296 := by
  show (x.toUInt64 &&& Int64.toUInt64 4294967295).toNat = _
  rw [UInt64.toNat_and]
  exact Nat.and_two_pow_sub_one_eq_mod _ 32
theorem uN_bit (x : Int64) : (x &&& 1) = 0 ↔ uN x % 2 = 0 := by
  have h : uN (x &&& 1) = uN x % 2 := by
    show (x.toUInt64 &&& Int64.toUInt64 1).toNat = _
    rw [UInt64.toNat_and]
    exact Nat.and_two_pow_sub_one_eq_mod _ 1
  rw [← h]
  exact ⟨fun z => by rw [z]; rfl, fun z => uN_inj (z.trans rfl)⟩
theorem uN_or {x y : Int64} (hy : uN y < 2) : uN ((x <<< ((1 : Int32).toInt64 &&& 63)) ||| y) = (2 * uN x) % 18446744073709551616 + uN y := by
  have h1 : uN ((x <<< ((1 : Int32).toInt64 &&& 63)) ||| y) = uN (x <<< ((1 : Int32).toInt64 &&& 63)) ||| uN y := UInt64.toNat_or _ _
  have h2 : (2 * uN x) % 18446744073709551616 = 2 ^ 1 * (uN x % 9223372036854775808) := by omega
  rw [h1, uN_shl, h2]
  exact (Nat.two_pow_add_eq_or_of_lt (i := 1) hy _).symm
theorem nat_xor {a : Nat} (h : a < 18446744073709551616) : a ^^^ 2 ^ 63 = (a + 9223372036854775808) % 18446744073709551616 := by
  have h1 : (a ^^^ 2 ^ 63) % 2 ^ 63 = a % 2 ^ 63 := by rw [Nat.xor_mod_two_pow, Nat.mod_self, Nat.xor_zero]
  have h2 : (a ^^^ 2 ^ 63) / 2 ^ 63 = (a / 2 ^ 63) ^^^ 1 := by rw [Nat.xor_div_two_pow, Nat.div_self (Nat.two_pow_pos 63)]
  have h3 : a / 2 ^ 63 = 0 ∨ a / 2 ^ 63 = 1 := by omega
  generalize a ^^^ 2 ^ 63 = t at h1 h2
  rcases h3 with h3 | h3
  · rw [h3] at h2
    have h2 : t / 2 ^ 63 = 1 := h2
    omega
  · rw [h3] at h2
    have h2 : t / 2 ^ 63 = 0 := h2
    omega
theorem uN_xor (x : Int64) : uN (x ^^^ (-9223372036854775808)) = (uN x + 9223372036854775808) % 18446744073709551616 := by
  rw [← nat_xor (uN_lt x)]
  exact UInt64.toNat_xor _ _
theorem uN_int (x : Int64) : x.toInt = if 2 * uN x < 18446744073709551616 then (uN x : Int) else (uN x : Int) - 18446744073709551616 := BitVec.toInt_eq_toNat_cond _
theorem uN_le (x y : Int64) : (x ^^^ (-9223372036854775808)) ≤ (y ^^^ (-9223372036854775808)) ↔ uN x ≤ uN y := by
  have hx := uN_lt x
  have hy := uN_lt y
  rw [Int64.le_iff_toInt_le, uN_int, uN_int, uN_xor, uN_xor]
  omega
theorem uN_sk (x : Int64) {k : Nat} (hk : k < 64) : uN (x.toUInt64 >>> ((nI k).toInt64.toUInt64 &&& Int64.toUInt64 63)).toInt64 = uN x / 2 ^ k := by
  have h : ((nI k).toInt64.toUInt64 &&& Int64.toUInt64 63).toNat % 64 = k := by
    rw [nI_l (by omega), UInt64.toNat_and]
    have e : (lN k).toUInt64.toNat = k % 2 ^ 64 := rfl
    have e2 : (Int64.toUInt64 63).toNat = 2 ^ 6 - 1 := by decide
    rw [e, e2, Nat.and_two_pow_sub_one_eq_mod]
    omega
  rw [uN_shr, h]
/-! numbers: a word without a sign (uN), a number of 128 bits as an Int by its two words (zh, zl) -/
theorem un_c (x : Int64) : (uN x : Int) = x.toInt % 18446744073709551616 := by
  have h := uN_lt x
  rw [uN_int]; split <;> omega
theorem un_eq {x : Int64} {z : Int} (h : (uN x : Int) = z % 18446744073709551616) (h1 : -9223372036854775808 ≤ z) (h2 : z < 9223372036854775808) : x.toInt = z := by
  have h0 := uN_lt x
  rw [uN_int]; split <;> omega
theorem un_lo (x : Int64) : -9223372036854775808 ≤ x.toInt := by
  have h0 := uN_lt x
  rw [uN_int]; split <;> omega
theorem un_hi (x : Int64) : x.toInt < 9223372036854775808 := by
  have h0 := uN_lt x
  rw [uN_int]; split <;> omega
theorem un_0 : uN 0 = 0 := by decide
theorem un_1 : uN 1 = 1 := by decide
theorem un_add (x y : Int64) : (uN (x + y) : Int) = (x.toInt + y.toInt) % 18446744073709551616 := by
  have h := uN_add x y
  have h1 := un_c x
  have h2 := un_c y
  omega
theorem un_neg (x : Int64) : (uN (-x) : Int) = (-x.toInt) % 18446744073709551616 := by
  have h := uN_add (-x) x
  rw [Int64.add_left_neg, un_0] at h
  have h1 := uN_lt (-x)
  have h2 := uN_lt x
  have h3 := un_c x
  omega
theorem un_sub (x y : Int64) : (uN (x - y) : Int) = (x.toInt - y.toInt) % 18446744073709551616 := by
  rw [Int64.sub_eq_add_neg]
  have h := uN_add x (-y)
  have h1 := un_c x
  have h2 := un_neg y
  omega
theorem un_mul (x y : Int64) : (uN (x * y) : Int) = (x.toInt * y.toInt) % 18446744073709551616 := by
  have h := uN_mul x y
  have h1 := un_c x
  have h2 := un_c y
  rw [h, Int.natCast_emod, Int.natCast_mul, h1, h2]
  exact (Int.mul_emod _ _ _).symm
theorem un_not (x : Int64) : (uN (x ^^^ (-1)) : Int) = (-x.toInt - 1) % 18446744073709551616 := by
  have e : x ^^^ (-1) = ~~~x := by
    apply Int64.toBitVec_inj.mp
    show x.toBitVec ^^^ BitVec.allOnes 64 = ~~~x.toBitVec
    exact BitVec.xor_allOnes
  have h1 : uN (~~~x) = 18446744073709551615 - uN x := by
    show (~~~x.toBitVec).toNat = _
    rw [BitVec.toNat_not]
    rfl
  rw [e, h1]
  have h2 := uN_lt x
  have h3 := un_c x
  omega
theorem sr_k (a s : Int64) (k : Nat) (hs : (s.toBitVec.smod 64).toNat = k) : (a >>> s).toInt = a.toInt >>> k := by
  show (a.toBitVec.sshiftRight (s.toBitVec.smod 64).toNat).toInt = _
  rw [hs, BitVec.toInt_sshiftRight]
  rfl
theorem sr63 (x : Int64) : (x >>> ((63 : Int32).toInt64 &&& 63)).toInt = x.toInt / 9223372036854775808 := by
  rw [sr_k _ _ 63 (by decide), Int.shiftRight_eq_div_pow]
  rfl
theorem sr32 (x : Int64) : (x >>> ((32 : Int32).toInt64 &&& 63)).toInt = x.toInt / 4294967296 := by
  rw [sr_k _ _ 32 (by decide), Int.shiftRight_eq_div_pow]
  rfl
theorem lo32 (x : Int64) : (x &&& 4294967295).toInt = x.toInt % 4294967296 := by
  have h := uN_lo x
  have h1 := un_c x
  refine un_eq ?_ ?_ ?_ <;> omega
/-- the two words of a number -/
def zh (z : Int) : Int64 := Int64.ofInt (z / 18446744073709551616)
def zl (z : Int) : Int64 := Int64.ofInt z
/-- a number of 128 bits -/
def zR (z : Int) : Prop := -170141183460469231731687303715884105728 ≤ z ∧ z < 170141183460469231731687303715884105728
theorem zl_un (z : Int) : (uN (zl z) : Int) = z % 18446744073709551616 := by
  rw [un_c]
  show (Int64.ofInt z).toInt % _ = _
  rw [Int64.toInt_ofInt]
  exact Int.bmod_emod
theorem zh_int {z : Int} (h : zR z) : (zh z).toInt = z / 18446744073709551616 := by
  obtain ⟨h1, h2⟩ := h
  exact Int64.toInt_ofInt_of_le (by omega) (by omega)
theorem zz_of {h w : Int64} {z : Int} (e : h.toInt * 18446744073709551616 + (uN w : Int) = z) : h = zh z ∧ w = zl z := by
  have hw := uN_lt w
  constructor
  · show h = Int64.ofInt (z / 18446744073709551616)
    rw [show z / 18446744073709551616 = h.toInt by omega, Int64.ofInt_toInt]
  · apply uN_inj
    have := zl_un z
    omega
theorem zz_val {z : Int} (h : zR z) : (zh z).toInt * 18446744073709551616 + (uN (zl z) : Int) = z := by
  rw [zh_int h, zl_un]; omega
theorem w_long (v : Int64) : v >>> ((63 : Int32).toInt64 &&& 63) = zh v.toInt ∧ v = zl v.toInt := by
  refine zz_of ?_
  rw [sr63]
  have h1 := un_c v
  have h2 := un_lo v
  have h3 := un_hi v
  omega
theorem w_add {z y : Int} {h2 w2 c : Int64} (hz : zR z) (e2 : h2.toInt * 18446744073709551616 + (uN w2 : Int) = y) (hs : zR (z + y)) (hc : (uN (zl z + w2) < uN w2 ∧ c = 1) ∨ (¬ uN (zl z + w2) < uN w2 ∧ c = 0)) : zh z + h2 + c = zh (z + y) ∧ zl z + w2 = zl (z + y) := by
  obtain ⟨s1, s2⟩ := hs
  refine zz_of ?_
  have a1 := zh_int hz
  have a2 := zl_un z
  have a3 := uN_add (zl z) w2
  have a4 := uN_lt w2
  have a5 := uN_lt (zl z)
  have b1 := un_add (zh z) h2
  have b2 := un_c (zh z + h2)
  have b3 := un_add (zh z + h2) c
  rcases hc with ⟨k1, rfl⟩ | ⟨k1, rfl⟩
  · have c1 : (1 : Int64).toInt = 1 := by decide
    have b4 : (zh z + h2 + 1).toInt = z / 18446744073709551616 + h2.toInt + 1 := un_eq (by omega) (by omega) (by omega)
    omega
  · have c1 : (0 : Int64).toInt = 0 := by decide
    have b4 : (zh z + h2 + 0).toInt = z / 18446744073709551616 + h2.toInt := un_eq (by omega) (by omega) (by omega)
    omega
theorem w_neg0 {z : Int} (hz : zR z) (hs : zR (-z)) (h0 : -(zl z) = 0) : -(zh z) = zh (-z) ∧ -(zl z) = zl (-z) := by
  obtain ⟨s1, s2⟩ := hs
  refine zz_of ?_
  have a1 := zh_int hz
  have a2 := zl_un z
  have a3 := un_neg (zl z)
  have a6 := un_c (zl z)
  have a4 := un_neg (zh z)
  have a5 : uN (-(zl z)) = 0 := by rw [h0]; exact un_0
  have b4 : (-(zh z)).toInt = -(z / 18446744073709551616) := un_eq (by omega) (by omega) (by omega)
  omega
theorem w_neg1 {z : Int} (hz : zR z) (hs : zR (-z)) (h0 : ¬ -(zl z) = 0) : zh z ^^^ (-1) = zh (-z) ∧ -(zl z) = zl (-z) := by
  obtain ⟨s1, s2⟩ := hs
  refine zz_of ?_
  have a1 := zh_int hz
  have a2 := zl_un z
  have a3 := un_neg (zl z)
  have a6 := un_c (zl z)
  have a4 := un_not (zh z)
  have a5 : ¬ uN (-(zl z)) = 0 := fun q => h0 (uN_inj (q.trans un_0.symm))
  have b4 : (zh z ^^^ (-1)).toInt = -(z / 18446744073709551616) - 1 := un_eq (by omega) (by omega) (by omega)
  omega
theorem mul_rng {p t a b c : Int} (h1 : -a ≤ p) (h2 : p ≤ b) (h3 : 0 ≤ t) (h4 : t ≤ c) (ha : 0 ≤ a) (hb : 0 ≤ b) : -(a * c) ≤ p * t ∧ p * t ≤ b * c := by
  have e1 : -a * t ≤ p * t := Int.mul_le_mul_of_nonneg_right h1 h3
  have e2 : p * t ≤ b * t := Int.mul_le_mul_of_nonneg_right h2 h3
  have e3 : a * t ≤ a * c := Int.mul_le_mul_of_nonneg_left h4 ha
  have e4 : b * t ≤ b * c := Int.mul_le_mul_of_nonneg_left h4 hb
  rw [Int.neg_mul] at e1
  omega
theorem ti_add {x y : Int64} (h1 : -9223372036854775808 ≤ x.toInt + y.toInt) (h2 : x.toInt + y.toInt < 9223372036854775808) : (x + y).toInt = x.toInt + y.toInt := un_eq (un_add x y) h1 h2
theorem ti_mul {x y : Int64} (h1 : -9223372036854775808 ≤ x.toInt * y.toInt) (h2 : x.toInt * y.toInt < 9223372036854775808) : (x * y).toInt = x.toInt * y.toInt := un_eq (un_mul x y) h1 h2
theorem ring_id (x y z w A : Int) : (x * A + y) * (z * A + w) = x * z * (A * A) + (x * w + y * z) * A + y * w := by
  have h1 : x * A * (z * A) = x * z * (A * A) := by rw [Int.mul_assoc, Int.mul_left_comm A z A, ← Int.mul_assoc]
  have h2 : x * A * w = x * w * A := by rw [Int.mul_assoc, Int.mul_comm A w, ← Int.mul_assoc]
  have h3 : y * (z * A) = y * z * A := (Int.mul_assoc y z A).symm
  rw [Int.add_mul, Int.mul_add, Int.mul_add, Int.add_mul, h1, h2, h3]
  omega
theorem mul_c1 {Y V : Int} (y1 : -9223372034707292160 ≤ Y) (y2 : Y ≤ 9223372030412324865) (v1 : 0 ≤ V) (v2 : V ≤ 18446744065119617025) : -9223372036854775808 ≤ Y + V / 4294967296 ∧ Y + V / 4294967296 < 9223372036854775808 := by omega
theorem mul_c2 {Z k : Int} (y1 : -9223372034707292160 ≤ Z) (y2 : Z ≤ 9223372030412324865) (v1 : 0 ≤ k) (v2 : k < 4294967296) : -9223372036854775808 ≤ Z + k ∧ Z + k < 9223372036854775808 := by omega
theorem mul_c3 {X m c : Int} (x1 : -4611686018427387904 ≤ X) (x2 : X ≤ 4611686018427387904) (m1 : -9223372036854775808 ≤ m) (m2 : m < 9223372036854775808) (c1 : -9223372036854775808 ≤ c) (c2 : c < 9223372036854775808) : -9223372036854775808 ≤ X + m / 4294967296 ∧ X + m / 4294967296 < 9223372036854775808 ∧ -9223372036854775808 ≤ X + m / 4294967296 + c / 4294967296 ∧ X + m / 4294967296 + c / 4294967296 < 9223372036854775808 := by omega
theorem mul_c4 {X Y Z V P m c : Int} (hm : m = Y + V / 4294967296) (hc : c = Z + m % 4294967296) (hP : P = X * 18446744073709551616 + (Y + Z) * 4294967296 + V) : (X + m / 4294967296 + c / 4294967296) * 18446744073709551616 + P % 18446744073709551616 = P := by omega
theorem mul_sp (x : Int) (h1 : -9223372036854775808 ≤ x) (h2 : x < 9223372036854775808) : x = x / 4294967296 * 4294967296 + x % 4294967296 ∧ -2147483648 ≤ x / 4294967296 ∧ x / 4294967296 ≤ 2147483647 ∧ 0 ≤ x % 4294967296 ∧ x % 4294967296 ≤ 4294967295 := by omega
theorem mul_xz {x z : Int} (xl : -2147483648 ≤ x) (xh : x ≤ 2147483647) (zl1 : -2147483648 ≤ z) (zh1 : z ≤ 2147483647) : -4611686018427387904 ≤ x * z ∧ x * z ≤ 4611686018427387904 := by
  by_cases q : 0 ≤ z
  · have := mul_rng xl xh q zh1 (by decide) (by decide)
    omega
  · have := mul_rng xl xh (t := -z) (c := 2147483648) (by omega) (by omega) (by decide) (by decide)
    rw [Int.mul_neg] at this
    omega
theorem mul_xw {x w : Int} (xl : -2147483648 ≤ x) (xh : x ≤ 2147483647) (wl : 0 ≤ w) (wh : w ≤ 4294967295) : -9223372034707292160 ≤ x * w ∧ x * w ≤ 9223372030412324865 := by
  have := mul_rng xl xh wl wh (by decide) (by decide)
  omega
theorem mul_yw {y w : Int} (yl : 0 ≤ y) (yh : y ≤ 4294967295) (wl : 0 ≤ w) (wh : w ≤ 4294967295) : 0 ≤ y * w ∧ y * w ≤ 18446744065119617025 := by
  have := mul_rng (a := 0) (by omega) yh wl wh (by decide) (by decide)
  omega
theorem ush_ti {x : Int64} {V : Int} (h : (uN x : Int) = V) : ((x.toUInt64 >>> ((32 : Int32).toInt64.toUInt64 &&& Int64.toUInt64 63)).toInt64).toInt = V / 4294967296 := by
  have h1 := uN_s32 x
  have h2 := uN_lt x
  exact un_eq (by omega) (by omega) (by omega)
theorem un_mulp {x y : Int64} {V : Int} (h : x.toInt * y.toInt = V) (v1 : 0 ≤ V) (v2 : V ≤ 18446744065119617025) : (uN (x * y) : Int) = V := by
  have h1 := un_mul x y
  rw [h] at h1
  omega
theorem w_mul (a b : Int64) {x y z w mi cr : Int64} (hx : x = a >>> ((32 : Int32).toInt64 &&& 63)) (hy : y = a &&& 4294967295) (hz : z = b >>> ((32 : Int32).toInt64 &&& 63)) (hw : w = b &&& 4294967295)
    (hm : mi = x * w + ((y * w).toUInt64 >>> ((32 : Int32).toInt64.toUInt64 &&& Int64.toUInt64 63)).toInt64) (hc : cr = y * z + (mi &&& 4294967295)) :
    x * z + (mi >>> ((32 : Int32).toInt64 &&& 63)) + (cr >>> ((32 : Int32).toInt64 &&& 63)) = zh (a.toInt * b.toInt) ∧ a * b = zl (a.toInt * b.toInt) := by
  have x1 : x.toInt = a.toInt / 4294967296 := by rw [hx, sr32]
  have y1 : y.toInt = a.toInt % 4294967296 := by rw [hy, lo32]
  have z1 : z.toInt = b.toInt / 4294967296 := by rw [hz, sr32]
  have w1 : w.toInt = b.toInt % 4294967296 := by rw [hw, lo32]
  obtain ⟨ea, a1, a2, a3, a4⟩ := mul_sp a.toInt (un_lo a) (un_hi a)
  obtain ⟨eb, b1, b2, b3, b4⟩ := mul_sp b.toInt (un_lo b) (un_hi b)
  rw [← x1] at a1 a2
  rw [← y1] at a3 a4
  rw [← z1] at b1 b2
  rw [← w1] at b3 b4
  rw [← x1, ← y1] at ea
  rw [← z1, ← w1] at eb
  have rXZ := mul_xz a1 a2 b1 b2
  have rXW := mul_xw a1 a2 b3 b4
  have rZY := mul_xw b1 b2 a3 a4
  rw [Int.mul_comm z.toInt y.toInt] at rZY
  have rYW := mul_yw a3 a4 b3 b4
  have pe : a.toInt * b.toInt = x.toInt * z.toInt * 18446744073709551616 + (x.toInt * w.toInt + y.toInt * z.toInt) * 4294967296 + y.toInt * w.toInt := by
    rw [ea, eb, ring_id]
    rfl
  have tV := ush_ti (un_mulp (x := y) (y := w) rfl rYW.1 rYW.2)
  have tXW : (x * w).toInt = x.toInt * w.toInt := ti_mul (by clear pe tV ea eb; omega) (by clear pe tV ea eb; omega)
  have tYZ : (y * z).toInt = y.toInt * z.toInt := ti_mul (by clear pe tV ea eb; omega) (by clear pe tV ea eb; omega)
  have tXZ : (x * z).toInt = x.toInt * z.toInt := ti_mul (by clear pe tV ea eb; omega) (by clear pe tV ea eb; omega)
  have c1 := mul_c1 rXW.1 rXW.2 rYW.1 rYW.2
  have mt : mi.toInt = x.toInt * w.toInt + y.toInt * w.toInt / 4294967296 := by
    rw [hm, ti_add (by rw [tXW, tV]; exact c1.1) (by rw [tXW, tV]; exact c1.2), tXW, tV]
  have kl := lo32 mi
  have k0 : 0 ≤ (mi &&& 4294967295).toInt ∧ (mi &&& 4294967295).toInt < 4294967296 := by rw [kl]; exact ⟨Int.emod_nonneg _ (by decide), Int.emod_lt_of_pos _ (by decide)⟩
  have c2 := mul_c2 rZY.1 rZY.2 k0.1 k0.2
  have ct : cr.toInt = y.toInt * z.toInt + mi.toInt % 4294967296 := by
    rw [hc, ti_add (by rw [tYZ]; exact c2.1) (by rw [tYZ]; exact c2.2), tYZ, kl]
  have c3 := mul_c3 rXZ.1 rXZ.2 (un_lo mi) (un_hi mi) (un_lo cr) (un_hi cr)
  have s1 : (x * z + (mi >>> ((32 : Int32).toInt64 &&& 63))).toInt = x.toInt * z.toInt + mi.toInt / 4294967296 := by
    rw [ti_add (by rw [tXZ, sr32]; exact c3.1) (by rw [tXZ, sr32]; exact c3.2.1), tXZ, sr32]
  have s2 : (x * z + (mi >>> ((32 : Int32).toInt64 &&& 63)) + (cr >>> ((32 : Int32).toInt64 &&& 63))).toInt = x.toInt * z.toInt + mi.toInt / 4294967296 + cr.toInt / 4294967296 := by
    rw [ti_add (by rw [s1, sr32]; exact c3.2.2.1) (by rw [s1, sr32]; exact c3.2.2.2), s1, sr32]
  refine zz_of ?_
  rw [s2, un_mul]
  exact mul_c4 mt ct pe
/-- unsigned order, by the sign bit turned -/
theorem un_less (x y : Int64) : (x ^^^ (-9223372036854775808)) < (y ^^^ (-9223372036854775808)) ↔ uN x < uN y := by
  have hx := uN_lt x
  have hy := uN_lt y
  rw [Int64.lt_iff_toInt_lt, uN_int, uN_int, uN_xor, uN_xor]
  omega
theorem w_isneg {z : Int} (hz : zR z) : (0 ≤ zh z) ↔ ¬ z < 0 := by
  rw [Int64.le_iff_toInt_le, zh_int hz]
  have : (0 : Int64).toInt = 0 := by decide
  omega
theorem w_fits {z : Int} (hz : zR z) : (zh z = zl z >>> ((63 : Int32).toInt64 &&& 63)) ↔ (-9223372036854775808 ≤ z ∧ z < 9223372036854775808) := by
  obtain ⟨h1, h2⟩ := id hz
  rw [← Int64.toInt_inj, zh_int hz, sr63]
  have a := zl_un z
  have b := un_c (zl z)
  have c := un_lo (zl z)
  have d := un_hi (zl z)
  constructor
  · intro h; omega
  · intro h; omega
theorem w_low {z : Int} (h1 : -9223372036854775808 ≤ z) (h2 : z < 9223372036854775808) : (zl z).toInt = z := un_eq (zl_un z) h1 h2
theorem w_lt {z y : Int} (hz : zR z) (hy : zR y) : (zh z < zh y) ↔ z / 18446744073709551616 < y / 18446744073709551616 := by
  rw [Int64.lt_iff_toInt_lt, zh_int hz, zh_int hy]
theorem w_he {z y : Int} (hz : zR z) (hy : zR y) : (zh z = zh y) ↔ z / 18446744073709551616 = y / 18446744073709551616 := by
  rw [← Int64.toInt_inj, zh_int hz, zh_int hy]
theorem w_le (z y : Int) : (zl z = zl y) ↔ z % 18446744073709551616 = y % 18446744073709551616 := by
  have a := zl_un z
  have b := zl_un y
  constructor
  · intro h; rw [h] at a; omega
  · intro h; exact uN_inj (by omega)
theorem w_ll (z y : Int) : (uN (zl z) < uN (zl y)) ↔ z % 18446744073709551616 < y % 18446744073709551616 := by
  have a := zl_un z
  have b := zl_un y
  omega
/-! long division, bit by bit -/
def dvI (D N i V R : Nat) : Prop := ∃ T Q, V = T * 2 ^ i + Q ∧ T < 2 ^ (128 - i) ∧ Q < 2 ^ i ∧ N = (Q * D + R) * 2 ^ (128 - i) + T ∧ R < D
theorem dv_0 {D N : Nat} (hD : 0 < D) (hN : N < 2 ^ 128) : dvI D N 0 N 0 := ⟨N, 0, by omega, hN, by decide, by omega, hD⟩
theorem dv_end {D N V R : Nat} (h : dvI D N 128 V R) : V = N / D ∧ R = N % D := by
  obtain ⟨T, Q, h1, h2, h3, h4, h5⟩ := h
  have e : 2 ^ (128 - 128) = 1 := rfl
  rw [e] at h2 h4
  have t0 : T = 0 := by omega
  subst t0
  have e1 : V = Q := by omega
  have e2 : N = R + D * V := by rw [e1, Nat.mul_comm D Q]; omega
  rw [e2]
  constructor
  · rw [Nat.add_mul_div_left _ _ (by omega), Nat.div_eq_of_lt h5]; omega
  · rw [Nat.add_mul_mod_self_left, Nat.mod_eq_of_lt h5]
theorem nm2 (Q D R E T b : Nat) : (Q * D + R) * (2 * E) + (b * E + T) = (2 * Q * D + (2 * R + b)) * E + T := by
  have h1 : (Q * D + R) * (2 * E) = 2 * (Q * D * E) + 2 * (R * E) := by rw [Nat.add_mul, Nat.mul_left_comm, Nat.mul_left_comm R 2 E]
  have h2 : (2 * Q * D + (2 * R + b)) * E = 2 * (Q * D * E) + (2 * (R * E) + b * E) := by rw [Nat.add_mul, Nat.add_mul, Nat.mul_assoc 2 Q D, Nat.mul_assoc 2 (Q * D) E, Nat.mul_assoc 2 R E]
  omega
theorem nm3 {Q D R b : Nat} (h : D ≤ 2 * R + b) : (2 * Q + 1) * D + (2 * R + b - D) = 2 * Q * D + (2 * R + b) := by
  rw [Nat.add_mul, Nat.one_mul]
  omega
theorem dv_go {D N E F T' Q R V b : Nat} (hN : N = (Q * D + R) * (2 * E) + (b * E + T')) (hV : V = 2 * (T' * F) + 2 * Q) (hT : T' < E) (hQ : Q < F) (hR : R < D) (hb : b ≤ 1) :
    (2 * R + b < D → ∃ T Q1, V = T * (2 * F) + Q1 ∧ T < E ∧ Q1 < 2 * F ∧ N = (Q1 * D + (2 * R + b)) * E + T ∧ 2 * R + b < D) ∧ (D ≤ 2 * R + b → ∃ T Q1, V + 1 = T * (2 * F) + Q1 ∧ T < E ∧ Q1 < 2 * F ∧ N = (Q1 * D + (2 * R + b - D)) * E + T ∧ 2 * R + b - D < D) := by
  refine ⟨fun hd => ⟨T', 2 * Q, ?_, hT, by omega, ?_, hd⟩, fun hd => ⟨T', 2 * Q + 1, ?_, hT, by omega, ?_, by omega⟩⟩
  · rw [hV, Nat.mul_left_comm T' 2 F]
  · rw [hN, nm2]
  · rw [hV, Nat.mul_left_comm T' 2 F]; omega
  · rw [hN, nm2, nm3 hd]
theorem dv_step {D N i V R : Nat} (hi : i < 128) (h : dvI D N i V R) :
    (2 * R + V / 2 ^ 127 < D → dvI D N (i + 1) (2 * V % 2 ^ 128) (2 * R + V / 2 ^ 127)) ∧ (D ≤ 2 * R + V / 2 ^ 127 → dvI D N (i + 1) (2 * V % 2 ^ 128 + 1) (2 * R + V / 2 ^ 127 - D)) := by
  obtain ⟨T, Q, h1, h2, h3, h4, h5⟩ := h
  have e1 : 2 ^ (128 - i) = 2 * 2 ^ (127 - i) := by rw [show 128 - i = (127 - i) + 1 by omega, Nat.pow_succ, Nat.mul_comm]
  have e2 : 2 ^ (i + 1) = 2 * 2 ^ i := by rw [Nat.pow_succ, Nat.mul_comm]
  have e3 : 128 - (i + 1) = 127 - i := by omega
  have e4 : 2 ^ (127 - i) * 2 ^ i = 170141183460469231731687303715884105728 := by rw [← Nat.pow_add, show 127 - i + i = 127 by omega]
  have e5 : (2 : Nat) ^ 128 = 340282366920938463463374607431768211456 := by decide
  have e6 : (2 : Nat) ^ 127 = 170141183460469231731687303715884105728 := by decide
  rw [e1] at h2 h4
  unfold dvI
  rw [e2, e3, e5, e6]
  clear e1 e2 e3 e5 e6
  generalize 2 ^ (127 - i) = E at *
  generalize 2 ^ i = F at *
  by_cases hT : T < E
  · have k1 : T * F + F ≤ E * F := by
      have := Nat.mul_le_mul_right F (show T + 1 ≤ E by omega)
      rw [Nat.add_mul, Nat.one_mul] at this
      exact this
    have k2 : V / 170141183460469231731687303715884105728 = 0 := by omega
    have k3 : 2 * V % 340282366920938463463374607431768211456 = 2 * (T * F) + 2 * Q := by omega
    rw [k2, k3]
    exact dv_go (by rw [h4]; omega) rfl hT h3 h5 (by omega)
  · obtain ⟨T', rfl⟩ : ∃ T', T = E + T' := ⟨T - E, by omega⟩
    have k1 : T' * F + F ≤ E * F := by
      have := Nat.mul_le_mul_right F (show T' + 1 ≤ E by omega)
      rw [Nat.add_mul, Nat.one_mul] at this
      exact this
    rw [Nat.add_mul] at h1
    have k2 : V / 170141183460469231731687303715884105728 = 1 := by omega
    have k3 : 2 * V % 340282366920938463463374607431768211456 = 2 * (T' * F) + 2 * Q := by omega
    rw [k2, k3]
    exact dv_go (by rw [h4, Nat.one_mul]) rfl (by omega) h3 h5 (by omega)
/-- one step of the loop over the machine's words -/
theorem dv_words {hi lo r : Int64} {D : Nat} (hr : uN r < D) (hD : D ≤ 9223372036854775808) :
    uN ((r <<< ((1 : Int32).toInt64 &&& 63)) ||| (hi.toUInt64 >>> ((63 : Int32).toInt64.toUInt64 &&& Int64.toUInt64 63)).toInt64) = 2 * uN r + (uN hi * 18446744073709551616 + uN lo) / 2 ^ 127 ∧
    uN ((hi <<< ((1 : Int32).toInt64 &&& 63)) ||| (lo.toUInt64 >>> ((63 : Int32).toInt64.toUInt64 &&& Int64.toUInt64 63)).toInt64) * 18446744073709551616 + uN (lo <<< ((1 : Int32).toInt64 &&& 63)) = 2 * (uN hi * 18446744073709551616 + uN lo) % 2 ^ 128 := by
  have a := uN_lt hi
  have b := uN_lt lo
  have e5 : (2 : Nat) ^ 128 = 340282366920938463463374607431768211456 := by decide
  have e6 : (2 : Nat) ^ 127 = 170141183460469231731687303715884105728 := by decide
  rw [uN_or (by rw [uN_s63]; omega), uN_or (by rw [uN_s63]; omega), uN_s63, uN_s63, uN_shl, e5, e6]
  constructor <;> omega
theorem dv_or (x : Int64) : uN ((x <<< ((1 : Int32).toInt64 &&& 63)) ||| 1) = uN (x <<< ((1 : Int32).toInt64 &&& 63)) + 1 := by
  rw [uN_or (by rw [un_1]; omega), uN_shl, un_1]
theorem w_lv (v : Int64) : (v >>> ((63 : Int32).toInt64 &&& 63)).toInt * 18446744073709551616 + (uN v : Int) = v.toInt := by
  rw [sr63]
  have h1 := un_c v
  have h2 := un_lo v
  have h3 := un_hi v
  omega
theorem w_hle {z y : Int} (hz : zR z) (hy : zR y) : (zh z ≤ zh y) ↔ z / 18446744073709551616 ≤ y / 18446744073709551616 := by
  rw [Int64.le_iff_toInt_le, zh_int hz, zh_int hy]
/-- the words at the start and the end of the division -/
theorem dv_in {z : Int} (h0 : 0 ≤ z) (hz : zR z) : uN (zh z) * 18446744073709551616 + uN (zl z) = z.toNat := by
  have a := zz_val hz
  have b := zh_int hz
  have c := un_c (zh z)
  obtain ⟨h1, h2⟩ := hz
  omega
theorem dv_out {hi lo : Int64} {q : Nat} (h : uN hi * 18446744073709551616 + uN lo = q) (hq : q < 170141183460469231731687303715884105728) : hi = zh (q : Int) ∧ lo = zl (q : Int) := by
  refine zz_of ?_
  have a := uN_lt lo
  have b : hi.toInt = (uN hi : Int) := un_eq (by omega) (by omega) (by omega)
  omega
