/-! ===== lN n to 2^64: shifts, and, or, masks, one bit ===== -/
theorem wb_tb (n : Nat) : (lN n).toBitVec = BitVec.ofNat 64 n := rfl
theorem wb_inj {a b : Int64} (h : a.toBitVec = b.toBitVec) : a = b := Int64.toBitVec_inj.mp h
theorem wb_tn {n : Nat} (h : n < 2 ^ 64) : (lN n).toBitVec.toNat = n := by rw [wb_tb, BitVec.toNat_ofNat, Nat.mod_eq_of_lt h]
theorem wb_of (x : Int64) : ∃ n, n < 2 ^ 64 ∧ x = lN n := ⟨x.toBitVec.toNat, x.toBitVec.isLt, wb_inj (by rw [wb_tb]; simp)⟩
theorem wb_of32 (x : Int32) : ∃ n, n < 2 ^ 32 ∧ x = nI n := ⟨x.toBitVec.toNat, x.toBitVec.isLt, Int32.toBitVec_inj.mp (by show _ = BitVec.ofNat 32 _; simp)⟩
theorem wb_c : ∀ k, k < 64 → ((nI k).toInt64 &&& 63) = lN k := by decide +kernel
theorem wb_cu : ∀ k, k < 64 → ((nI k).toInt64.toUInt64 &&& Int64.toUInt64 63) = UInt64.ofNat k := by decide +kernel
theorem wb_sm : ∀ k, k < 64 → (BitVec.ofNat 64 k).smod 64 = BitVec.ofNat 64 k := by decide +kernel
theorem wb_pw {a b : Nat} (h : a ≤ b) : 2 ^ b = 2 ^ a * 2 ^ (b - a) := by rw [← Nat.pow_add]; congr 1; omega
theorem wb_lt2 {a b : Nat} (h : a < b) : 2 ^ a < 2 ^ b := Nat.pow_lt_pow_right (by decide) h
theorem wb_mod (n : Nat) : lN n = lN (n % 2 ^ 64) := wb_inj (by rw [wb_tb, wb_tb]; apply BitVec.eq_of_toNat_eq; rw [BitVec.toNat_ofNat, BitVec.toNat_ofNat, Nat.mod_mod])
theorem wb_shr {n k : Nat} (hn : n < 2 ^ 64) (hk : k < 64) : ((lN n).toUInt64 >>> ((nI k).toInt64.toUInt64 &&& Int64.toUInt64 63)).toInt64 = lN (n / 2 ^ k) := by
  rw [wb_cu k hk]
  apply wb_inj
  apply BitVec.eq_of_toNat_eq
  show ((lN n).toUInt64 >>> UInt64.ofNat k).toNat = (BitVec.ofNat 64 _).toNat
  have h1 : (UInt64.ofNat k).toNat = k := by
    show (BitVec.ofNat 64 k).toNat = k
    rw [BitVec.toNat_ofNat, Nat.mod_eq_of_lt (by omega)]
  have h2 : (lN n).toUInt64.toNat = n := wb_tn hn
  rw [UInt64.toNat_shiftRight, h1, h2, Nat.mod_eq_of_lt hk, Nat.shiftRight_eq_div_pow, BitVec.toNat_ofNat, Nat.mod_eq_of_lt (Nat.lt_of_le_of_lt (Nat.div_le_self _ _) hn)]
theorem wb_shl (n : Nat) {k : Nat} (hk : k < 64) : lN n <<< ((nI k).toInt64 &&& 63) = lN (n * 2 ^ k) := by
  rw [wb_c k hk]
  apply wb_inj
  rw [Int64.toBitVec_shiftLeft, wb_tb, wb_tb, wb_tb, wb_sm k hk]
  apply BitVec.eq_of_toNat_eq
  rw [BitVec.shiftLeft_eq', BitVec.toNat_shiftLeft, BitVec.toNat_ofNat, BitVec.toNat_ofNat, BitVec.toNat_ofNat, Nat.mod_eq_of_lt (show k < 2 ^ 64 by omega), Nat.shiftLeft_eq, Nat.mul_mod, Nat.mod_mod, ← Nat.mul_mod]
theorem wb_and {a b : Nat} (ha : a < 2 ^ 64) (hb : b < 2 ^ 64) : lN a &&& lN b = lN (a &&& b) := by
  apply wb_inj
  rw [Int64.toBitVec_and, wb_tb, wb_tb, wb_tb]
  apply BitVec.eq_of_toNat_eq
  rw [BitVec.toNat_and, BitVec.toNat_ofNat, BitVec.toNat_ofNat, BitVec.toNat_ofNat, Nat.mod_eq_of_lt ha, Nat.mod_eq_of_lt hb, Nat.mod_eq_of_lt (Nat.and_lt_two_pow _ hb)]
theorem wb_or {a b : Nat} (ha : a < 2 ^ 64) (hb : b < 2 ^ 64) : lN a ||| lN b = lN (a ||| b) := by
  apply wb_inj
  rw [Int64.toBitVec_or, wb_tb, wb_tb, wb_tb]
  apply BitVec.eq_of_toNat_eq
  rw [BitVec.toNat_or, BitVec.toNat_ofNat, BitVec.toNat_ofNat, BitVec.toNat_ofNat, Nat.mod_eq_of_lt ha, Nat.mod_eq_of_lt hb, Nat.mod_eq_of_lt (Nat.or_lt_two_pow ha hb)]
theorem wb_mask {n k : Nat} (hn : n < 2 ^ 64) (hk : k < 64) : lN n &&& lN (2 ^ k - 1) = lN (n % 2 ^ k) := by
  rw [wb_and hn (by have := wb_lt2 hk; omega), Nat.and_two_pow_sub_one_eq_mod]
theorem wb_a1 {n : Nat} (hn : n < 2 ^ 64) : lN n &&& 1 = lN (n % 2) := wb_mask (k := 1) hn (by decide)
theorem wb_bit {n k : Nat} (hn : n < 2 ^ 64) (hk : k < 64) : ((lN n).toUInt64 >>> ((nI k).toInt64.toUInt64 &&& Int64.toUInt64 63)).toInt64 &&& 1 = lN (n / 2 ^ k % 2) := by
  rw [wb_shr hn hk, wb_a1 (Nat.lt_of_le_of_lt (Nat.div_le_self _ _) hn)]
theorem wb_xor {q k : Nat} (hk : k < 63) (h : 2 ^ k ≤ q) (h2 : q < 2 ^ (k + 1)) : lN q ^^^ lN (2 ^ k) = lN (q - 2 ^ k) := by
  obtain ⟨r, rfl⟩ : ∃ r, q = 2 ^ k + r := ⟨q - 2 ^ k, by omega⟩
  have hr : r < 2 ^ k := by rw [Nat.pow_succ] at h2; omega
  have hx : (2 ^ k + r) ^^^ 2 ^ k = r := by
    apply Nat.eq_of_testBit_eq
    intro i
    rw [Nat.testBit_xor, Nat.testBit_two_pow]
    rcases Nat.lt_trichotomy i k with h | h | h
    · rw [Nat.testBit_two_pow_add_gt h]
      simp [show ¬ k = i by omega]
    · subst h
      rw [Nat.testBit_two_pow_add_eq]
      simp
    · have a1 : 2 ^ (k + 1) ≤ 2 ^ i := Nat.pow_le_pow_right (by decide) h
      rw [Nat.testBit_lt_two_pow (show 2 ^ k + r < 2 ^ i by omega), Nat.testBit_lt_two_pow (show r < 2 ^ i by omega)]
      simp [show ¬ k = i by omega]
  have b1 := wb_lt2 (show k + 1 < 64 by omega)
  have b2 := wb_lt2 (show k < 64 by omega)
  apply wb_inj
  rw [Int64.toBitVec_xor, wb_tb, wb_tb, wb_tb]
  apply BitVec.eq_of_toNat_eq
  rw [BitVec.toNat_xor, BitVec.toNat_ofNat, BitVec.toNat_ofNat, BitVec.toNat_ofNat, Nat.mod_eq_of_lt (by omega : 2 ^ k + r < 2 ^ 64), Nat.mod_eq_of_lt b2, hx, Nat.add_sub_cancel_left, Nat.mod_eq_of_lt (by omega)]
/-! ===== lN: masks, 'or' of parts that don't overlap is a sum ===== -/
theorem u_tn {n : Nat} (h : n < 2 ^ 64) : (UInt64.ofNat n).toNat = n := Nat.mod_eq_of_lt h
theorem g_and {a b c : Nat} (ha : a < 2 ^ 64) (hb : b < 2 ^ 64) (hc : a &&& b = c) : lN a &&& lN b = lN c := by
  subst hc
  have h : UInt64.ofNat a &&& UInt64.ofNat b = UInt64.ofNat (a &&& b) := UInt64.toNat_inj.mp (by rw [UInt64.toNat_and, u_tn ha, u_tn hb, u_tn (Nat.and_lt_two_pow a hb)])
  have h2 := congrArg UInt64.toInt64 h
  exact h2
theorem g_and1 {a : Nat} (ha : a < 2 ^ 64) : lN a &&& 1 = lN (a % 2) := g_and (b := 1) ha (by decide) (Nat.and_two_pow_sub_one_eq_mod a 1)
theorem g_mask {a s p : Nat} (hp : 2 ^ s = p) (hs : s < 64) (ha : a < 2 ^ 64) : lN a &&& lN (p - 1) = lN (a % p) := by
  subst hp
  have := Nat.pow_lt_pow_right (show 1 < 2 by decide) hs
  exact g_and ha (by omega) (Nat.and_two_pow_sub_one_eq_mod a s)
theorem g_or {k p a b : Nat} (hp : 2 ^ k = p) (ha : a < p) (h : b * p + a < 2 ^ 64) : lN (b * p) ||| lN a = lN (b * p + a) := by
  subst hp
  have h1 : b * 2 ^ k ||| a = b * 2 ^ k + a := by rw [← Nat.shiftLeft_eq, Nat.shiftLeft_add_eq_or_of_lt ha]
  have h3 : UInt64.ofNat (b * 2 ^ k) ||| UInt64.ofNat a = UInt64.ofNat (b * 2 ^ k + a) := UInt64.toNat_inj.mp (by rw [UInt64.toNat_or, u_tn (by omega), u_tn (by omega), u_tn h, h1])
  have h2 := congrArg UInt64.toInt64 h3
  exact h2
theorem g_or' {k p a b : Nat} (hp : 2 ^ k = p) (ha : a < p) (h : a + b * p < 2 ^ 64) : lN a ||| lN (b * p) = lN (a + b * p) := by
  rw [Int64.or_comm, g_or hp ha (by omega), Nat.add_comm]
theorem g_ushr {a k p : Nat} {y : UInt64} (hy : y = UInt64.ofNat k) (hk : k < 64) (hp : 2 ^ k = p) (ha : a < 2 ^ 64) : ((lN a).toUInt64 >>> y).toInt64 = lN (a / p) := by
  subst hy hp
  have h : UInt64.ofNat a >>> UInt64.ofNat k = UInt64.ofNat (a / 2 ^ k) := UInt64.toNat_inj.mp (by rw [UInt64.toNat_shiftRight, u_tn ha, u_tn (by omega), u_tn (Nat.lt_of_le_of_lt (Nat.div_le_self _ _) ha), Nat.mod_eq_of_lt hk, Nat.shiftRight_eq_div_pow])
  have h2 := congrArg UInt64.toInt64 h
  exact h2
theorem g_shl {a k p : Nat} {y : Int64} (hy : y.toBitVec.smod 64 = BitVec.ofNat 64 k) (hk : k < 64) (hp : 2 ^ k = p) (ha : a < 2 ^ 64) : lN a <<< y = lN (a * p) := by
  subst hp
  apply Int64.toBitVec_inj.mp
  rw [Int64.toBitVec_shiftLeft, hy]
  apply BitVec.eq_of_toNat_eq
  have hb : (lN a).toBitVec.toNat = a := Nat.mod_eq_of_lt ha
  have hk' : (BitVec.ofNat 64 k).toNat = k := Nat.mod_eq_of_lt (by omega)
  have h : ((lN a).toBitVec <<< BitVec.ofNat 64 k).toNat = (a * 2 ^ k) % 2 ^ 64 := by simp only [BitVec.shiftLeft_eq', BitVec.toNat_shiftLeft, hb, hk', Nat.shiftLeft_eq]
  exact h
/-! ===== lN to 2^62 under >> and >>> ===== -/
theorem pf_lI {a : Nat} (h : a < 2 ^ 63) : (lN a).toInt = (a : Int) := lg_ofNat_toInt h
theorem pf_shr {a d : Nat} {D : Int64} (hD : (D.toBitVec.smod 64).toNat = d) (h : a < 2 ^ 62) : lN a >>> D = lN (a / 2 ^ d) := by
  have hd : a / 2 ^ d ≤ a := Nat.div_le_self _ _
  apply Int64.toInt_inj.mp
  have e : (lN a >>> D).toInt = (lN a).toInt >>> d := by
    rw [← hD]
    exact BitVec.toInt_sshiftRight ..
  rw [e, Int.shiftRight_eq_div_pow, pf_lI (by omega), pf_lI (by omega)]
  rfl
theorem pf_ushr {a d : Nat} {D : UInt64} (hD : D.toNat % 64 = d) (h : a < 2 ^ 62) : ((lN a).toUInt64 >>> D).toInt64 = lN (a / 2 ^ d) := by
  have hd : a / 2 ^ d ≤ a := Nat.div_le_self _ _
  have e : (lN a).toUInt64 >>> D = UInt64.ofNat (a / 2 ^ d) := UInt64.toNat_inj.mp (by
    rw [UInt64.toNat_shiftRight, hD, Nat.shiftRight_eq_div_pow, UInt64.toNat_ofNat']
    show (UInt64.ofNat a).toNat / 2 ^ d = _
    rw [UInt64.toNat_ofNat', Nat.mod_eq_of_lt (by omega), Nat.mod_eq_of_lt (by omega)])
  rw [e]
  rfl
theorem pf_andw (x : Int64) : ∃ m, m < 2 ^ 32 ∧ x &&& 4294967295 = lN m := ⟨x.toBitVec.toNat % 2 ^ 32, Nat.mod_lt _ (by decide), Int64.toBitVec_inj.mp (BitVec.eq_of_toNat_eq (by
  show (x.toBitVec &&& 4294967295#64).toNat = (BitVec.ofNat 64 (x.toBitVec.toNat % 2 ^ 32)).toNat
  rw [BitVec.toNat_and, show (4294967295#64).toNat = 2 ^ 32 - 1 from by decide, Nat.and_two_pow_sub_one_eq_mod, BitVec.toNat_ofNat]
  omega))⟩
/-! ===== Int64 as an unsigned number: uN x ===== -/
def uN (x : Int64) : Nat := x.toUInt64.toNat
theorem uN_lt (x : Int64) : uN x < 18446744073709551616 := x.toUInt64.toNat_lt
theorem uN_inj {x y : Int64} (h : uN x = uN y) : x = y := congrArg UInt64.toInt64 (UInt64.toNat_inj.mp h)
theorem uN_add (x y : Int64) : uN (x + y) = (uN x + uN y) % 18446744073709551616 := by
  show (x.toUInt64 + y.toUInt64).toNat = _
  exact UInt64.toNat_add _ _
theorem uN_mul (x y : Int64) : uN (x * y) = (uN x * uN y) % 18446744073709551616 := by
  show (x.toUInt64 * y.toUInt64).toNat = _
  exact UInt64.toNat_mul _ _
theorem uN_shl (x : Int64) : uN (x <<< ((1 : Int32).toInt64 &&& 63)) = (2 * uN x) % 18446744073709551616 := by
  have h : (((1 : Int32).toInt64 &&& 63).toBitVec.smod 64).toNat = 1 := by decide
  show (x.toBitVec <<< (((1 : Int32).toInt64 &&& 63).toBitVec.smod 64).toNat).toNat = _
  rw [h, BitVec.toNat_shiftLeft, Nat.shiftLeft_eq, Nat.mul_comm]
  rfl
theorem uN_shr (x : Int64) (s : UInt64) : uN (x.toUInt64 >>> s).toInt64 = uN x / 2 ^ (s.toNat % 64) := by
  show (x.toUInt64 >>> s).toNat = _
  rw [UInt64.toNat_shiftRight, Nat.shiftRight_eq_div_pow]
  rfl
theorem uN_s32 (x : Int64) : uN (x.toUInt64 >>> ((32 : Int32).toInt64.toUInt64 &&& Int64.toUInt64 63)).toInt64 = uN x / 4294967296 := by
  have h : ((32 : Int32).toInt64.toUInt64 &&& Int64.toUInt64 63).toNat % 64 = 32 := by decide
  rw [uN_shr, h]
theorem uN_s63 (x : Int64) : uN (x.toUInt64 >>> ((63 : Int32).toInt64.toUInt64 &&& Int64.toUInt64 63)).toInt64 = uN x / 9223372036854775808 := by
  have h : ((63 : Int32).toInt64.toUInt64 &&& Int64.toUInt64 63).toNat % 64 = 63 := by decide
  rw [uN_shr, h]
theorem uN_lo (x : Int64) : uN (x &&& 4294967295) = uN x % 4294967296 := by
  show (x.toUInt64 &&& Int64.toUInt64 4294967295).toNat = _
  rw [UInt64.toNat_and]
  exact Nat.and_two_pow_sub_one_eq_mod _ 32
theorem uN_bit (x : Int64) : (x &&& 1) = 0 ↔ uN x % 2 = 0 := by
  have h : uN (x &&& 1) = uN x % 2 := by
    show (x.toUInt64 &&& Int64.toUInt64 1).toNat = _
    rw [UInt64.toNat_and]
    exact Nat.and_two_pow_sub_one_eq_mod _ 1
  rw [← h]
  exact ⟨fun z => by rw [z]; rfl, fun z => uN_inj (z.trans rfl)⟩
theorem uN_or {x y : Int64} (hy : uN y < 2) : uN ((x <<< ((1 : Int32).toInt64 &&& 63)) ||| y) = (2 * uN x) % 18446744073709551616 + uN y := by
  have h1 : uN ((x <<< ((1 : Int32).toInt64 &&& 63)) ||| y) = uN (x <<< ((1 : Int32).toInt64 &&& 63)) ||| uN y := UInt64.toNat_or _ _
  have h2 : (2 * uN x) % 18446744073709551616 = 2 ^ 1 * (uN x % 9223372036854775808) := by omega
  rw [h1, uN_shl, h2]
  exact (Nat.two_pow_add_eq_or_of_lt (i := 1) hy _).symm
theorem nat_xor {a : Nat} (h : a < 18446744073709551616) : a ^^^ 2 ^ 63 = (a + 9223372036854775808) % 18446744073709551616 := by
  have h1 : (a ^^^ 2 ^ 63) % 2 ^ 63 = a % 2 ^ 63 := by rw [Nat.xor_mod_two_pow, Nat.mod_self, Nat.xor_zero]
  have h2 : (a ^^^ 2 ^ 63) / 2 ^ 63 = (a / 2 ^ 63) ^^^ 1 := by rw [Nat.xor_div_two_pow, Nat.div_self (Nat.two_pow_pos 63)]
  have h3 : a / 2 ^ 63 = 0 ∨ a / 2 ^ 63 = 1 := by omega
  generalize a ^^^ 2 ^ 63 = t at h1 h2
  rcases h3 with h3 | h3
  · rw [h3] at h2
    have h2 : t / 2 ^ 63 = 1 := h2
    omega
  · rw [h3] at h2
    have h2 : t / 2 ^ 63 = 0 := h2
    omega
theorem uN_xor (x : Int64) : uN (x ^^^ (-9223372036854775808)) = (uN x + 9223372036854775808) % 18446744073709551616 := by
  rw [← nat_xor (uN_lt x)]
  exact UInt64.toNat_xor _ _
theorem uN_int (x : Int64) : x.toInt = if 2 * uN x < 18446744073709551616 then (uN x : Int) else (uN x : Int) - 18446744073709551616 := BitVec.toInt_eq_toNat_cond _
theorem uN_le (x y : Int64) : (x ^^^ (-9223372036854775808)) ≤ (y ^^^ (-9223372036854775808)) ↔ uN x ≤ uN y := by
  have hx := uN_lt x
  have hy := uN_lt y
  rw [Int64.le_iff_toInt_le, uN_int, uN_int, uN_xor, uN_xor]
  omega
theorem uN_sk (x : Int64) {k : Nat} (hk : k < 64) : uN (x.toUInt64 >>> ((nI k).toInt64.toUInt64 &&& Int64.toUInt64 63)).toInt64 = uN x / 2 ^ k := by
  have h : ((nI k).toInt64.toUInt64 &&& Int64.toUInt64 63).toNat % 64 = k := by
    rw [nI_l (by omega), UInt64.toNat_and]
    have e : (lN k).toUInt64.toNat = k % 2 ^ 64 := rfl
    have e2 : (Int64.toUInt64 63).toNat = 2 ^ 6 - 1 := by decide
    rw [e, e2, Nat.and_two_pow_sub_one_eq_mod]
    omega
  rw [uN_shr, h]
/-! ===== unsigned comparison by xor with the least ===== -/
theorem lN_bv (n : Nat) : (lN n).toBitVec = BitVec.ofNat 64 n := rfl
theorem lN_nat {n : Nat} (h : n < 2 ^ 64) : (lN n).toBitVec.toNat = n := by rw [lN_bv, BitVec.toNat_ofNat]; exact Nat.mod_eq_of_lt h
theorem lN_xor (a b : Nat) : lN a ^^^ lN b = lN (a ^^^ b) := by
  apply Int64.toBitVec_inj.mp; rw [Int64.toBitVec_xor, lN_bv, lN_bv, lN_bv]; apply BitVec.eq_of_getLsbD_eq; intro i hi; simp [BitVec.getLsbD_ofNat, Nat.testBit_xor, hi]
theorem lN_ti {m : Nat} (h : m < 2 ^ 64) : (lN m).toInt = if m < 2 ^ 63 then (m : Int) else (m : Int) - 2 ^ 64 := by
  have c := BitVec.toInt_eq_toNat_cond (lN m).toBitVec
  rw [lN_nat h] at c
  show (lN m).toBitVec.toInt = _
  rw [c]
  split <;> split <;> omega
theorem xor63 {x : Nat} (h : x < 2 ^ 63) : x ^^^ 2 ^ 63 = 2 ^ 63 + x := by
  apply Nat.eq_of_testBit_eq
  intro i
  rw [Nat.testBit_xor, Nat.testBit_two_pow]
  rcases Nat.lt_trichotomy i 63 with z | z | z
  · rw [Nat.testBit_two_pow_add_gt z, decide_eq_false (by omega)]; simp
  · subst z; rw [Nat.testBit_two_pow_add_eq]; simp
  · have hp : 2 ^ 64 ≤ 2 ^ i := Nat.pow_le_pow_right (by decide) z
    rw [Nat.testBit_lt_two_pow (show x < 2 ^ i by omega), Nat.testBit_lt_two_pow (show 2 ^ 63 + x < 2 ^ i by omega), decide_eq_false (by omega)]; rfl
theorem xorS {a : Nat} (h : a < 2 ^ 64) : (lN a ^^^ (-9223372036854775808)).toInt = (a : Int) - 2 ^ 63 := by
  rw [show (-9223372036854775808 : Int64) = lN (2 ^ 63) from by decide +kernel, lN_xor]
  rcases Nat.lt_or_ge a (2 ^ 63) with z | z
  · rw [xor63 z, lN_ti (by omega), if_neg (by omega)]; omega
  · obtain ⟨x, rfl⟩ : ∃ x, a = 2 ^ 63 + x := ⟨a - 2 ^ 63, by omega⟩
    rw [← xor63 (by omega), Nat.xor_assoc, Nat.xor_self, Nat.xor_zero, lN_ti (by omega), if_pos (by omega), xor63 (by omega)]; omega
theorem ultL {a b : Nat} (ha : a < 2 ^ 64) (hb : b < 2 ^ 64) : ((lN b ^^^ (-9223372036854775808)) ≤ (lN a ^^^ (-9223372036854775808))) ↔ b ≤ a := by
  rw [Int64.le_iff_toInt_le, xorS ha, xorS hb]; omega
/-! the numbers of the class: each row says what an expression of a method's road is worth, as an integer -/
theorem fx_i32 (x : Int32) : -2147483648 ≤ x.toInt ∧ x.toInt ≤ 2147483647 := by
  have h1 := x.le_toInt
  have h2 := x.toInt_lt
  omega
theorem fx_i64 (x : Int64) : -9223372036854775808 ≤ x.toInt ∧ x.toInt ≤ 9223372036854775807 := by
  have h1 := x.le_toInt
  have h2 := x.toInt_lt
  omega
theorem fx_mulb {a b : Int} {A B : Nat} (ha : a.natAbs ≤ A) (hb : b.natAbs ≤ B) : (a * b).natAbs ≤ A * B := by
  rw [Int.natAbs_mul]
  exact Nat.mul_le_mul ha hb
theorem fx_bm64 {x : Int} (h1 : -9223372036854775808 ≤ x) (h2 : x ≤ 9223372036854775807) : x.bmod (2 ^ 64) = x := Int.bmod_eq_of_le (by omega) (by omega)
theorem fx_bm32 {x : Int} (h1 : -2147483648 ≤ x) (h2 : x ≤ 2147483647) : x.bmod (2 ^ 32) = x := Int.bmod_eq_of_le (by omega) (by omega)
theorem fx_lmul (x y : Int64) (h : (x.toInt * y.toInt).natAbs ≤ 9223372036854775807) : (x * y).toInt = x.toInt * y.toInt := by
  rw [Int64.toInt_mul]
  exact fx_bm64 (by omega) (by omega)
theorem fx_lshr (x D : Int64) (d : Nat) (hD : (D.toBitVec.smod 64).toNat = d) : (x >>> D).toInt = x.toInt / ((2 ^ d : Nat) : Int) := by
  have e : (x >>> D).toInt = x.toInt >>> d := by
    rw [← hD]
    exact BitVec.toInt_sshiftRight ..
  rw [e, Int.shiftRight_eq_div_pow]
theorem fx_l16 (a : Int32) (v : Int64) (e : v = 65536 * a.toInt64) : v.toInt = 65536 * a.toInt := by
  have ha := fx_i32 a
  have c1 : (65536 : Int64).toInt = 65536 := by decide
  rw [e, fx_lmul, c1, Int32.toInt_toInt64]
  rw [c1, Int32.toInt_toInt64]
  omega
/-- product -/
theorem fx_product (a b : Int32) : ((a.toInt64 * b.toInt64) >>> ((16 : Int32).toInt64 &&& 63)).toInt32.toInt = (a.toInt * b.toInt / 65536).bmod (2 ^ 32) := by
  have ha := fx_i32 a
  have hb := fx_i32 b
  have hm := fx_mulb (a := a.toInt) (b := b.toInt) (A := 2147483648) (B := 2147483648) (by omega) (by omega)
  have e1 : (a.toInt64 * b.toInt64).toInt = a.toInt * b.toInt := by
    rw [fx_lmul, Int32.toInt_toInt64, Int32.toInt_toInt64]
    rw [Int32.toInt_toInt64, Int32.toInt_toInt64]
    omega
  rw [Int64.toInt_toInt32, fx_lshr _ _ 16 (by decide), e1]
  rfl
/-- cut -/
theorem fx_cut (v m w : Int64) (hm : m = if (2147483647 : Int64) < v then 2147483647 else v) (hw : w = if m < (-2147483648) then -2147483648 else m) : w.toInt32.toInt = max (-2147483648) (min v.toInt 2147483647) := by
  have c1 : (2147483647 : Int64).toInt = 2147483647 := by decide
  have c2 : (-2147483648 : Int64).toInt = -2147483648 := by decide
  have h1 : m.toInt = min v.toInt 2147483647 := by
    by_cases h : (2147483647 : Int64) < v
    · rw [hm, if_pos h, c1]
      rw [Int64.lt_iff_toInt_lt, c1] at h
      omega
    · rw [hm, if_neg h]
      rw [Int64.lt_iff_toInt_lt, c1] at h
      omega
  have h2 : w.toInt = max (-2147483648) (min v.toInt 2147483647) := by
    by_cases h : m < (-2147483648)
    · rw [hw, if_pos h, c2]
      rw [Int64.lt_iff_toInt_lt, c2] at h
      omega
    · rw [hw, if_neg h]
      rw [Int64.lt_iff_toInt_lt, c2] at h
      omega
  rw [Int64.toInt_toInt32, fx_bm32 (by omega) (by omega), h2]
theorem bx3 {A B C : Prop} [Decidable A] [Decidable B] [Decidable C] (h : decide A = (decide B ^^ decide C)) : A ↔ ¬ (B ↔ C) := by
  by_cases a : A <;> by_cases b : B <;> by_cases c : C <;> simp_all
/-- the sign of a xor of longs -/
theorem fx_xor (x y : Int64) : (x ^^^ y) < 0 ↔ ¬ (x.toInt < 0 ↔ y.toInt < 0) := by
  have h0 : (0 : Int64).toInt = 0 := by decide
  rw [Int64.lt_iff_toInt_lt, h0]
  have e1 : (x ^^^ y).toBitVec.msb = (x.toBitVec.msb ^^ y.toBitVec.msb) := by rw [Int64.toBitVec_xor, BitVec.msb_xor]
  rw [BitVec.msb_eq_toInt, BitVec.msb_eq_toInt, BitVec.msb_eq_toInt] at e1
  have a1 : (x ^^^ y).toBitVec.toInt = (x ^^^ y).toInt := rfl
  have a2 : x.toBitVec.toInt = x.toInt := rfl
  have a3 : y.toBitVec.toInt = y.toInt := rfl
  rw [a1, a2, a3] at e1
  exact bx3 e1
/-- quotients: down, by way of a quotient toward 0 -/
theorem fx_fdiv (a b : Int) (hb : b ≠ 0) : a.fdiv b = if (a < 0 ∧ 0 < b ∨ 0 < a ∧ b < 0) ∧ a.tdiv b * b ≠ a then a.tdiv b - 1 else a.tdiv b := by
  have hd : a.tdiv b * b = a ↔ b ∣ a := by
    constructor
    · intro h
      exact ⟨a.tdiv b, by rw [Int.mul_comm]; exact h.symm⟩
    · exact fun h => Int.tdiv_mul_cancel h
  rw [Int.fdiv_eq_tdiv]
  by_cases h : b ∣ a
  · rw [if_pos h, if_neg (fun z => z.2 (hd.mpr h))]
    omega
  · have ha : a ≠ 0 := fun z => h (by rw [z]; exact Int.dvd_zero b)
    rw [if_neg h]
    by_cases h1 : 0 ≤ a <;> by_cases h2 : 0 ≤ b <;> simp only [h1, h2, if_true, if_false]
    · rw [if_neg (by omega)]
      omega
    · rw [if_pos ⟨by omega, fun z => h (hd.mp z)⟩]
    · rw [if_pos ⟨by omega, fun z => h (hd.mp z)⟩, Int.sign_eq_one_of_pos (by omega)]
    · rw [if_neg (by omega), Int.sign_eq_neg_one_of_neg (by omega)]
      omega
theorem fx_tdivb (a b : Int) : (a.tdiv b).natAbs ≤ a.natAbs := by
  rw [Int.natAbs_tdiv]
  exact Nat.div_le_self _ _
/-- Math.floorDiv, by its roads -/
theorem fx_ldiv (x y r : Int64) (hx : -9223372036854775808 < x.toInt) (hr : r = x / y) : r.toInt = x.toInt.tdiv y.toInt := by
  have h := fx_tdivb x.toInt y.toInt
  have h1 := fx_i64 x
  rw [hr, Int64.toInt_div, fx_bm64 (by omega) (by omega)]
theorem fx_fd1 (x y r : Int64) (hy : y.toInt ≠ 0) (hx : -9223372036854775808 < x.toInt) (hr : r = x / y) (h : ¬ (x ^^^ y) < 0 ∨ r * y = x) : r.toInt = x.toInt.fdiv y.toInt := by
  have e1 := fx_ldiv x y r hx hr
  rw [fx_fdiv _ _ hy, if_neg, e1]
  rintro ⟨h1, h2⟩
  rcases h with h | h
  · rw [fx_xor] at h
    omega
  · apply h2
    rw [← e1, ← h, fx_lmul]
    have h3 : (r.toInt * y.toInt).natAbs = (x.toInt.tdiv y.toInt).natAbs * y.toInt.natAbs := by rw [e1, Int.natAbs_mul]
    rw [h3, Int.natAbs_tdiv]
    have h4 := Nat.div_mul_le_self x.toInt.natAbs y.toInt.natAbs
    have h5 := fx_i64 x
    exact Nat.le_trans h4 (by omega)
theorem fx_fd2 (x y r q w : Int64) (hy : y.toInt ≠ 0) (hx : -9223372036854775808 < x.toInt) (hr : r = x / y) (h : (x ^^^ y) < 0) (hw : w = r * y) (hne : ¬ w = x) (hq : q = r - 1) : q.toInt = x.toInt.fdiv y.toInt := by
  have e1 := fx_ldiv x y r hx hr
  have h5 := fx_i64 x
  have h6 := fx_tdivb x.toInt y.toInt
  have h3 : (r.toInt * y.toInt).natAbs ≤ x.toInt.natAbs := by
    rw [e1, Int.natAbs_mul, Int.natAbs_tdiv]
    exact Nat.div_mul_le_self x.toInt.natAbs y.toInt.natAbs
  have e2 : w.toInt = r.toInt * y.toInt := by
    rw [hw, fx_lmul]
    omega
  have hne2 : x.toInt.tdiv y.toInt * y.toInt ≠ x.toInt := fun z => hne (Int64.toInt_inj.mp (by rw [e2, e1]; exact z))
  rw [fx_xor] at h
  have hx0 : x.toInt ≠ 0 := fun z => hne2 (by rw [z]; simp)
  rw [fx_fdiv _ _ hy, if_pos ⟨by omega, hne2⟩, hq, Int64.toInt_sub, e1, show (1 : Int64).toInt = 1 from by decide]
  have h7 : (x.toInt.tdiv y.toInt) * y.toInt ≠ x.toInt := hne2
  have h8 : -9223372036854775808 < x.toInt.tdiv y.toInt := by omega
  exact fx_bm64 (by omega) (by omega)
/-- the greatest root, by bits -/
def dn (k : Nat) : Int32 := nI k - 1
theorem dn_0 : dn 0 = -1 := by decide
theorem dn_s (k : Nat) : dn (k + 1) = nI k := nI_pred k
theorem dn_m (k : Nat) : nI k + Int32.ofInt (-1) = dn k := by
  show nI k + Int32.ofInt (-1) = nI k - 1
  rw [Int32.sub_eq_add_neg]
  rfl
/-! unsigned -/
theorem fx_uadd (x y : Int64) (h : uN x + uN y < 18446744073709551616) : uN (x + y) = uN x + uN y := by rw [uN_add, Nat.mod_eq_of_lt h]
theorem fx_umul (x y : Int64) (h : uN x * uN y < 18446744073709551616) : uN (x * y) = uN x * uN y := by rw [uN_mul, Nat.mod_eq_of_lt h]
theorem fx_uneg (x : Int64) : (uN (-x) + uN x) % 18446744073709551616 = 0 := by
  rw [← uN_add, Int64.add_comm, Int64.add_right_neg]
  rfl
theorem fx_usub (x y : Int64) (h : uN y ≤ uN x) : uN (x - y) = uN x - uN y := by
  have e1 : uN (x - y + y) = uN x := by rw [Int64.sub_add_cancel]
  rw [uN_add] at e1
  have h1 := uN_lt (x - y)
  have h2 := uN_lt x
  omega
theorem fx_and1 (x : Int64) : uN (x &&& 1) = uN x % 2 := by
  show (x.toUInt64 &&& Int64.toUInt64 1).toNat = _
  rw [UInt64.toNat_and]
  exact Nat.and_two_pow_sub_one_eq_mod _ 1
theorem fx_abs1 (v w : Int64) (h : v < 0) (e : w = -v) : uN w = v.toInt.natAbs := by
  have h0 : (0 : Int64).toInt = 0 := by decide
  rw [Int64.lt_iff_toInt_lt, h0] at h
  have h1 := fx_uneg v
  have h2 := uN_int v
  have h3 := uN_lt v
  have h4 := uN_lt (-v)
  rw [e]
  split at h2 <;> omega
theorem fx_abs2 (v : Int64) (h : ¬ v < 0) : uN v = v.toInt.natAbs := by
  have h0 : (0 : Int64).toInt = 0 := by decide
  rw [Int64.lt_iff_toInt_lt, h0] at h
  have h2 := uN_int v
  have h3 := uN_lt v
  split at h2 <;> omega
/-- the upper half of a product -/
theorem fx_hpN {x y xl xh yl yh A B C D : Nat} (hx : x = xh * 4294967296 + xl) (hy : y = yh * 4294967296 + yl) (hA : A = xh * yl) (hB : B = xl * yl) (hC : C = xl * yh) (hD : D = xh * yh) :
    D + (A + B / 4294967296) / 4294967296 + (C + (A + B / 4294967296) % 4294967296) / 4294967296 = x * y / 18446744073709551616 := by
  have e0 : x * y = D * 18446744073709551616 + (A + C) * 4294967296 + B := by
    rw [hx, hy, Nat.add_mul, Nat.mul_add, Nat.mul_add]
    have e1 : xh * 4294967296 * (yh * 4294967296) = xh * yh * (4294967296 * 4294967296) := Nat.mul_mul_mul_comm ..
    have e2 : xh * 4294967296 * yl = xh * yl * 4294967296 := Nat.mul_right_comm ..
    have e3 : xl * (yh * 4294967296) = xl * yh * 4294967296 := (Nat.mul_assoc ..).symm
    rw [e1, e2, e3, ← hA, ← hB, ← hC, ← hD]
    omega
  rw [e0]
  omega
theorem fx_mul32 {a b : Nat} (ha : a < 4294967296) (hb : b < 4294967296) : a * b ≤ 18446744065119617025 := by
  have h := Nat.mul_le_mul (show a ≤ 4294967295 by omega) (show b ≤ 4294967295 by omega)
  omega
/-- one bit more of a quotient -/
theorem fx_bit (L k : Nat) : L / 2 ^ k = 2 * (L / 2 ^ (k + 1)) + L / 2 ^ k % 2 := by
  have h : L / 2 ^ (k + 1) = L / 2 ^ k / 2 := by rw [Nat.pow_succ, Nat.div_div_eq_div_mul]
  rw [h]
  omega
/-! what the answers are -/
def sp_quot (a b : Int) : Int := if b = 0 then (if 0 < a then 2147483647 else if a < 0 then -2147483648 else 0) else max (-2147483648) (min ((65536 * a).fdiv b) 2147483647)
theorem fx_q0p (a b : Int32) (hb : b = 0) (ha : ¬ a ≤ 0) : (2147483647 : Int32).toInt = sp_quot a.toInt b.toInt := by
  have z : (0 : Int32).toInt = 0 := by decide
  rw [Int32.le_iff_toInt_le, z] at ha
  rw [hb, z, sp_quot, if_pos rfl, if_pos (by omega)]
  decide
theorem fx_q0n (a b : Int32) (hb : b = 0) (ha : ¬ 0 ≤ a) : (-2147483648 : Int32).toInt = sp_quot a.toInt b.toInt := by
  have z : (0 : Int32).toInt = 0 := by decide
  rw [Int32.le_iff_toInt_le, z] at ha
  rw [hb, z, sp_quot, if_pos rfl, if_neg (by omega), if_pos (by omega)]
  decide
theorem fx_q00 (a b : Int32) (hb : b = 0) (h1 : a ≤ 0) (h2 : 0 ≤ a) : (0 : Int32).toInt = sp_quot a.toInt b.toInt := by
  have z : (0 : Int32).toInt = 0 := by decide
  rw [Int32.le_iff_toInt_le, z] at h1 h2
  rw [hb, z, sp_quot, if_pos rfl, if_neg (by omega), if_neg (by omega)]
theorem fx_ne0 (b : Int32) (h : ¬ b = 0) : b.toInt64.toInt ≠ 0 := by
  rw [Int32.toInt_toInt64]
  intro z
  exact h (Int32.toInt_inj.mp (by rw [z]; decide))
theorem fx_q1 (a b r : Int32) (x y q : Int64) (hb : ¬ b = 0) (ex : x = 65536 * a.toInt64) (ey : y = b.toInt64) (hq : q.toInt = x.toInt.fdiv y.toInt) (hr : r.toInt = max (-2147483648) (min q.toInt 2147483647)) : r.toInt = sp_quot a.toInt b.toInt := by
  have h := fx_ne0 b hb
  rw [Int32.toInt_toInt64] at h
  rw [hr, hq, fx_l16 a x ex, ey, Int32.toInt_toInt64, sp_quot, if_neg h]
/-- the greatest root -/
def sp_isr (n : Int) (r : Int) : Prop := 0 ≤ r ∧ r * r ≤ n ∧ n < (r + 1) * (r + 1)
theorem sp_isr_one {n r q : Int} (h : sp_isr n r) (k : sp_isr n q) : r = q := by
  obtain ⟨h1, h2, h3⟩ := h
  obtain ⟨k1, k2, k3⟩ := k
  rcases Int.lt_trichotomy r q with z | z | z
  · have := Int.mul_le_mul (show r + 1 ≤ q by omega) (show r + 1 ≤ q by omega) (by omega) k1
    omega
  · exact z
  · have := Int.mul_le_mul (show q + 1 ≤ r by omega) (show q + 1 ≤ r by omega) (by omega) h1
    omega
theorem fx_below1 (x y a b : Int64) (ea : a = x ^^^ (-9223372036854775808)) (eb : b = y ^^^ (-9223372036854775808)) (h : ¬ b ≤ a) : (1 : Int32) = if uN x < uN y then 1 else 0 := by
  rw [ea, eb, uN_le] at h
  rw [if_pos (by omega)]
theorem fx_below0 (x y a b : Int64) (ea : a = x ^^^ (-9223372036854775808)) (eb : b = y ^^^ (-9223372036854775808)) (h : b ≤ a) : (0 : Int32) = if uN x < uN y then 1 else 0 := by
  rw [ea, eb, uN_le] at h
  rw [if_neg (by omega)]
theorem fx_high (x y xl xh yl yh A B B2 M C M2 O D M3 DM O2 r : Int64) (e1 : xl = x &&& 4294967295) (e2 : xh = (x.toUInt64 >>> ((32 : Int32).toInt64.toUInt64 &&& Int64.toUInt64 63)).toInt64) (e3 : yl = y &&& 4294967295) (e4 : yh = (y.toUInt64 >>> ((32 : Int32).toInt64.toUInt64 &&& Int64.toUInt64 63)).toInt64)
    (e5 : A = xh * yl) (e6 : B = xl * yl) (e7 : B2 = (B.toUInt64 >>> ((32 : Int32).toInt64.toUInt64 &&& Int64.toUInt64 63)).toInt64) (e8 : M = A + B2) (e9 : C = xl * yh) (e10 : M2 = M &&& 4294967295) (e11 : O = C + M2) (e12 : D = xh * yh) (e13 : M3 = (M.toUInt64 >>> ((32 : Int32).toInt64.toUInt64 &&& Int64.toUInt64 63)).toInt64) (e14 : DM = D + M3) (e15 : O2 = (O.toUInt64 >>> ((32 : Int32).toInt64.toUInt64 &&& Int64.toUInt64 63)).toInt64) (e16 : r = DM + O2) :
    uN r = uN x * uN y / 18446744073709551616 := by
  have hx := uN_lt x
  have hy := uN_lt y
  have f1 : uN xl = uN x % 4294967296 := by rw [e1, uN_lo]
  have f2 : uN xh = uN x / 4294967296 := by rw [e2, uN_s32]
  have f3 : uN yl = uN y % 4294967296 := by rw [e3, uN_lo]
  have f4 : uN yh = uN y / 4294967296 := by rw [e4, uN_s32]
  have b1 : uN xl < 4294967296 := by omega
  have b2 : uN xh < 4294967296 := by omega
  have b3 : uN yl < 4294967296 := by omega
  have b4 : uN yh < 4294967296 := by omega
  have p1 := fx_mul32 b2 b3
  have p2 := fx_mul32 b1 b3
  have p3 := fx_mul32 b1 b4
  have p4 := fx_mul32 b2 b4
  have f5 : uN A = uN xh * uN yl := by rw [e5]; exact fx_umul _ _ (by omega)
  have f6 : uN B = uN xl * uN yl := by rw [e6]; exact fx_umul _ _ (by omega)
  have f9 : uN C = uN xl * uN yh := by rw [e9]; exact fx_umul _ _ (by omega)
  have f12 : uN D = uN xh * uN yh := by rw [e12]; exact fx_umul _ _ (by omega)
  have f7 : uN B2 = uN B / 4294967296 := by rw [e7, uN_s32]
  have f8 : uN M = uN A + uN B2 := by rw [e8]; exact fx_uadd _ _ (by omega)
  have f10 : uN M2 = uN M % 4294967296 := by rw [e10, uN_lo]
  have f11 : uN O = uN C + uN M2 := by rw [e11]; exact fx_uadd _ _ (by omega)
  have f13 : uN M3 = uN M / 4294967296 := by rw [e13, uN_s32]
  have f15 : uN O2 = uN O / 4294967296 := by rw [e15, uN_s32]
  have g := fx_hpN (x := uN x) (y := uN y) (xl := uN xl) (xh := uN xh) (yl := uN yl) (yh := uN yh) (A := uN A) (B := uN B) (C := uN C) (D := uN D) (by omega) (by omega) f5 f6 f9 f12
  have f14 : uN DM = uN D + uN M3 := by rw [e14]; exact fx_uadd _ _ (by omega)
  have f16 : uN r = uN DM + uN O2 := by rw [e16]; exact fx_uadd _ _ (by omega)
  rw [f16, f14, f13, f15, f11, f10, f8, f7]
  exact g
theorem fx_byte1 (x : Int32) (h1 : ¬ x < 0) (h2 : ¬ 255 < x) : (1 : Int32) = if 0 ≤ x.toInt ∧ x.toInt ≤ 255 then 1 else 0 := by
  have z : (0 : Int32).toInt = 0 := by decide
  have z2 : (255 : Int32).toInt = 255 := by decide
  rw [Int32.lt_iff_toInt_lt, z] at h1
  rw [Int32.lt_iff_toInt_lt, z2] at h2
  rw [if_pos (by omega)]
theorem fx_byte0 (x : Int32) (h : x < 0 ∨ 255 < x) : (0 : Int32) = if 0 ≤ x.toInt ∧ x.toInt ≤ 255 then 1 else 0 := by
  have z : (0 : Int32).toInt = 0 := by decide
  have z2 : (255 : Int32).toInt = 255 := by decide
  rw [Int32.lt_iff_toInt_lt, z, Int32.lt_iff_toInt_lt, z2] at h
  rw [if_neg (by omega)]
theorem fx_255 (x a b r : Int32) (h0 : 0 ≤ x.toInt) (h1 : x.toInt ≤ 16711680) (ea : a = 2 * x) (eb : b = a + 255) (er : r = b / 510) : r.toInt = (2 * x.toInt + 255) / 510 := by
  have z2 : (2 : Int32).toInt = 2 := by decide
  have z3 : (255 : Int32).toInt = 255 := by decide
  have z5 : (510 : Int32).toInt = 510 := by decide
  have f1 : a.toInt = 2 * x.toInt := by rw [ea, Int32.toInt_mul, z2, fx_bm32 (by omega) (by omega)]
  have f2 : b.toInt = 2 * x.toInt + 255 := by rw [eb, Int32.toInt_add, z3, f1, fx_bm32 (by omega) (by omega)]
  rw [er, Int32.toInt_div, z5, f2, Int.tdiv_eq_ediv_of_nonneg (by omega), fx_bm32 (by omega) (by omega)]
/-- wholeRoot: one bit -/
theorem fx_rt {f S j : Nat} (h1 : f * f ≤ S) (h2 : S < (f + 2 ^ (j + 1)) * (f + 2 ^ (j + 1))) : ((f + 2 ^ j) * (f + 2 ^ j) ≤ S → (f + 2 ^ j) * (f + 2 ^ j) ≤ S ∧ S < (f + 2 ^ j + 2 ^ j) * (f + 2 ^ j + 2 ^ j)) := by
  intro h
  refine ⟨h, ?_⟩
  have e : f + 2 ^ j + 2 ^ j = f + 2 ^ (j + 1) := by rw [Nat.pow_succ]; omega
  rw [e]
  exact h2
/-- oneByRoot: by a whole quotient -/
theorem fx_obr {n a r : Int} (ha : 0 < a) (h : sp_isr (n / a) r) : 0 ≤ r ∧ r * r * a ≤ n ∧ n < (r + 1) * (r + 1) * a := by
  obtain ⟨h1, h2, h3⟩ := h
  refine ⟨h1, (Int.le_ediv_iff_mul_le ha).mp h2, ?_⟩
  exact (Int.ediv_lt_iff_lt_mul ha).mp h3
theorem dn_nn {n : Nat} {i : Int32} (hn : n < 1000) (hi : i = dn n) (h : ¬ i < 0) : ∃ j, n = j + 1 ∧ i = nI j := by
  cases n with
  | zero => exact absurd (by rw [hi]; decide) h
  | succ j => exact ⟨j, rfl, by rw [hi]; exact dn_s j⟩
theorem dn_neg {n : Nat} {i : Int32} (hn : n < 1000) (hi : i = dn n) (h : i < 0) : n = 0 := by
  cases n with
  | zero => rfl
  | succ j =>
    rw [hi, dn_s] at h
    exact absurd h (nI_pos (by omega))
theorem dn_i {i v : Int32} {j : Nat} (hi : i = nI j) (e : v = i + Int32.ofInt (-1)) : v = dn j := by rw [e, hi]; exact dn_m j
theorem fx_of (x : Int64) {N : Int} (h0 : 0 ≤ x.toInt) (h1 : x.toInt ≤ N) : ∃ S : Nat, x = lN S ∧ x.toInt = (S : Int) ∧ (S : Int) ≤ N ∧ S < 2 ^ 63 := by
  have z : (0 : Int64).toInt = 0 := by decide
  obtain ⟨k, hk, rfl⟩ := pk_lOf (x := x) (by rw [Int64.lt_iff_toInt_lt, z]; omega)
  have e := pk_lT hk
  exact ⟨k, rfl, e, by omega, hk⟩
/-- wholeRoot's road through its loop -/
def rt_I (S : Nat) (n : Nat) (z : Int64 × Int32) : Prop := z.2 = dn n ∧ n ≤ 25 ∧ ∃ f : Nat, z.1 = lN f ∧ f + 2 ^ n ≤ 33554432 ∧ f * f ≤ S ∧ S < (f + 2 ^ n) * (f + 2 ^ n)
theorem rt_0 {S : Nat} (hS : S ≤ 281474976710656) : rt_I S 25 (0, 24) := ⟨by decide, by decide, 0, by decide, by decide, Nat.zero_le _, by show S < _; omega⟩
theorem rt_try {x found v15 v16 v23 : Int64} {i : Int32} {j S f : Nat} (hx : x = lN S) (hS : S ≤ 281474976710656) (hi : i = nI j) (hj : j + 1 ≤ 25) (hf : found = lN f) (hb : f + 2 ^ (j + 1) ≤ 33554432)
    (e15 : v15 = 1 <<< (i.toInt64 &&& 63)) (e16 : v16 = found + v15) (e23 : v23 = v16 * v16) : v16 = lN (f + 2 ^ j) ∧ (x < v23 ↔ S < (f + 2 ^ j) * (f + 2 ^ j)) := by
  have e1 : v15 = lN (2 ^ j) := by
    rw [e15, hi]
    have := wb_shl 1 (show j < 64 by omega)
    rw [Nat.one_mul] at this
    exact this
  have e2 : v16 = lN (f + 2 ^ j) := by rw [e16, hf, e1, lN_add]
  have hp : 2 ^ j ≤ 2 ^ (j + 1) := Nat.pow_le_pow_right (by decide) (by omega)
  have hm := Nat.mul_le_mul (show f + 2 ^ j ≤ 33554432 by omega) (show f + 2 ^ j ≤ 33554432 by omega)
  refine ⟨e2, ?_⟩
  rw [hx, e23, e2, lN_mul, pk_lLT (by omega) (by omega)]
theorem rt_yes {S : Nat} {j : Nat} {i v32 : Int32} {f : Nat} {v16 : Int64} (hi : i = nI j) (hj : j + 1 ≤ 25) (e : v16 = lN (f + 2 ^ j)) (hb : f + 2 ^ (j + 1) ≤ 33554432) (h2 : S < (f + 2 ^ (j + 1)) * (f + 2 ^ (j + 1))) (h : (f + 2 ^ j) * (f + 2 ^ j) ≤ S) (ev : v32 = i + Int32.ofInt (-1)) : rt_I S j (v16, v32) := by
  have e0 : f + 2 ^ j + 2 ^ j = f + 2 ^ (j + 1) := by rw [Nat.pow_succ]; omega
  exact ⟨dn_i hi ev, by omega, f + 2 ^ j, e, by rw [e0]; exact hb, h, by rw [e0]; exact h2⟩
theorem rt_no {S : Nat} {j : Nat} {i v32 : Int32} {f : Nat} {found : Int64} (hi : i = nI j) (hj : j + 1 ≤ 25) (hf : found = lN f) (hb : f + 2 ^ (j + 1) ≤ 33554432) (h1 : f * f ≤ S) (h : S < (f + 2 ^ j) * (f + 2 ^ j)) (ev : v32 = i + Int32.ofInt (-1)) : rt_I S j (found, v32) := by
  have hp : 2 ^ (j + 1) = 2 ^ j + 2 ^ j := by rw [Nat.pow_succ]; omega
  have hq := Nat.two_pow_pos j
  exact ⟨dn_i hi ev, by omega, f, hf, by omega, h1, h⟩
theorem rt_end {x found : Int64} {r : Int32} {S f : Nat} (hxS : x.toInt = (S : Int)) (hf : found = lN f) (hb : f + 2 ^ 0 ≤ 33554432) (h1 : f * f ≤ S) (h2 : S < (f + 2 ^ 0) * (f + 2 ^ 0)) (er : r = found.toInt32) : sp_isr x.toInt r.toInt := by
  have e : r = nI f := by rw [er, hf]; exact lN_i f
  have e2 : r.toInt = (f : Int) := by rw [e]; exact nI_toInt (by omega)
  rw [hxS, e2]
  exact ⟨by omega, by exact_mod_cast h1, by exact_mod_cast h2⟩
/-- wholeQuotient's road -/
def wq_I (h l d : Int64) (n : Nat) (z : Int64 × Int64 × Int32) : Prop := z.2.2 = dn n ∧ n ≤ 64 ∧ uN z.1 < uN d ∧ uN z.2.1 < 2 ^ (64 - n) ∧ uN h * 2 ^ (64 - n) + uN l / 2 ^ n = uN z.2.1 * uN d + uN z.1
theorem wq_0 (h l d : Int64) (hd : uN h < uN d) : wq_I h l d 64 (h, 0, 63) := ⟨show (63 : Int32) = dn 64 by decide, by decide, hd, by show uN 0 < 1; decide, by
  have hl := uN_lt l
  show uN h * 1 + uN l / 18446744073709551616 = 0 * uN d + uN h
  rw [Nat.div_eq_of_lt hl]
  omega⟩
theorem wq_try {l d rest whole v18 v22 v24 v25 v31 : Int64} {i : Int32} {j : Nat} (hd2 : uN d ≤ 9223372036854775808) (hi : i = nI j) (hj : j + 1 ≤ 64) (h1 : uN rest < uN d) (h2 : uN whole < 2 ^ (64 - (j + 1)))
    (e18 : v18 = rest <<< ((1 : Int32).toInt64 &&& 63)) (e22 : v22 = (l.toUInt64 >>> (i.toInt64.toUInt64 &&& Int64.toUInt64 63)).toInt64) (e24 : v24 = v22 &&& 1) (e25 : v25 = v18 ||| v24) (e31 : v31 = whole <<< ((1 : Int32).toInt64 &&& 63)) :
    uN v25 = 2 * uN rest + uN l / 2 ^ j % 2 ∧ uN v31 = 2 * uN whole ∧ uN (v31 ||| 1) = 2 * uN whole + 1 := by
  have a1 : uN v24 = uN l / 2 ^ j % 2 := by rw [e24, fx_and1, e22, hi, uN_sk l (by omega)]
  have a2 : uN v24 < 2 := by omega
  have p : 2 ^ (64 - (j + 1)) ≤ 2 ^ 63 := Nat.pow_le_pow_right (by decide) (by omega)
  refine ⟨?_, ?_, ?_⟩
  · rw [e25, e18, uN_or a2, Nat.mod_eq_of_lt (by omega), a1]
  · rw [e31, uN_shl, Nat.mod_eq_of_lt (by omega)]
  · have u1 : uN 1 = 1 := by decide
    rw [e31, uN_or (by rw [u1]; decide), Nat.mod_eq_of_lt (by omega), u1]
theorem wq_sum {H L D w r j t : Nat} (ht : t + (j + 1) = 64) (e : H * 2 ^ t + L / 2 ^ (j + 1) = w * D + r) : H * 2 ^ (t + 1) + L / 2 ^ j = 2 * w * D + (2 * r + L / 2 ^ j % 2) := by
  have b := fx_bit L j
  have c : H * 2 ^ (t + 1) = 2 * (H * 2 ^ t) := by rw [Nat.pow_succ, ← Nat.mul_assoc, Nat.mul_comm]
  have c2 : 2 * w * D = 2 * (w * D) := Nat.mul_assoc ..
  rw [c, c2]
  omega
theorem wq_lo {h l d rest whole v25 v31 : Int64} {i v57 : Int32} {j : Nat} (hi : i = nI j) (hj : j + 1 ≤ 64) (h2 : uN whole < 2 ^ (64 - (j + 1))) (h3 : uN h * 2 ^ (64 - (j + 1)) + uN l / 2 ^ (j + 1) = uN whole * uN d + uN rest)
    (f1 : uN v25 = 2 * uN rest + uN l / 2 ^ j % 2) (f2 : uN v31 = 2 * uN whole) (hlt : uN v25 < uN d) (ev : v57 = i + Int32.ofInt (-1)) : wq_I h l d j (v25, v31, v57) := by
  have e := wq_sum (t := 64 - (j + 1)) (by omega) h3
  have ht : 64 - (j + 1) + 1 = 64 - j := by omega
  have hp : 2 ^ (64 - j) = 2 ^ (64 - (j + 1)) * 2 := by rw [← ht, Nat.pow_succ]
  rw [ht] at e
  refine ⟨dn_i hi ev, by omega, hlt, ?_, ?_⟩
  · show uN v31 < _
    omega
  · show _ = uN v31 * uN d + uN v25
    rw [e, f1, f2]
theorem wq_hi {h l d rest whole v25 v48 v54 : Int64} {i v57 : Int32} {j : Nat} (hi : i = nI j) (hj : j + 1 ≤ 64) (h1 : uN rest < uN d) (h2 : uN whole < 2 ^ (64 - (j + 1))) (h3 : uN h * 2 ^ (64 - (j + 1)) + uN l / 2 ^ (j + 1) = uN whole * uN d + uN rest)
    (f1 : uN v25 = 2 * uN rest + uN l / 2 ^ j % 2) (f3 : uN v54 = 2 * uN whole + 1) (e48 : v48 = v25 - d) (hge : ¬ uN v25 < uN d) (ev : v57 = i + Int32.ofInt (-1)) : wq_I h l d j (v48, v54, v57) := by
  have e := wq_sum (t := 64 - (j + 1)) (by omega) h3
  have ht : 64 - (j + 1) + 1 = 64 - j := by omega
  have hp : 2 ^ (64 - j) = 2 ^ (64 - (j + 1)) * 2 := by rw [← ht, Nat.pow_succ]
  rw [ht] at e
  have f4 : uN v48 = uN v25 - uN d := by rw [e48]; exact fx_usub _ _ (by omega)
  refine ⟨dn_i hi ev, by omega, ?_, ?_, ?_⟩
  · show uN v48 < uN d
    omega
  · show uN v54 < _
    omega
  · show _ = uN v54 * uN d + uN v48
    rw [e, f3, f4, Nat.add_mul, Nat.one_mul, f1]
    omega
theorem wq_end {h l d whole rest : Int64} (hd : 0 < uN d) (h1 : uN rest < uN d) (h3 : uN h * 2 ^ (64 - 0) + uN l / 2 ^ 0 = uN whole * uN d + uN rest) : uN whole = (uN h * 18446744073709551616 + uN l) / uN d := by
  have e : uN h * 18446744073709551616 + uN l = uN whole * uN d + uN rest := by
    have := h3
    rw [Nat.pow_zero, Nat.div_one] at this
    exact this
  rw [e, Nat.add_comm, Nat.add_mul_div_right _ _ hd, Nat.div_eq_of_lt h1, Nat.zero_add]
/-- highestBit -/
def hb_I (S : Nat) (n : Nat) (z : Int32) : Prop := z = nI n ∧ n ≤ 31 ∧ S < 2 ^ (n + 1)
theorem hb_sh {x v9 : Int64} {S n : Nat} (hx : x = lN S) (hS : S < 2 ^ 62) (hn : n < 64) (e9 : v9 = x >>> ((nI n).toInt64 &&& 63)) : v9 = lN (S / 2 ^ n) := by
  rw [e9, hx, wb_c n hn]
  exact pf_shr (by rw [wb_tb, wb_sm n hn, BitVec.toNat_ofNat]; omega) hS
theorem lN_0 {n : Nat} (h : n < 2 ^ 63) : lN n = 0 ↔ n = 0 := pk_lEQ (b := 0) h (by decide)
theorem hb_go {x v9 : Int64} {S n : Nat} {i v15 : Int32} (hx : x = lN S) (hS : S < 2 ^ 62) (hi : i = nI n) (hn : n ≤ 31) (h0 : ¬ i ≤ 0) (e9 : v9 = x >>> (i.toInt64 &&& 63)) (hz : v9 = 0) (ev : v15 = i + Int32.ofInt (-1)) : ∃ j, n = j + 1 ∧ hb_I S j v15 := by
  cases n with
  | zero => exact absurd (by rw [hi]; decide) h0
  | succ j =>
    refine ⟨j, rfl, ?_, by omega, ?_⟩
    · rw [ev, hi, dn_m, dn_s]
    · rw [hi] at e9
      rw [hb_sh hx hS (by omega) e9, lN_0 (Nat.lt_of_le_of_lt (Nat.div_le_self _ _) (by omega))] at hz
      exact (Nat.div_eq_zero_iff_lt (Nat.two_pow_pos _)).mp hz
theorem hb_nz {x v9 : Int64} {S n : Nat} {i : Int32} (hx : x = lN S) (hS : S < 2 ^ 62) (hi : i = nI n) (hn : n ≤ 31) (e9 : v9 = x >>> (i.toInt64 &&& 63)) (hz : ¬ v9 = 0) : 2 ^ n ≤ S := by
  rw [hi] at e9
  rw [hb_sh hx hS (by omega) e9, lN_0 (Nat.lt_of_le_of_lt (Nat.div_le_self _ _) (by omega))] at hz
  rcases Nat.lt_or_ge S (2 ^ n) with h | h
  · exact absurd (Nat.div_eq_of_lt h) hz
  · exact h
theorem hb_z {n : Nat} {i : Int32} (hi : i = nI n) (hn : n ≤ 31) (h0 : i ≤ 0) : n = 0 := by
  cases n with
  | zero => rfl
  | succ j => rw [hi] at h0; exact absurd h0 (nI_nle (by omega) (by omega))
/-- nearestEven -/
def sp_ne (s k : Nat) : Nat := s / 2 ^ k + (if 2 ^ k < 2 * (s % 2 ^ k) ∨ (2 * (s % 2 ^ k) = 2 ^ k ∧ s / 2 ^ k % 2 = 1) then 1 else 0)
theorem ne_all {x v2 v7 v8 v10 v15 : Int64} {i : Int32} {s k : Nat} (hx : x = lN s) (hs : s ≤ 2147483648) (hi : i = nI k) (hk : k ≤ 31) (e2 : v2 = x >>> (i.toInt64 &&& 63)) (e7 : v7 = v2 <<< (i.toInt64 &&& 63)) (e8 : v8 = x - v7) (e10 : v10 = v8 <<< ((1 : Int32).toInt64 &&& 63)) (e15 : v15 = 1 <<< (i.toInt64 &&& 63)) :
    v2 = lN (s / 2 ^ k) ∧ v10 = lN (2 * (s % 2 ^ k)) ∧ v15 = lN (2 ^ k) := by
  rw [hi] at e2 e7 e15
  have f2 := hb_sh hx (by omega) (by omega) e2
  have f7 : v7 = lN (s / 2 ^ k * 2 ^ k) := by rw [e7, f2, wb_shl _ (by omega)]
  have hle : s / 2 ^ k * 2 ^ k ≤ s := Nat.div_mul_le_self _ _
  have hmod : s - s / 2 ^ k * 2 ^ k = s % 2 ^ k := by
    have := Nat.div_add_mod s (2 ^ k)
    rw [Nat.mul_comm] at this
    omega
  have f8 : v8 = lN (s % 2 ^ k) := by rw [e8, hx, f7, lN_sub hle, hmod]
  refine ⟨f2, ?_, ?_⟩
  · have := wb_shl (s % 2 ^ k) (show 1 < 64 by decide)
    rw [Nat.pow_one, Nat.mul_comm] at this
    rw [e10, f8]
    exact this
  · have := wb_shl 1 (show k < 64 by omega)
    rw [Nat.one_mul] at this
    rw [e15]
    exact this
theorem ne_cmp {v2 v10 v15 : Int64} {s k : Nat} (hs : s ≤ 2147483648) (hk : k ≤ 31) (f2 : v2 = lN (s / 2 ^ k)) (f10 : v10 = lN (2 * (s % 2 ^ k))) (f15 : v15 = lN (2 ^ k)) :
    (v15 < v10 ↔ 2 ^ k < 2 * (s % 2 ^ k)) ∧ (v10 = v15 ↔ 2 * (s % 2 ^ k) = 2 ^ k) ∧ (v2 &&& 1 = 1 ↔ s / 2 ^ k % 2 = 1) := by
  have h1 : s / 2 ^ k ≤ s := Nat.div_le_self _ _
  have h2 : s % 2 ^ k ≤ s := Nat.mod_le _ _
  have h3 : 2 ^ k ≤ 2 ^ 31 := Nat.pow_le_pow_right (by decide) hk
  refine ⟨?_, ?_, ?_⟩
  · rw [f15, f10, pk_lLT (by omega) (by omega)]
  · rw [f15, f10, pk_lEQ (by omega) (by omega)]
  · rw [f2, wb_a1 (by omega)]
    exact pk_lEQ (b := 1) (by omega) (by decide)
theorem ne_yes {v2 v56 : Int64} {r : Int32} {s k : Nat} (f2 : v2 = lN (s / 2 ^ k)) (e56 : v56 = v2 + 1) (er : r = v56.toInt32) (h : 2 ^ k < 2 * (s % 2 ^ k) ∨ (2 * (s % 2 ^ k) = 2 ^ k ∧ s / 2 ^ k % 2 = 1)) : r = nI (sp_ne s k) := by
  rw [er, e56, f2, lN_1, lN_i, sp_ne, if_pos h]
theorem ne_no {v2 : Int64} {r : Int32} {s k : Nat} (f2 : v2 = lN (s / 2 ^ k)) (er : r = v2.toInt32) (h : ¬ (2 ^ k < 2 * (s % 2 ^ k) ∨ (2 * (s % 2 ^ k) = 2 ^ k ∧ s / 2 ^ k % 2 = 1))) : r = nI (sp_ne s k) := by
  rw [er, f2, lN_i, sp_ne, if_neg h, Nat.add_zero]
/-- root -/
def sp_root (a : Int) (r : Int) : Prop := if a < 0 then r = 0 else sp_isr (65536 * a) r
theorem sp_root_one {a r q : Int} (h : sp_root a r) (k : sp_root a q) : r = q := by
  unfold sp_root at h k
  by_cases z : a < 0
  · rw [if_pos z] at h k
    omega
  · rw [if_neg z] at h k
    exact sp_isr_one h k
theorem fx_root0 (a : Int32) (h : ¬ 0 ≤ a) : sp_root a.toInt (0 : Int32).toInt := by
  have z : (0 : Int32).toInt = 0 := by decide
  rw [Int32.le_iff_toInt_le, z] at h
  rw [z, sp_root, if_pos (by omega)]
theorem fx_ge (a : Int32) (h : 0 ≤ a) : 0 ≤ a.toInt := by
  have z : (0 : Int32).toInt = 0 := by decide
  rw [Int32.le_iff_toInt_le, z] at h
  exact h
theorem fx_root1 (a r : Int32) (x : Int64) (h : 0 ≤ a) (ex : x = 65536 * a.toInt64) (hr : sp_isr x.toInt r.toInt) : sp_root a.toInt r.toInt := by
  have h1 := fx_ge a h
  rw [fx_l16 a x ex] at hr
  rw [sp_root, if_neg (by omega)]
  exact hr
theorem fx_rootb (a : Int32) (x : Int64) (h : 0 ≤ a) (ex : x = 65536 * a.toInt64) : 0 ≤ x.toInt ∧ x.toInt ≤ 281474976710656 := by
  have h1 := fx_ge a h
  have h2 := fx_i32 a
  rw [fx_l16 a x ex]
  omega
/-- oneByRoot -/
def sp_obr (a : Int) (r : Int) : Prop := if a ≤ 0 then r = 2147483647 else 0 ≤ r ∧ r * r * a ≤ 281474976710656 ∧ 281474976710656 < (r + 1) * (r + 1) * a
theorem sp_obr_one {a r q : Int} (h : sp_obr a r) (k : sp_obr a q) : r = q := by
  unfold sp_obr at h k
  by_cases z : a ≤ 0
  · rw [if_pos z] at h k
    omega
  · rw [if_neg z] at h k
    obtain ⟨h1, h2, h3⟩ := h
    obtain ⟨k1, k2, k3⟩ := k
    have ha : 0 < a := by omega
    exact sp_isr_one (n := 281474976710656 / a) ⟨h1, (Int.le_ediv_iff_mul_le ha).mpr h2, (Int.ediv_lt_iff_lt_mul ha).mpr h3⟩ ⟨k1, (Int.le_ediv_iff_mul_le ha).mpr k2, (Int.ediv_lt_iff_lt_mul ha).mpr k3⟩
theorem fx_obr0 (a : Int32) (h : ¬ 0 < a) : sp_obr a.toInt (2147483647 : Int32).toInt := by
  have z : (0 : Int32).toInt = 0 := by decide
  rw [Int32.lt_iff_toInt_lt, z] at h
  rw [sp_obr, if_pos (by omega)]
  decide
theorem fx_obrx (a : Int32) (x y : Int64) (h : 0 < a) (ey : y = a.toInt64) (ex : x = 281474976710656 / y) : x.toInt = 281474976710656 / a.toInt := by
  have c : (281474976710656 : Int64).toInt = 281474976710656 := by decide
  have e := fx_ldiv 281474976710656 y x (by rw [c]; decide) ex
  rw [e, c, ey, Int32.toInt_toInt64, Int.tdiv_eq_ediv_of_nonneg (by decide)]
theorem fx_gt (a : Int32) (h : 0 < a) : 0 < a.toInt := by
  have z : (0 : Int32).toInt = 0 := by decide
  rw [Int32.lt_iff_toInt_lt, z] at h
  exact h
theorem fx_obrb (a : Int32) (x y : Int64) (h : 0 < a) (ey : y = a.toInt64) (ex : x = 281474976710656 / y) : 0 ≤ x.toInt ∧ x.toInt ≤ 281474976710656 := by
  have h1 := fx_gt a h
  rw [fx_obrx a x y h ey ex]
  exact ⟨Int.ediv_nonneg (by decide) (by omega), Int.ediv_le_self _ (by decide)⟩
theorem fx_obr1 (a r : Int32) (x y : Int64) (h : 0 < a) (ey : y = a.toInt64) (ex : x = 281474976710656 / y) (hr : sp_isr x.toInt r.toInt) : sp_obr a.toInt r.toInt := by
  have h1 := fx_gt a h
  rw [fx_obrx a x y h ey ex] at hr
  rw [sp_obr, if_neg (by omega)]
  exact fx_obr h1 hr
theorem fx_obrz (a : Int32) (y : Int64) (h : 0 < a) (ey : y = a.toInt64) : ¬ y = 0 := by
  have h1 := fx_gt a h
  intro z
  have q : a.toInt64.toInt = 0 := by rw [← ey, z]; decide
  rw [Int32.toInt_toInt64] at q
  omega
/-- channel -/
def sp_chan (a : Int) : Int := (255 * max 0 (min a 65536) + 32768) / 65536
theorem fx_chan (a m h v15 v18 r : Int32) (em : m = if (65536 : Int32) < a then 65536 else a) (eh : h = if (0 : Int32) < m then m else 0) (e15 : v15 = 255 * h) (e18 : v18 = v15 + 32768) (er : r = v18 >>> ((16 : Int32) &&& 31)) : r.toInt = sp_chan a.toInt := by
  have z0 : (0 : Int32).toInt = 0 := by decide
  have z1 : (65536 : Int32).toInt = 65536 := by decide
  have z2 : (255 : Int32).toInt = 255 := by decide
  have z3 : (32768 : Int32).toInt = 32768 := by decide
  have f1 : m.toInt = min a.toInt 65536 := by
    by_cases q : (65536 : Int32) < a
    · rw [em, if_pos q, z1]
      rw [Int32.lt_iff_toInt_lt, z1] at q
      omega
    · rw [em, if_neg q]
      rw [Int32.lt_iff_toInt_lt, z1] at q
      omega
  have f2 : h.toInt = max 0 (min a.toInt 65536) := by
    by_cases q : (0 : Int32) < m
    · rw [eh, if_pos q]
      rw [Int32.lt_iff_toInt_lt, z0] at q
      omega
    · rw [eh, if_neg q, z0]
      rw [Int32.lt_iff_toInt_lt, z0] at q
      omega
  have f3 : v15.toInt = 255 * max 0 (min a.toInt 65536) := by rw [e15, Int32.toInt_mul, z2, f2, fx_bm32 (by omega) (by omega)]
  have f4 : v18.toInt = 255 * max 0 (min a.toInt 65536) + 32768 := by rw [e18, Int32.toInt_add, z3, f3, fx_bm32 (by omega) (by omega)]
  rw [er, pk_shr _ _ 16 (by decide), f4, Int.shiftRight_eq_div_pow]
  rfl
/-! quotients of whole numbers, by their sizes -/
theorem fx_fdn (n d : Nat) (hd : 0 < d) : (-(n : Int)).fdiv (d : Int) = -((n / d : Nat) : Int) - (if n % d = 0 then 0 else 1) := by
  have h0 : (d : Int) ≠ 0 := by omega
  have hdiv : ((d : Int) ∣ (n : Int)) ↔ n % d = 0 := by
    rw [Int.natCast_dvd_natCast]
    exact Nat.dvd_iff_mod_eq_zero ..
  rw [Int.fdiv_eq_tdiv, Int.neg_tdiv]
  have e1 : (n : Int).tdiv (d : Int) = ((n / d : Nat) : Int) := rfl
  rw [e1]
  by_cases h : n % d = 0
  · rw [if_pos (by rw [Int.dvd_neg]; exact hdiv.mpr h), if_pos h]
  · rw [if_neg (by rw [Int.dvd_neg]; exact fun z => h (hdiv.mp z)), if_neg h]
    have hn : 0 < n := by
      rcases Nat.eq_zero_or_pos n with z | z
      · exact absurd (by rw [z]; exact Nat.zero_mod d) h
      · exact z
    rw [if_neg (by omega), if_pos (by omega), Int.sign_eq_one_of_pos (by omega)]
theorem fx_fdp (n d : Nat) : (n : Int).fdiv (d : Int) = ((n / d : Nat) : Int) := by
  rw [Int.fdiv_eq_tdiv_of_nonneg (by omega) (by omega)]
  rfl
theorem fx_fnn (a b : Int) : (-a).fdiv (-b) = a.fdiv b := by
  by_cases hb : b = 0
  · subst hb
    simp
  · rw [fx_fdiv _ _ (by omega), fx_fdiv _ _ hb, Int.neg_tdiv, Int.tdiv_neg, Int.neg_neg]
    have e : a.tdiv b * -b ≠ -a ↔ a.tdiv b * b ≠ a := by
      rw [Int.mul_neg]
      omega
    have e2 : (-a < 0 ∧ 0 < -b ∨ 0 < -a ∧ -b < 0) ↔ (a < 0 ∧ 0 < b ∨ 0 < a ∧ b < 0) := by omega
    by_cases q : (a < 0 ∧ 0 < b ∨ 0 < a ∧ b < 0) ∧ a.tdiv b * b ≠ a
    · rw [if_pos q, if_pos ⟨e2.mpr q.1, e.mpr q.2⟩]
    · rw [if_neg q, if_neg (fun z => q ⟨e2.mp z.1, e.mp z.2⟩)]
/-- z / c, down, by the sizes and by whether one of the two is below 0 -/
theorem fx_fabs (z c : Int) (hc : c ≠ 0) : z.fdiv c = if (z < 0 ↔ c < 0) then ((z.natAbs / c.natAbs : Nat) : Int) else -((z.natAbs / c.natAbs : Nat) : Int) - (if z.natAbs % c.natAbs = 0 then 0 else 1) := by
  have hcp : 0 < c.natAbs := Int.natAbs_pos.mpr hc
  by_cases h1 : z < 0 <;> by_cases h2 : c < 0
  · rw [if_pos (by simp [h1, h2]), ← fx_fnn, ← fx_fdp]
    rw [show -z = (z.natAbs : Int) by omega, show -c = (c.natAbs : Int) by omega]
  · rw [if_neg (by simp [h1, h2])]
    conv => lhs; rw [show z = -(z.natAbs : Int) by omega, show c = (c.natAbs : Int) by omega]
    exact fx_fdn _ _ hcp
  · rw [if_neg (by simp [h1, h2]), ← fx_fnn]
    conv => lhs; rw [show -z = -(z.natAbs : Int) by omega, show -c = (c.natAbs : Int) by omega]
    exact fx_fdn _ _ hcp
  · rw [if_pos (by simp [h1, h2]), ← fx_fdp]
    rw [show (z.natAbs : Int) = z by omega, show (c.natAbs : Int) = c by omega]
theorem fx_sgn {a b : Int} (ha : a ≠ 0) (hb : b ≠ 0) : a * b < 0 ↔ ¬ (a < 0 ↔ b < 0) := by
  constructor
  · intro h
    by_cases h1 : a < 0 <;> by_cases h2 : b < 0
    · have := Int.mul_pos_of_neg_of_neg h1 h2
      omega
    · simp [h1, h2]
    · simp [h1, h2]
    · have := Int.mul_nonneg (show 0 ≤ a by omega) (show 0 ≤ b by omega)
      omega
  · intro h
    by_cases h1 : a < 0 <;> by_cases h2 : b < 0
    · simp [h1, h2] at h
    · exact Int.mul_neg_of_neg_of_pos h1 (by omega)
    · exact Int.mul_neg_of_pos_of_neg (by omega) h2
    · simp [h1, h2] at h
/-- a * b / c, down: by sizes, and by the sign of the three together -/
abbrev sp_neg (a b c : Int) : Prop := ¬ (¬ (a < 0 ↔ b < 0) ↔ c < 0)
theorem fx_rat (a b c : Int) (hc : c ≠ 0) (q r : Nat) (hq : q = a.natAbs * b.natAbs / c.natAbs) (hr : r = a.natAbs * b.natAbs % c.natAbs) : (sp_neg a b c → (a * b).fdiv c = -(q : Int) - (if r = 0 then 0 else 1)) ∧ (¬ sp_neg a b c → (a * b).fdiv c = (q : Int)) := by
  have e := fx_fabs (a * b) c hc
  rw [Int.natAbs_mul, ← hq, ← hr] at e
  by_cases h0 : a = 0 ∨ b = 0
  · have hz : a * b = 0 := by
      rcases h0 with z | z
      · rw [z, Int.zero_mul]
      · rw [z, Int.mul_zero]
    have hn : a.natAbs * b.natAbs = 0 := by rw [← Int.natAbs_mul, hz]; rfl
    have q0 : q = 0 := by rw [hq, hn, Nat.zero_div]
    have r0 : r = 0 := by rw [hr, hn, Nat.zero_mod]
    rw [hz, Int.zero_fdiv, q0, r0]
    simp
  · have ha : a ≠ 0 := fun z => h0 (Or.inl z)
    have hb : b ≠ 0 := fun z => h0 (Or.inr z)
    have hs := fx_sgn ha hb
    constructor
    · intro h
      rw [e, if_neg (fun z => h (hs.symm.trans z))]
    · intro h
      rw [e, if_pos (hs.trans (Classical.not_not.mp h))]
theorem fx_xorI (x y : Int64) : (x ^^^ y).toInt < 0 ↔ ¬ (x.toInt < 0 ↔ y.toInt < 0) := by
  have h := fx_xor x y
  rw [Int64.lt_iff_toInt_lt, show (0 : Int64).toInt = 0 from by decide] at h
  exact h
theorem ra_neg {a b c v w : Int64} (ev : v = a ^^^ b) (ew : w = v ^^^ c) : (0 : Int64) ≤ w ↔ ¬ sp_neg a.toInt b.toInt c.toInt := by
  rw [Int64.le_iff_toInt_le, show (0 : Int64).toInt = 0 from by decide, ← Int.not_lt]
  apply not_congr
  rw [ew, fx_xorI, ev, fx_xorI]
/-- the 128 bits of a product, by their halves -/
theorem ra_P {x y hi lo : Int64} (h1 : uN hi = uN x * uN y / 18446744073709551616) (h2 : lo = x * y) : uN hi * 18446744073709551616 + uN lo = uN x * uN y := by
  have h3 : uN lo = uN x * uN y % 18446744073709551616 := by rw [h2, uN_mul]
  omega
theorem ra_rest {lo w d m : Int64} {P : Nat} (hd0 : 0 < uN d) (hd2 : uN d ≤ 9223372036854775808) (hlo : uN lo = P % 18446744073709551616) (hw : uN w = P / uN d) (em : m = w * d) : m = lo ↔ P % uN d = 0 := by
  have e1 : uN m = uN w * uN d % 18446744073709551616 := by rw [em, uN_mul]
  have e2 : P = uN w * uN d + P % uN d := by
    rw [hw, Nat.mul_comm]
    exact (Nat.div_add_mod P (uN d)).symm
  have e3 := Nat.mod_lt P hd0
  generalize P % uN d = r at e2 e3 ⊢
  generalize uN w * uN d = Q at e1 e2
  constructor
  · intro h
    rw [h] at e1
    omega
  · intro h
    apply uN_inj
    omega
theorem ra_low {x y lo : Int64} (h2 : lo = x * y) : uN lo = uN x * uN y % 18446744073709551616 := by rw [h2, uN_mul]
theorem ra_pos (w : Int64) : (0 : Int64) ≤ w ↔ uN w < 9223372036854775808 := by
  have h := uN_int w
  have h2 := uN_lt w
  rw [Int64.le_iff_toInt_le, show (0 : Int64).toInt = 0 from by decide]
  split at h <;> omega
theorem ra_min (w : Int64) : w = -9223372036854775808 ↔ uN w = 9223372036854775808 := by
  have e : uN (-9223372036854775808) = 9223372036854775808 := by decide +kernel
  constructor
  · intro h
    rw [h, e]
  · intro h
    exact uN_inj (by rw [h, e])
theorem ra_toInt (w : Int64) (h : uN w < 9223372036854775808) : w.toInt = (uN w : Int) := by
  have h2 := uN_int w
  split at h2 <;> omega
theorem ra_negI (w : Int64) (h : uN w ≤ 9223372036854775808) : (-w).toInt = -(uN w : Int) := by
  have h1 := fx_uneg w
  have h2 := uN_int (-w)
  have h3 := uN_lt (-w)
  have h4 := uN_lt w
  split at h2 <;> omega
theorem ra_neg1 (w v r : Int64) (h : uN w < 9223372036854775808) (ev : v = -w) (er : r = v - 1) : r.toInt = -(uN w : Int) - 1 := by
  have h1 : v.toInt = -(uN w : Int) := by rw [ev]; exact ra_negI w (by omega)
  rw [er, Int64.toInt_sub, h1, show (1 : Int64).toInt = 1 from by decide, fx_bm64 (by omega) (by omega)]
/-- signedDown of a whole quotient -/
theorem ra_down {w r : Int64} {h n : Int32} {q rm : Nat} {N : Prop} [Decidable N] (hq : uN w = q) (hh : h = if rm = 0 then 0 else 1) (hn : n = if N then 1 else 0) (hr : r = if n = 0 then w else if h = 0 then -w else -w - 1) (hb : q < 9223372036854775808 ∨ (q = 9223372036854775808 ∧ N ∧ rm = 0)) :
    (N → r.toInt = -(q : Int) - (if rm = 0 then 0 else 1)) ∧ (¬ N → r.toInt = (q : Int)) := by
  constructor
  · intro hN
    rw [if_pos hN] at hn
    rw [if_neg (by rw [hn]; decide)] at hr
    by_cases h0 : rm = 0
    · rw [if_pos h0] at hh
      rw [if_pos hh] at hr
      rw [hr, ra_negI w (by omega), if_pos h0, hq]
      omega
    · rw [if_neg h0] at hh
      rw [if_neg (by rw [hh]; decide)] at hr
      rw [ra_neg1 w _ r (by omega) rfl hr, if_neg h0, hq]
  · intro hN
    rw [if_neg hN] at hn
    rw [if_pos hn] at hr
    have hb' : q < 9223372036854775808 := hb.resolve_right (fun z => hN z.2.1)
    rw [hr, ra_toInt w (by rw [hq]; exact hb'), hq]
def sp_rok (a b c r : Int) : Prop := c ≠ 0 ∧ r = (a * b).fdiv c
def sp_rno (a b c : Int) : Prop := c = 0 ∨ (a * b).fdiv c < -9223372036854775808 ∨ 9223372036854775807 < (a * b).fdiv c
theorem sp_r_apart {a b c r : Int} (h : sp_rok a b c r) (h1 : -9223372036854775808 ≤ r) (h2 : r ≤ 9223372036854775807) : ¬ sp_rno a b c := by
  obtain ⟨k1, k2⟩ := h
  rintro (z | z | z)
  · exact k1 z
  · omega
  · omega
/-- high isn't below the divisor: no long holds it -/
theorem ra_big {a b c : Int} {P q : Nat} (hc : c ≠ 0) (hP : P = a.natAbs * b.natAbs) (h : c.natAbs ≤ P / 18446744073709551616) : sp_rno a b c := by
  have hcp : 0 < c.natAbs := Int.natAbs_pos.mpr hc
  obtain ⟨k1, k2⟩ := fx_rat a b c hc _ _ rfl rfl
  rw [← hP] at k1 k2
  have h1 : c.natAbs * 18446744073709551616 ≤ P := by
    exact Nat.le_trans (Nat.mul_le_mul_right _ h) (Nat.div_mul_le_self _ _)
  have h2 : 18446744073709551616 ≤ P / c.natAbs := (Nat.le_div_iff_mul_le hcp).mpr (by rw [Nat.mul_comm]; exact h1)
  by_cases hn : sp_neg a b c
  · right; left
    rw [k1 hn]
    split <;> omega
  · right; right
    rw [k2 hn]
    omega
theorem ra_unfit {a b c : Int} {q rm : Nat} (hc : c ≠ 0) (hq : q = a.natAbs * b.natAbs / c.natAbs) (hr : rm = a.natAbs * b.natAbs % c.natAbs) (h : ¬ (q < 9223372036854775808 ∨ (q = 9223372036854775808 ∧ sp_neg a b c ∧ rm = 0))) : sp_rno a b c := by
  obtain ⟨k1, k2⟩ := fx_rat a b c hc q rm hq hr
  by_cases hn : sp_neg a b c
  · right; left
    rw [k1 hn]
    have : ¬ (q = 9223372036854775808 ∧ rm = 0) := fun z => h (Or.inr ⟨z.1, hn, z.2⟩)
    have : ¬ q < 9223372036854775808 := fun z => h (Or.inl z)
    split <;> omega
  · right; right
    rw [k2 hn]
    have : ¬ q < 9223372036854775808 := fun z => h (Or.inl z)
    omega
theorem ra_fit {a b c r : Int} {q rm : Nat} (hc : c ≠ 0) (hq : q = a.natAbs * b.natAbs / c.natAbs) (hr : rm = a.natAbs * b.natAbs % c.natAbs) (h : (sp_neg a b c → r = -(q : Int) - (if rm = 0 then 0 else 1)) ∧ (¬ sp_neg a b c → r = (q : Int))) : sp_rok a b c r := by
  obtain ⟨k1, k2⟩ := fx_rat a b c hc q rm hq hr
  refine ⟨hc, ?_⟩
  by_cases hn : sp_neg a b c
  · rw [k1 hn, h.1 hn]
  · rw [k2 hn, h.2 hn]
/-- between -/
def sp_betw (a b n d : Int) : Int := (a + ((b - a) * n).fdiv d).bmod (2 ^ 32)
def sp_bno (n d : Int) : Prop := d ≤ 0 ∨ n < 0 ∨ d < n
theorem be_pos (d : Int64) (h : 0 ≤ d.toInt) : (uN d : Int) = d.toInt := by
  have h2 := uN_int d
  have h3 := uN_lt d
  split at h2 <;> omega
theorem be_hi {size n d hi : Int64} (hs : uN size < 4294967296) (hnd : uN n ≤ uN d) (hd0 : 0 < uN d) (h : uN hi = uN size * uN n / 18446744073709551616) : uN hi < uN d := by
  have h1 : uN size * uN n ≤ uN size * uN d := Nat.mul_le_mul_left _ hnd
  have h2 : uN size * uN d ≤ 4294967296 * uN d := Nat.mul_le_mul_right _ (by omega)
  rw [h]
  omega
theorem be_span (a b : Int32) (u v w : Int64) (eu : u = b.toInt64) (ev : v = a.toInt64) (ew : w = u - v) : w.toInt = b.toInt - a.toInt := by
  have ha := fx_i32 a
  have hb := fx_i32 b
  rw [ew, Int64.toInt_sub, eu, ev, Int32.toInt_toInt64, Int32.toInt_toInt64, fx_bm64 (by omega) (by omega)]
theorem be_q {size n d : Int64} {q : Nat} (hs : uN size < 4294967296) (hnd : uN n ≤ uN d) (hd0 : 0 < uN d) (hq : q = uN size * uN n / uN d) : q < 4294967296 := by
  have h1 : uN size * uN n ≤ uN size * uN d := Nat.mul_le_mul_left _ hnd
  have h2 : q ≤ uN size := by
    rw [hq]
    exact Nat.div_le_of_le_mul (Nat.le_trans h1 (Nat.le_of_eq (Nat.mul_comm _ _)))
  omega
theorem be_fin (a b : Int32) (n d span x y : Int64) (r : Int32) {q rm : Nat} (hsp : span.toInt = b.toInt - a.toInt) (hn : 0 ≤ n.toInt) (hd : 0 < d.toInt) (hq : q = span.toInt.natAbs * n.toInt.natAbs / d.toInt.natAbs) (hrm : rm = span.toInt.natAbs * n.toInt.natAbs % d.toInt.natAbs) (hb : q < 4294967296)
    (hx : (span.toInt < 0 → x.toInt = -(q : Int) - (if rm = 0 then 0 else 1)) ∧ (¬ span.toInt < 0 → x.toInt = (q : Int))) (ey : y = a.toInt64 + x) (er : r = y.toInt32) : r.toInt = sp_betw a.toInt b.toInt n.toInt d.toInt := by
  obtain ⟨k1, k2⟩ := fx_rat span.toInt n.toInt d.toInt (by omega) q rm hq hrm
  have hN : sp_neg span.toInt n.toInt d.toInt ↔ span.toInt < 0 := by
    unfold sp_neg
    have h1 : (n.toInt < 0) = False := by simp; omega
    have h2 : (d.toInt < 0) = False := by simp; omega
    rw [h1, h2]
    by_cases z : span.toInt < 0 <;> simp [z]
  have ha := fx_i32 a
  have e : x.toInt = (span.toInt * n.toInt).fdiv d.toInt := by
    by_cases z : span.toInt < 0
    · rw [k1 (hN.mpr z), hx.1 z]
    · rw [k2 (fun w => z (hN.mp w)), hx.2 z]
  have hxb : -4294967297 ≤ x.toInt ∧ x.toInt ≤ 4294967297 := by
    by_cases z : span.toInt < 0
    · rw [hx.1 z]
      split <;> omega
    · rw [hx.2 z]
      omega
  have f1 : y.toInt = a.toInt + x.toInt := by rw [ey, Int64.toInt_add, Int32.toInt_toInt64, fx_bm64 (by omega) (by omega)]
  rw [er, Int64.toInt_toInt32, f1, e, hsp]
  rfl
/-- fixed and shade -/
abbrev sp_byte (x : Int) : Prop := 0 ≤ x ∧ x ≤ 255
theorem fx_isb {x v : Int32} (e : v = if 0 ≤ x.toInt ∧ x.toInt ≤ 255 then 1 else 0) : (v = 0 ↔ ¬ sp_byte x.toInt) := by
  unfold sp_byte
  by_cases h : 0 ≤ x.toInt ∧ x.toInt ≤ 255
  · rw [if_pos h] at e
    simp [h, e]
  · rw [if_neg h] at e
    simp [h, e]
theorem fx_fix {x v : Int32} (h : sp_byte x.toInt) (e : v = 65536 * x) : v.toInt = 65536 * x.toInt := by
  obtain ⟨h1, h2⟩ := h
  rw [e, Int32.toInt_mul, show (65536 : Int32).toInt = 65536 from by decide, fx_bm32 (by omega) (by omega)]
theorem fx_sha {x y v : Int32} (h : sp_byte x.toInt) (k : sp_byte y.toInt) (e : v = x * y) : v.toInt = x.toInt * y.toInt ∧ 0 ≤ x.toInt * y.toInt ∧ x.toInt * y.toInt ≤ 65025 := by
  obtain ⟨h1, h2⟩ := h
  obtain ⟨k1, k2⟩ := k
  have a1 := Int.mul_nonneg h1 k1
  have a2 : x.toInt * y.toInt ≤ 255 * 255 := Int.mul_le_mul h2 k2 k1 (by decide)
  rw [e, Int32.toInt_mul, fx_bm32 (by omega) (by omega)]
  exact ⟨rfl, a1, by omega⟩
/-! halves -/
theorem fx_shl (x : Int64) {k : Nat} (hk : k < 64) : x <<< ((nI k).toInt64 &&& 63) = x * lN (2 ^ k) := by
  obtain ⟨n, -, rfl⟩ := wb_of x
  rw [wb_shl n hk, lN_mul]
theorem fx_tn (x : Int32) : x.toInt = (x.toBitVec.toNat : Int) ∨ x.toInt = (x.toBitVec.toNat : Int) - 4294967296 := by
  have h := BitVec.toInt_eq_toNat_cond x.toBitVec
  have e : x.toBitVec.toInt = x.toInt := rfl
  rw [e] at h
  split at h
  · exact Or.inl h
  · exact Or.inr h
theorem fh_e (h v16 v19 : Int32) (e16 : v16 = h >>> ((10 : Int32) &&& 31)) (e19 : v19 = v16 &&& 31) : v19 = nI (h.toBitVec.toNat / 1024 % 32) := by
  have a1 : v19 = nI (v16.toBitVec.toNat % 2 ^ 5) := by rw [e19]; exact pk_and v16 5 (by decide)
  have a2 : v16.toInt = h.toInt >>> 10 := by rw [e16]; exact pk_shr h _ 10 (by decide)
  rw [Int.shiftRight_eq_div_pow] at a2
  have b1 := fx_tn h
  have b2 := fx_tn v16
  have a3 : v16.toInt = h.toInt / 1024 := a2
  have a4 : v16.toBitVec.toNat % 2 ^ 5 = h.toBitVec.toNat / 1024 % 32 := by
    show v16.toBitVec.toNat % 32 = _
    omega
  rw [a1, a4]
theorem fh_f (h v25 : Int32) (e25 : v25 = h &&& 1023) : v25 = nI (h.toBitVec.toNat % 1024) := by rw [e25]; exact pk_and h 10 (by decide)
theorem nb_15 (n : Nat) : n &&& 2 ^ 15 = 0 ↔ n / 32768 % 2 = 0 := by
  have hb : n.testBit 15 = decide (n / 2 ^ 15 % 2 = 1) := Nat.testBit_eq_decide_div_mod_eq
  have e0 : n / 2 ^ 15 = n / 32768 := rfl
  rw [e0] at hb
  have key : (n &&& 2 ^ 15).testBit 15 = n.testBit 15 := by
    rw [Nat.testBit_and, Nat.testBit_two_pow]
    simp
  constructor
  · intro z
    rw [z, Nat.zero_testBit, hb] at key
    have q := of_decide_eq_false key.symm
    omega
  · intro z
    apply Nat.eq_of_testBit_eq
    intro i
    rw [Nat.testBit_and, Nat.testBit_two_pow, Nat.zero_testBit]
    by_cases hi : 15 = i
    · subst hi
      rw [hb, decide_eq_false (by omega), Bool.false_and]
    · rw [decide_eq_false hi, Bool.and_false]
theorem fh_s (h v3 : Int32) (e3 : v3 = h &&& 32768) : v3 = 0 ↔ h.toBitVec.toNat / 32768 % 2 = 0 := by
  have e : v3.toBitVec.toNat = h.toBitVec.toNat &&& 2 ^ 15 := by
    rw [e3, Int32.toBitVec_and, BitVec.toNat_and]
    rfl
  rw [← nb_15, ← e]
  constructor
  · intro z
    rw [z]
    rfl
  · intro z
    exact Int32.toBitVec_inj.mp (BitVec.eq_of_toNat_eq (z.trans rfl))
theorem ra_fitx {w : Int64} {h n : Int32} {q rm : Nat} {N : Prop} [Decidable N] (hq : uN w = q) (hh : h = if rm = 0 then 0 else 1) (hn : n = if N then 1 else 0) : (0 ≤ w ∨ (w = -9223372036854775808 ∧ ¬ n = 0 ∧ h = 0)) ↔ (q < 9223372036854775808 ∨ (q = 9223372036854775808 ∧ N ∧ rm = 0)) := by
  rw [ra_pos, ra_min, hq]
  have a1 : ¬ n = 0 ↔ N := by
    by_cases z : N
    · rw [if_pos z] at hn
      simp [hn, z]
    · rw [if_neg z] at hn
      simp [hn, z]
  have a2 : h = 0 ↔ rm = 0 := by
    by_cases z : rm = 0
    · rw [if_pos z] at hh
      simp [hh, z]
    · rw [if_neg z] at hh
      simp [hh, z]
  rw [a1, a2]
theorem be_z (x : Int64) : (x < 0 ↔ x.toInt < 0) ∧ (0 < x ↔ 0 < x.toInt) ∧ (0 ≤ x ↔ 0 ≤ x.toInt) := by
  have z : (0 : Int64).toInt = 0 := by decide
  rw [Int64.lt_iff_toInt_lt, Int64.lt_iff_toInt_lt, Int64.le_iff_toInt_le, z]
  exact ⟨Iff.rfl, Iff.rfl, Iff.rfl⟩
theorem be_c1 {d : Int64} (h : ¬ 0 < d) : d.toInt ≤ 0 := by rw [(be_z d).2.1] at h; omega
theorem be_d1 {d : Int64} (h : 0 < d) : 0 < d.toInt := (be_z d).2.1.mp h
theorem be_c2 {d : Int64} (h : d < 0) : d.toInt < 0 := (be_z d).1.mp h
theorem be_d2 {d : Int64} (h : ¬ d < 0) : 0 ≤ d.toInt := by rw [(be_z d).1] at h; omega
theorem be_c3 {n d : Int64} (h : ¬ n ≤ d) : d.toInt < n.toInt := by rw [Int64.le_iff_toInt_le] at h; omega
theorem be_d3 {n d : Int64} (h : n ≤ d) : n.toInt ≤ d.toInt := Int64.le_iff_toInt_le.mp h
theorem be_s0 {x : Int64} (h : 0 ≤ x) : (0 : Int32) = if x.toInt < 0 then 1 else 0 := by rw [(be_z x).2.2] at h; rw [if_neg (by omega)]
theorem be_s1 {x : Int64} (h : ¬ 0 ≤ x) : (1 : Int32) = if x.toInt < 0 then 1 else 0 := by rw [(be_z x).2.2] at h; rw [if_pos (by omega)]
def sp_cut (z : Int) : Int := max (-2147483648) (min z 2147483647)
def sp_hD (n : Nat) : Nat := if n / 1024 % 32 = 0 then n % 1024 else 1024 + n % 1024
def sp_hZ (n : Nat) : Int := if n / 32768 % 2 = 0 then (sp_hD n : Int) else -(sp_hD n : Int)
def sp_fh (n : Nat) : Int := if n / 1024 % 32 = 31 then (if n % 1024 = 0 then (if n / 32768 % 2 = 0 then 2147483647 else -2147483648) else 0) else sp_cut (sp_hZ n * 2 ^ (max (n / 1024 % 32) 1) / 512)
theorem fh_31 {h v19 : Int32} (e : v19 = nI (h.toBitVec.toNat / 1024 % 32)) : v19 = 31 ↔ h.toBitVec.toNat / 1024 % 32 = 31 := by
  rw [e, show (31 : Int32) = nI 31 from rfl, nI_eq (by omega) (by decide)]
theorem fh_00 {h v19 : Int32} (e : v19 = nI (h.toBitVec.toNat / 1024 % 32)) : v19 = 0 ↔ h.toBitVec.toNat / 1024 % 32 = 0 := by
  rw [e, show (0 : Int32) = nI 0 from rfl, nI_eq (by omega) (by decide)]
theorem fh_f0 {h v25 : Int32} (e : v25 = nI (h.toBitVec.toNat % 1024)) : v25 = 0 ↔ h.toBitVec.toNat % 1024 = 0 := by
  rw [e, show (0 : Int32) = nI 0 from rfl, nI_eq (by omega) (by decide)]
theorem fh_s12 {h v3 v12 : Int32} (e3 : v3 = 0 ↔ h.toBitVec.toNat / 32768 % 2 = 0) (e12 : v12 = if v3 = 0 then 0 else 1) : v12 = 0 ↔ h.toBitVec.toNat / 32768 % 2 = 0 := by
  rw [← e3]
  by_cases z : v3 = 0
  · simp [e12, z]
  · simp [e12, z]
theorem fh_D0 {h v19 v25 : Int32} {w : Int64} (e19 : v19 = nI (h.toBitVec.toNat / 1024 % 32)) (e25 : v25 = nI (h.toBitVec.toNat % 1024)) (c : v19 = 0) (ew : w = v25.toInt64) : w.toInt = (sp_hD h.toBitVec.toNat : Int) := by
  rw [ew, Int32.toInt_toInt64, e25, nI_toInt (by omega), sp_hD, if_pos ((fh_00 e19).mp c)]
theorem fh_D1 {h v19 v25 v70 : Int32} {w : Int64} (e19 : v19 = nI (h.toBitVec.toNat / 1024 % 32)) (e25 : v25 = nI (h.toBitVec.toNat % 1024)) (c : ¬ v19 = 0) (e70 : v70 = 1024 + v25) (ew : w = v70.toInt64) : w.toInt = (sp_hD h.toBitVec.toNat : Int) := by
  have e1 : v70 = nI (1024 + h.toBitVec.toNat % 1024) := by rw [e70, e25, ← nI_add]; rfl
  rw [ew, Int32.toInt_toInt64, e1, nI_toInt (by omega), sp_hD, if_neg (fun z => c ((fh_00 e19).mpr z))]
theorem fh_Z {h v12 : Int32} {d w : Int64} (e12 : v12 = 0 ↔ h.toBitVec.toNat / 32768 % 2 = 0) (ed : d.toInt = (sp_hD h.toBitVec.toNat : Int)) (c : v12 = 0) (ew : w = d) : w.toInt = sp_hZ h.toBitVec.toNat := by
  rw [ew, ed, sp_hZ, if_pos (e12.mp c)]
theorem fh_Dlt (n : Nat) : sp_hD n < 2048 := by
  unfold sp_hD
  split <;> omega
theorem fh_Zn {h v12 : Int32} {d w : Int64} (e12 : v12 = 0 ↔ h.toBitVec.toNat / 32768 % 2 = 0) (ed : d.toInt = (sp_hD h.toBitVec.toNat : Int)) (c : ¬ v12 = 0) (ew : w = -d) : w.toInt = sp_hZ h.toBitVec.toNat := by
  have hb := fh_Dlt h.toBitVec.toNat
  rw [ew, Int64.toInt_neg, ed, fx_bm64 (by omega) (by omega), sp_hZ, if_neg (fun z => c (e12.mpr z))]
theorem fh_Zb (n : Nat) : -2048 < sp_hZ n ∧ sp_hZ n < 2048 := by
  have hb := fh_Dlt n
  unfold sp_hZ
  split <;> omega
theorem fh_st {h v19 v76 : Int32} (e19 : v19 = nI (h.toBitVec.toNat / 1024 % 32)) (e76 : v76 = if v19 < 1 then 1 else v19) : v76 = nI (max (h.toBitVec.toNat / 1024 % 32) 1) := by
  generalize hE : h.toBitVec.toNat / 1024 % 32 = E at e19
  have hlt : E < 32 := by omega
  have q : v19 < 1 ↔ E < 1 := by rw [e19, show (1 : Int32) = nI 1 from rfl, nI_ltI (by omega) (by decide)]
  by_cases z : v19 < 1
  · rw [if_pos z] at e76
    have := q.mp z
    rw [e76, show max E 1 = 1 by omega]
    rfl
  · rw [if_neg z] at e76
    have : ¬ E < 1 := fun y => z (q.mpr y)
    rw [e76, e19, show max E 1 = E by omega]
theorem fh_hi {v76 v108 : Int32} {w v109 : Int64} {st : Nat} {Z : Int} (e76 : v76 = nI st) (hst : st < 32) (c : ¬ v76 < 9) (hw : w.toInt = Z) (hZ : -2048 < Z ∧ Z < 2048) (e108 : v108 = v76 - 9) (e109 : v109 = w <<< (v108.toInt64 &&& 63)) : v109.toInt = Z * 2 ^ st / 512 := by
  have h9 : 9 ≤ st := by
    have : ¬ st < 9 := fun y => c (by rw [e76, show (9 : Int32) = nI 9 from rfl, nI_ltI (by omega) (by decide)]; exact y)
    omega
  obtain ⟨k, rfl⟩ : ∃ k, st = 9 + k := ⟨st - 9, by omega⟩
  have e1 : v108 = nI k := by rw [e108, e76, show (9 : Int32) = nI 9 from rfl, pk_sub (by omega)]; congr 1; omega
  have p1 : (2 : Nat) ^ k ≤ 2 ^ 22 := Nat.pow_le_pow_right (by decide) (by omega)
  have p2 : (lN (2 ^ k)).toInt = ((2 ^ k : Nat) : Int) := pk_lT (by omega)
  have b1 := fx_mulb (a := Z) (b := ((2 ^ k : Nat) : Int)) (A := 2048) (B := 2 ^ 22) (by omega) p1
  have e2 : v109.toInt = Z * ((2 ^ k : Nat) : Int) := by
    rw [e109, e1, fx_shl w (by omega), fx_lmul, hw, p2]
    rw [hw, p2]
    omega
  have e3 : Z * 2 ^ (9 + k) = Z * ((2 ^ k : Nat) : Int) * 512 := by
    rw [Int.pow_add, Int.mul_comm (2 ^ 9) (2 ^ k), ← Int.mul_assoc, Int.natCast_pow]
    rfl
  rw [e2, e3, Int.mul_ediv_cancel _ (by decide)]
theorem fh_lo {v76 v119 : Int32} {w v120 : Int64} {st : Nat} {Z : Int} (e76 : v76 = nI st) (hst : st < 32) (c : v76 < 9) (hw : w.toInt = Z) (e119 : v119 = 9 - v76) (e120 : v120 = w >>> (v119.toInt64 &&& 63)) : v120.toInt = Z * 2 ^ st / 512 := by
  have h9 : st < 9 := by
    rw [e76, show (9 : Int32) = nI 9 from rfl, nI_ltI (by omega) (by decide)] at c
    exact c
  obtain ⟨k, hk⟩ : ∃ k, 9 = k + st := ⟨9 - st, by omega⟩
  have e1 : v119 = nI k := by rw [e119, e76, show (9 : Int32) = nI 9 from rfl, pk_sub (by omega)]; congr 1; omega
  have e2 : v120.toInt = Z / ((2 ^ k : Nat) : Int) := by
    rw [e120, e1, wb_c k (by omega), fx_lshr w (lN k) k (by rw [wb_tb, wb_sm k (by omega), BitVec.toNat_ofNat]; omega), hw]
  have e3 : (512 : Int) = ((2 ^ k : Nat) : Int) * 2 ^ st := by
    have h8 : (512 : Nat) = 2 ^ k * 2 ^ st := by rw [← Nat.pow_add, ← hk]
    have e4 : (2 : Int) ^ st = ((2 ^ st : Nat) : Int) := (Int.natCast_pow 2 st).symm
    rw [e4, ← Int.natCast_mul, ← h8]
    rfl
  rw [e2, e3, Int.mul_ediv_mul_of_pos_left _ _ (Int.pow_pos (by decide))]
/-- toHalf -/
def sp_hv (s t : Nat) : Nat := (t - 1) * 1024 + (if t ≤ 10 then s * 2 ^ (10 - t) else sp_ne s (t - 10)) - 1024
def sp_th (a : Int) : Nat := (if a < 0 then 32768 else 0) + (if a.natAbs < 4 then a.natAbs * 256 else sp_hv a.natAbs (Nat.log2 a.natAbs))
theorem fx_sg0 (a : Int32) (h : 0 ≤ a) : (0 : Int32) = if a.toInt < 0 then 32768 else 0 := by
  have := fx_ge a h
  rw [if_neg (by omega)]
theorem fx_sg1 (a : Int32) (h : ¬ 0 ≤ a) : (32768 : Int32) = if a.toInt < 0 then 32768 else 0 := by
  have z : (0 : Int32).toInt = 0 := by decide
  rw [Int32.le_iff_toInt_le, z] at h
  rw [if_pos (by omega)]
theorem fx_ior {v w r : Int32} {N : Prop} [Decidable N] {n : Nat} (ev : v = if N then 32768 else 0) (hw : w = nI n) (hn : n < 32768) (er : r = v ||| w) : r = nI ((if N then 32768 else 0) + n) := by
  by_cases z : N
  · rw [if_pos z] at ev
    rw [if_pos z, er, ev, hw]
    apply Int32.toBitVec_inj.mp
    rw [Int32.toBitVec_or]
    apply BitVec.eq_of_toNat_eq
    rw [BitVec.toNat_or]
    have h1 : (nI n).toBitVec.toNat = n := pk_tn (by omega)
    have h2 : (nI (32768 + n)).toBitVec.toNat = 32768 + n := pk_tn (by omega)
    have h3 : (32768 : Int32).toBitVec.toNat = 2 ^ 15 * 1 := by decide
    rw [h1, h2, h3, ← Nat.two_pow_add_eq_or_of_lt (i := 15) hn 1]
  · rw [if_neg z] at ev
    rw [if_neg z, er, ev, hw, Nat.zero_add]
    exact Int32.zero_or
theorem th_s (a : Int32) (v12 v13 : Int64) (e12 : v12 = a.toInt64) (e13 : uN v13 = v12.toInt.natAbs) : v13 = lN a.toInt.natAbs ∧ v13.toInt = (a.toInt.natAbs : Int) ∧ a.toInt.natAbs ≤ 2147483648 := by
  have ha := fx_i32 a
  have e : uN v13 = a.toInt.natAbs := by rw [e13, e12, Int32.toInt_toInt64]
  have hb : a.toInt.natAbs ≤ 2147483648 := by omega
  have e2 : v13 = lN a.toInt.natAbs := by
    apply uN_inj
    rw [e]
    exact (wb_tn (n := a.toInt.natAbs) (by omega)).symm
  exact ⟨e2, by rw [e2]; exact pk_lT (by omega), hb⟩
theorem th_lt4 {v13 : Int64} {s : Nat} (e : v13 = lN s) (hs : s ≤ 2147483648) : (4 : Int64) ≤ v13 ↔ 4 ≤ s := by
  rw [e]
  exact pk_lLE (a := 4) (by decide) (by omega)
theorem th_small {v13 v29 : Int64} {v30 : Int32} {s : Nat} (e : v13 = lN s) (e29 : v29 = v13 <<< ((8 : Int32).toInt64 &&& 63)) (e30 : v30 = v29.toInt32) : v30 = nI (s * 256) := by
  have h := wb_shl s (k := 8) (by decide)
  have e1 : v29 = lN (s * 2 ^ 8) := by rw [e29, e]; exact h
  rw [e30, e1, lN_i]
theorem th_log {s t : Nat} (h1 : 2 ^ t ≤ s) (h2 : s < 2 ^ (t + 1)) : Nat.log2 s = t := by
  have h0 : s ≠ 0 := by
    have := Nat.two_pow_pos t
    omega
  exact (Nat.log2_eq_iff h0).mpr ⟨h1, h2⟩
theorem th_ne {s k : Nat} (h1 : 2 ^ (k + 10) ≤ s) (h2 : s < 2 ^ (k + 11)) : 1024 ≤ sp_ne s k ∧ sp_ne s k ≤ 2048 := by
  have p := Nat.two_pow_pos k
  have a1 : 1024 ≤ s / 2 ^ k := (Nat.le_div_iff_mul_le p).mpr (by rw [show 1024 = 2 ^ 10 from rfl, ← Nat.pow_add, Nat.add_comm]; exact h1)
  have a2 : s / 2 ^ k < 2048 := (Nat.div_lt_iff_lt_mul p).mpr (by rw [show 2048 = 2 ^ 11 from rfl, ← Nat.pow_add, Nat.add_comm]; exact h2)
  unfold sp_ne
  split <;> omega
theorem th_dig {s t : Nat} (ht : 2 ≤ t) (ht2 : t ≤ 31) (h1 : 2 ^ t ≤ s) (h2 : s < 2 ^ (t + 1)) : 1024 ≤ (if t ≤ 10 then s * 2 ^ (10 - t) else sp_ne s (t - 10)) ∧ (if t ≤ 10 then s * 2 ^ (10 - t) else sp_ne s (t - 10)) ≤ 2048 := by
  by_cases z : t ≤ 10
  · rw [if_pos z]
    have a1 := Nat.mul_le_mul_right (2 ^ (10 - t)) h1
    have a2 := Nat.mul_le_mul_right (2 ^ (10 - t)) (show s ≤ 2 ^ (t + 1) by omega)
    rw [← Nat.pow_add, show t + (10 - t) = 10 by omega] at a1
    rw [← Nat.pow_add, show t + 1 + (10 - t) = 11 by omega] at a2
    exact ⟨a1, a2⟩
  · rw [if_neg z]
    exact th_ne (by rw [show t - 10 + 10 = t by omega]; exact h1) (by rw [show t - 10 + 11 = t + 1 by omega]; exact h2)
theorem th_fin {v34 v42 v72 v79 v85 v86 : Int32} {t D : Nat} (ht : 2 ≤ t) (ht2 : t ≤ 31) (e34 : v34 = nI t) (e42 : v42 = v34 - 1) (e72 : v72 = nI D) (hD : 1024 ≤ D) (hD2 : D ≤ 2048) (e79 : v79 = v42 <<< ((10 : Int32) &&& 31)) (e85 : v85 = v72 - 1024) (e86 : v86 = v79 + v85) : v86 = nI ((t - 1) * 1024 + D - 1024) := by
  have f1 : v42 = nI (t - 1) := by rw [e42, e34]; exact pk_sub (b := 1) (by omega)
  have f2 : v79 = nI ((t - 1) * 1024) := by rw [e79, f1]; exact pk_shlN _ 10 (by decide) (by show (t - 1) * 1024 < _; omega)
  have f3 : v85 = nI (D - 1024) := by rw [e85, e72]; exact pk_sub (b := 1024) hD
  rw [e86, f2, f3, nI_add, show (t - 1) * 1024 + (D - 1024) = (t - 1) * 1024 + D - 1024 by omega]
theorem th_d1 {v13 v58 : Int64} {v34 v57 v59 : Int32} {s t : Nat} (e : v13 = lN s) (e34 : v34 = nI t) (ht : t ≤ 10) (e57 : v57 = 10 - v34) (e58 : v58 = v13 <<< (v57.toInt64 &&& 63)) (e59 : v59 = v58.toInt32) : v59 = nI (s * 2 ^ (10 - t)) := by
  have f1 : v57 = nI (10 - t) := by rw [e57, e34]; exact pk_sub (a := 10) ht
  rw [e59, e58, e, f1, wb_shl s (by omega), lN_i]
theorem th_t2 {s t : Nat} (h : 4 ≤ s) (h2 : s < 2 ^ (t + 1)) : 2 ≤ t := by
  rcases Nat.lt_or_ge t 2 with z | z
  · have := Nat.pow_le_pow_right (n := 2) (by decide) (show t + 1 ≤ 2 by omega)
    omega
  · exact z
theorem th_end0 {a : Int} {v10 v30 r : Int32} (e10 : v10 = if a < 0 then 32768 else 0) (h4 : a.natAbs < 4) (e30 : v30 = nI (a.natAbs * 256)) (er : r = v10 ||| v30) : r = nI (sp_th a) := by
  rw [fx_ior e10 e30 (by omega) er, sp_th, if_pos h4]
theorem th_end1 {a : Int} {v10 v86 r : Int32} {t : Nat} (e10 : v10 = if a < 0 then 32768 else 0) (ht2 : 2 ≤ t) (ht : t ≤ 31) (h4 : 4 ≤ a.natAbs) (hp1 : 2 ^ t ≤ a.natAbs) (hp2 : a.natAbs < 2 ^ (t + 1)) (e86 : v86 = nI ((t - 1) * 1024 + (if t ≤ 10 then a.natAbs * 2 ^ (10 - t) else sp_ne a.natAbs (t - 10)) - 1024)) (er : r = v10 ||| v86) : r = nI (sp_th a) := by
  have hd := th_dig ht2 ht hp1 hp2
  have hlog := th_log hp1 hp2
  have hb : (t - 1) * 1024 + (if t ≤ 10 then a.natAbs * 2 ^ (10 - t) else sp_ne a.natAbs (t - 10)) - 1024 < 32768 := by
    generalize (if t ≤ 10 then a.natAbs * 2 ^ (10 - t) else sp_ne a.natAbs (t - 10)) = D at hd ⊢
    omega
  have h9 : ¬ a.natAbs < 4 := by omega
  have e9 : sp_th a = (if a < 0 then 32768 else 0) + ((t - 1) * 1024 + (if t ≤ 10 then a.natAbs * 2 ^ (10 - t) else sp_ne a.natAbs (t - 10)) - 1024) := by
    unfold sp_th
    rw [if_neg h9, hlog]
    rfl
  rw [e9]
  exact fx_ior e10 e86 hb er
