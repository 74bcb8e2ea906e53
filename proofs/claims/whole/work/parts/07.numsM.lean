/-! the numbers of the reference -/
theorem nI_ofInt (n : Nat) : nI n = Int32.ofInt (n : Int) := by
  apply Int32.toBitVec_inj.mp
  show BitVec.ofNat 32 n = BitVec.ofInt 32 (n : Int)
  exact (BitVec.ofInt_natCast 32 n).symm
theorem of_toInt (x : Int32) : Int32.ofInt x.toInt = x := Int32.toInt_inj.mp (by rw [Int32.toInt_ofInt]; exact Int32.toInt_bmod x)
theorem sh_16 (x : Int32) : x <<< ((16 : Int32) &&& 31) = x * 65536 := by
  apply Int32.toBitVec_inj.mp
  apply BitVec.eq_of_toNat_eq
  rw [pk_shl x _ 16 (by decide), Int32.toBitVec_mul, BitVec.toNat_mul]
  rfl
theorem lo_16 (a : Int32) : a &&& 65535 = nI (a.toBitVec.toNat % 65536) := pk_and a 16 (by decide)
theorem hi_16 (a v : Int32) (e : v = a >>> ((16 : Int32) &&& 31)) : v.toInt = a.toInt / 65536 := by
  rw [e, pk_shr a _ 16 (by decide), Int.shiftRight_eq_div_pow]
  rfl
theorem mp_all (a b v8 v13 v19 v25 v31 v34 v38 v39 v44 v45 v50 v53 v54 : Int32) (e8 : v8 = a >>> ((16 : Int32) &&& 31)) (e13 : v13 = a &&& 65535) (e19 : v19 = b >>> ((16 : Int32) &&& 31)) (e25 : v25 = b &&& 65535) (e31 : v31 = v8 * v19) (e34 : v34 = v31 <<< ((16 : Int32) &&& 31)) (e38 : v38 = v8 * v25) (e39 : v39 = v34 + v38) (e44 : v44 = v13 * v19) (e45 : v45 = v39 + v44) (e50 : v50 = v13 * v25)
    (e53 : v53 = (v50.toUInt32 >>> ((16 : Int32).toUInt32 &&& Int32.toUInt32 31)).toInt32) (e54 : v54 = v45 + v53) : v54.toInt = (a.toInt * b.toInt / 65536).bmod (2 ^ 32) := by
  have hA := hi_16 a v8 e8
  have hB := hi_16 b v19 e19
  have ta := fx_tn a
  have tb := fx_tn b
  obtain ⟨AL, hAL⟩ : ∃ n, n = a.toBitVec.toNat % 65536 := ⟨_, rfl⟩
  obtain ⟨BL, hBL⟩ : ∃ n, n = b.toBitVec.toNat % 65536 := ⟨_, rfl⟩
  have f13 : v13 = nI AL := by rw [e13, lo_16, hAL]
  have f25 : v25 = nI BL := by rw [e25, lo_16, hBL]
  have bA : AL < 65536 := by omega
  have bB : BL < 65536 := by omega
  have ea : a.toInt = v8.toInt * 65536 + AL := by omega
  have eb : b.toInt = v19.toInt * 65536 + BL := by omega
  have hm := Nat.mul_le_mul (show AL ≤ 65535 by omega) (show BL ≤ 65535 by omega)
  have f53 : v53 = nI (AL * BL / 65536) := by
    rw [e53, e50, f13, f25, pk_mul]
    exact pk_ushrN (by omega) _ 16 (by decide)
  have hr : v54 = Int32.ofInt (v8.toInt * v19.toInt * 65536 + v8.toInt * BL + AL * v19.toInt + ((AL * BL / 65536 : Nat) : Int)) := by
    rw [Int32.ofInt_add, Int32.ofInt_add, Int32.ofInt_add, Int32.ofInt_mul, Int32.ofInt_mul, Int32.ofInt_mul, Int32.ofInt_mul, of_toInt, of_toInt, ← nI_ofInt, ← nI_ofInt, ← nI_ofInt, ← f13, ← f25, ← f53, e54, e45, e39, e34, sh_16, e31, e38, e44]
    rfl
  have ep : a.toInt * b.toInt / 65536 = v8.toInt * v19.toInt * 65536 + v8.toInt * BL + AL * v19.toInt + ((AL * BL / 65536 : Nat) : Int) := by
    have e1 : a.toInt * b.toInt = (v8.toInt * v19.toInt * 65536 + v8.toInt * BL + AL * v19.toInt) * 65536 + (AL : Int) * BL := by
      rw [ea, eb, Int.add_mul, Int.mul_add, Int.mul_add]
      have g1 : v8.toInt * 65536 * (v19.toInt * 65536) = v8.toInt * v19.toInt * 65536 * 65536 := by
        rw [Int.mul_assoc, Int.mul_left_comm 65536, ← Int.mul_assoc, ← Int.mul_assoc]
      have g2 : v8.toInt * 65536 * (BL : Int) = v8.toInt * BL * 65536 := Int.mul_right_comm ..
      have g3 : (AL : Int) * (v19.toInt * 65536) = AL * v19.toInt * 65536 := (Int.mul_assoc ..).symm
      rw [g1, g2, g3]
      omega
    have e2 : (AL : Int) * BL = ((AL * BL : Nat) : Int) := by rw [Int.natCast_mul]
    rw [e1, e2]
    generalize AL * BL = Z
    omega
  rw [hr, ep, Int32.toInt_ofInt]
/-- nearest -/
theorem nr_nz {y : Int32} {b : Nat} (hy : y = nI b) (h0 : 0 < b) (hb : b < 1073741824) : ¬ y = 0 := by rw [hy]; exact nI_ne0 h0 (by omega)
theorem nr_v {x y v2 v7 v8 : Int32} {a b : Nat} (hx : x = nI a) (hy : y = nI b) (ha : a < 1073741824) (h0 : 0 < b) (hb : b < 1073741824) (e2 : v2 = x / y) (e7 : v7 = x - x / y * y) (e8 : v8 = 2 * v7) : v2 = nI (a / b) ∧ v8 = nI (2 * (a % b)) := by
  have f7 : v7 = nI (a % b) := by rw [e7, hx, hy]; exact pk_rem (by omega) h0 (by omega)
  refine ⟨by rw [e2, hx, hy]; exact pk_div (by omega) h0 (by omega), ?_⟩
  rw [e8, f7]
  exact pk_mul 2 (a % b)
theorem nr_yes {x y v2 v7 v8 r : Int32} {a b : Nat} (hx : x = nI a) (hy : y = nI b) (ha : a < 1073741824) (h0 : 0 < b) (hb : b < 1073741824) (e2 : v2 = x / y) (e7 : v7 = x - x / y * y) (e8 : v8 = 2 * v7) (h : y ≤ v8) (er : r = v2 + 1) : r = nI (a / b + (if b ≤ 2 * (a % b) then 1 else 0)) := by
  obtain ⟨f2, f8⟩ := nr_v hx hy ha h0 hb e2 e7 e8
  have hm := Nat.mod_lt a h0
  rw [hy, f8, nI_leI (by omega) (by omega)] at h
  rw [er, f2, if_pos h]
  exact nI_1 _
theorem nr_no {x y v2 v7 v8 : Int32} {a b : Nat} (hx : x = nI a) (hy : y = nI b) (ha : a < 1073741824) (h0 : 0 < b) (hb : b < 1073741824) (e2 : v2 = x / y) (e7 : v7 = x - x / y * y) (e8 : v8 = 2 * v7) (h : v8 < y) : v2 = nI (a / b + (if b ≤ 2 * (a % b) then 1 else 0)) := by
  obtain ⟨f2, f8⟩ := nr_v hx hy ha h0 hb e2 e7 e8
  have hm := Nat.mod_lt a h0
  rw [hy, f8, nI_ltI (by omega) (by omega)] at h
  rw [f2, if_neg (by omega), Nat.add_zero]
/-- scaled -/
def sp_sc (n : Nat) : Nat := if n / 1024 % 32 = 0 then n % 1024 else (1024 + n % 1024) * 2 ^ (n / 1024 % 32 - 1)
theorem sc_0 {h v6 v12 : Int32} {w : Int64} (f4 : v6 = nI (h.toBitVec.toNat / 1024 % 32)) (f12 : v12 = nI (h.toBitVec.toNat % 1024)) (c : v6 = 0) (e : w = v12.toInt64) : w = lN (sp_sc h.toBitVec.toNat) := by
  rw [e, f12, nI_l (by omega), sp_sc, if_pos ((fh_00 f4).mp c)]
theorem sc_1 {h v6 v12 v30 : Int32} {w v27 v31 : Int64} (f4 : v6 = nI (h.toBitVec.toNat / 1024 % 32)) (f12 : v12 = nI (h.toBitVec.toNat % 1024)) (c : ¬ v6 = 0) (e : w = v12.toInt64) (e27 : v27 = 1024 + w) (e30 : v30 = v6 - 1) (e31 : v31 = v27 <<< (v30.toInt64 &&& 63)) : v31 = lN (sp_sc h.toBitVec.toNat) := by
  have hne : ¬ h.toBitVec.toNat / 1024 % 32 = 0 := fun z => c ((fh_00 f4).mpr z)
  have g27 : v27 = lN (1024 + h.toBitVec.toNat % 1024) := by
    rw [e27, e, f12, nI_l (by omega), ← lN_add]
    rfl
  have g30 : v30 = nI (h.toBitVec.toNat / 1024 % 32 - 1) := by rw [e30, f4]; exact pk_sub (b := 1) (by omega)
  rw [e31, g27, g30, wb_shl _ (by omega), sp_sc, if_neg hne]
/-- channel -/
theorem mc_0 (a : Int32) (h : a < 0) : (0 : Int32).toInt = sp_chan a.toInt := by
  have z : (0 : Int32).toInt = 0 := by decide
  rw [Int32.lt_iff_toInt_lt, z] at h
  rw [z, sp_chan]
  omega
theorem mc_1 (a : Int32) (h : 65536 < a) : (255 : Int32).toInt = sp_chan a.toInt := by
  have z : (65536 : Int32).toInt = 65536 := by decide
  rw [Int32.lt_iff_toInt_lt, z] at h
  rw [show (255 : Int32).toInt = 255 from by decide, sp_chan]
  omega
theorem mc_r (a : Int32) (h0 : 0 ≤ a) (h1 : a ≤ 65536) : 0 ≤ a.toInt ∧ a.toInt ≤ 65536 := by
  have z : (65536 : Int32).toInt = 65536 := by decide
  rw [Int32.le_iff_toInt_le, z] at h1
  exact ⟨fx_ge a h0, h1⟩
theorem mc_x (a v : Int32) (h0 : 0 ≤ a) (h1 : a ≤ 65536) (e : v = 255 * a) : v = nI (255 * a.toInt.toNat) := by
  obtain ⟨k0, k1⟩ := mc_r a h0 h1
  apply Int32.toInt_inj.mp
  rw [nI_toInt (by omega), e, Int32.toInt_mul, show (255 : Int32).toInt = 255 from by decide, fx_bm32 (by omega) (by omega)]
  omega
theorem mc_b (a : Int32) (h0 : 0 ≤ a) (h1 : a ≤ 65536) : 255 * a.toInt.toNat < 1073741824 := by
  obtain ⟨k0, k1⟩ := mc_r a h0 h1
  omega
theorem mc_2 (a r : Int32) (h0 : 0 ≤ a) (h1 : a ≤ 65536) (e : r = nI (255 * a.toInt.toNat / 65536 + (if 65536 ≤ 2 * (255 * a.toInt.toNat % 65536) then 1 else 0))) : r.toInt = sp_chan a.toInt := by
  obtain ⟨k0, k1⟩ := mc_r a h0 h1
  obtain ⟨n, hn⟩ : ∃ n : Nat, a.toInt = (n : Int) := ⟨a.toInt.toNat, by omega⟩
  rw [hn] at e ⊢
  have e1 : ((n : Int)).toNat = n := by omega
  rw [e1] at e
  rw [e, nI_toInt (by split <;> omega), sp_chan]
  split <;> omega
/-- bytes -/
theorem mb_1 {a : Int32} (h : a < 0 ∨ 255 < a) : (1 : Int32) = if sp_byte a.toInt then 0 else 1 := by
  have z : (0 : Int32).toInt = 0 := by decide
  have z2 : (255 : Int32).toInt = 255 := by decide
  rw [Int32.lt_iff_toInt_lt, z, Int32.lt_iff_toInt_lt, z2] at h
  rw [if_neg (by unfold sp_byte; omega)]
theorem mb_by {a : Int32} (h1 : ¬ a < 0) (h2 : a ≤ 255) : sp_byte a.toInt := by
  have z : (0 : Int32).toInt = 0 := by decide
  have z2 : (255 : Int32).toInt = 255 := by decide
  rw [Int32.lt_iff_toInt_lt, z] at h1
  rw [Int32.le_iff_toInt_le, z2] at h2
  exact ⟨by omega, h2⟩
theorem mb_0 {a : Int32} (h1 : ¬ a < 0) (h2 : a ≤ 255) : (0 : Int32) = if sp_byte a.toInt then 0 else 1 := by
  rw [if_pos (mb_by h1 h2)]
theorem mb_no {a : Int32} (h : a < 0 ∨ 255 < a) : ¬ sp_byte a.toInt := by
  have z : (0 : Int32).toInt = 0 := by decide
  have z2 : (255 : Int32).toInt = 255 := by decide
  rw [Int32.lt_iff_toInt_lt, z, Int32.lt_iff_toInt_lt, z2] at h
  unfold sp_byte
  omega
theorem mb_2 {a b : Int32} (h : (a < 0 ∨ 255 < a) ∨ (b < 0 ∨ 255 < b)) : (1 : Int32) = if sp_byte a.toInt ∧ sp_byte b.toInt then 0 else 1 := by
  rw [if_neg]
  rintro ⟨k1, k2⟩
  rcases h with h | h
  · exact mb_no h k1
  · exact mb_no h k2
theorem mb_3 {a b : Int32} (h1 : ¬ a < 0) (h2 : ¬ 255 < a) (h3 : ¬ b < 0) (h4 : b ≤ 255) : (0 : Int32) = if sp_byte a.toInt ∧ sp_byte b.toInt then 0 else 1 := by
  rw [if_pos ⟨mb_by h1 (Int32.not_lt.mp h2), mb_by h3 h4⟩]
theorem mb_t {P : Prop} [Decidable P] {v : Int32} (e : v = if P then 0 else 1) : (¬ v ≤ 0 → v = 1) ∧ (¬ v ≤ 0 → ¬ P) ∧ (v ≤ 0 → v = 0) ∧ (v ≤ 0 → P) := by
  by_cases h : P
  · rw [if_pos h] at e
    subst e
    exact ⟨fun z => absurd (by decide) z, fun z => absurd (by decide) z, fun _ => rfl, fun _ => h⟩
  · rw [if_neg h] at e
    subst e
    exact ⟨fun _ => rfl, fun _ => h, fun z => absurd z (by decide), fun z => absurd z (by decide)⟩
theorem mf_n {a : Int32} (h : sp_byte a.toInt) : ∃ n : Nat, n ≤ 255 ∧ a.toInt = (n : Int) ∧ a.toInt.toNat = n := by
  obtain ⟨h1, h2⟩ := h
  exact ⟨a.toInt.toNat, by omega, by omega, rfl⟩
theorem mf_x {a v : Int32} (h : sp_byte a.toInt) (e : v = 65536 * a) : v = nI (65536 * a.toInt.toNat) := by
  obtain ⟨n, hn, e1, e2⟩ := mf_n h
  apply Int32.toInt_inj.mp
  rw [fx_fix h e, nI_toInt (by omega)]
  omega
theorem mf_b {a : Int32} (h : sp_byte a.toInt) : 65536 * a.toInt.toNat < 1073741824 := by
  obtain ⟨n, hn, e1, e2⟩ := mf_n h
  omega
theorem nr_255 {Z : Nat} (h : Z ≤ 16711680) {r : Int32} (e : r = nI (Z / 255 + (if 255 ≤ 2 * (Z % 255) then 1 else 0))) : r.toInt = (2 * (Z : Int) + 255) / 510 := by
  rw [e, nI_toInt (by split <;> omega)]
  split <;> omega
theorem mf_1 {a r : Int32} (h : sp_byte a.toInt) (e : r = nI (65536 * a.toInt.toNat / 255 + (if 255 ≤ 2 * (65536 * a.toInt.toNat % 255) then 1 else 0))) : r.toInt = (2 * (65536 * a.toInt) + 255) / 510 := by
  obtain ⟨n, hn, e1, e2⟩ := mf_n h
  rw [e2] at e
  have := nr_255 (Z := 65536 * n) (by omega) e
  rw [this, e1]
  omega
theorem ms_m {a b : Int32} (h : sp_byte a.toInt) (k : sp_byte b.toInt) : a.toInt.toNat * b.toInt.toNat ≤ 65025 ∧ a.toInt * b.toInt = ((a.toInt.toNat * b.toInt.toNat : Nat) : Int) := by
  obtain ⟨n, hn, e1, e2⟩ := mf_n h
  obtain ⟨o, ho, g1, g2⟩ := mf_n k
  rw [e2, g2, e1, g1, Int.natCast_mul]
  exact ⟨Nat.mul_le_mul hn ho, rfl⟩
theorem ms_x {a b v : Int32} (h : sp_byte a.toInt) (k : sp_byte b.toInt) (e : v = a * b) : v = nI (a.toInt.toNat * b.toInt.toNat) := by
  obtain ⟨m1, m2⟩ := ms_m h k
  apply Int32.toInt_inj.mp
  rw [(fx_sha h k e).1, nI_toInt (by omega), m2]
theorem ms_b {a b : Int32} (h : sp_byte a.toInt) (k : sp_byte b.toInt) : a.toInt.toNat * b.toInt.toNat < 1073741824 := by
  have := (ms_m h k).1
  omega
theorem ms_1 {a b r : Int32} (h : sp_byte a.toInt) (k : sp_byte b.toInt) (e : r = nI (a.toInt.toNat * b.toInt.toNat / 255 + (if 255 ≤ 2 * (a.toInt.toNat * b.toInt.toNat % 255) then 1 else 0))) : r.toInt = (2 * (a.toInt * b.toInt) + 255) / 510 := by
  obtain ⟨m1, m2⟩ := ms_m h k
  rw [nr_255 (by omega) e, m2]
