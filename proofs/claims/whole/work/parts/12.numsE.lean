/-! the reference's 128 bits: multiply, divide, exact -/
def mm_I (a b : Int64) (n : Nat) (z : Int64 × Int64 × Int32) : Prop := z.2.2 = dn n ∧ n ≤ 64 ∧ uN z.1 * 18446744073709551616 + uN z.2.1 = uN a * (uN b / 2 ^ n)
theorem mm_0 (a b : Int64) : mm_I a b 64 (0, 0, 63) := ⟨show (63 : Int32) = dn 64 by decide, by decide, by
  have h : uN b / 2 ^ 64 = 0 := Nat.div_eq_of_lt (uN_lt b)
  show uN 0 * 18446744073709551616 + uN 0 = uN a * (uN b / 2 ^ 64)
  rw [h, Nat.mul_zero]
  decide⟩
theorem mm_sh {up lo v25 v32 v33 v43 : Int64} (hu : uN up < 9223372036854775808) (e25 : v25 = up <<< ((1 : Int32).toInt64 &&& 63)) (e32 : v32 = (lo.toUInt64 >>> ((63 : Int32).toInt64.toUInt64 &&& Int64.toUInt64 63)).toInt64) (e33 : v33 = v25 ||| v32) (e43 : v43 = lo <<< ((1 : Int32).toInt64 &&& 63)) :
    uN v33 * 18446744073709551616 + uN v43 = 2 * (uN up * 18446744073709551616 + uN lo) ∧ uN (v43 ||| 1) = uN v43 + 1 := by
  have hl := uN_lt lo
  have f32 : uN v32 = uN lo / 9223372036854775808 := by rw [e32, uN_s63]
  have f33 : uN v33 = (2 * uN up) % 18446744073709551616 + uN v32 := by rw [e33, e25]; exact uN_or (by omega)
  have f43 : uN v43 = (2 * uN lo) % 18446744073709551616 := by rw [e43, uN_shl]
  refine ⟨by omega, ?_⟩
  have u1 : uN 1 = 1 := by decide
  rw [f43, e43, uN_or (by rw [u1]; decide), u1]
theorem mm_up {a b up lo : Int64} {j : Nat} (h : uN up * 18446744073709551616 + uN lo = uN a * (uN b / 2 ^ (j + 1))) : uN up < 9223372036854775808 := by
  have ha := uN_lt a
  have hb := uN_lt b
  have h1 : uN b / 2 ^ (j + 1) ≤ uN b / 2 := by
    rw [Nat.pow_succ, ← Nat.div_div_eq_div_mul, Nat.div_div_eq_div_mul, Nat.mul_comm, ← Nat.div_div_eq_div_mul]
    exact Nat.div_le_self _ _
  have h2 := Nat.mul_le_mul (show uN a ≤ 18446744073709551615 by omega) (show uN b / 2 ^ (j + 1) ≤ 9223372036854775807 by omega)
  omega
theorem mm_bit {b v50 v52 : Int64} {k : Int32} {j : Nat} (hk : k = nI j) (hj : j < 64) (e50 : v50 = (b.toUInt64 >>> (k.toInt64.toUInt64 &&& Int64.toUInt64 63)).toInt64) (e52 : v52 = v50 &&& 1) : uN v52 = uN b / 2 ^ j % 2 ∧ (v52 = 1 ↔ uN b / 2 ^ j % 2 = 1) := by
  have f : uN v52 = uN b / 2 ^ j % 2 := by rw [e52, fx_and1, e50, hk, uN_sk b hj]
  have u1 : uN 1 = 1 := by decide
  refine ⟨f, ?_⟩
  rw [← f]
  constructor
  · intro z
    rw [z, u1]
  · intro z
    exact uN_inj (by rw [z, u1])
theorem mm_dbl {A B j : Nat} : A * (B / 2 ^ j) = 2 * (A * (B / 2 ^ (j + 1))) + A * (B / 2 ^ j % 2) := by
  have h := fx_bit B j
  calc A * (B / 2 ^ j) = A * (2 * (B / 2 ^ (j + 1)) + B / 2 ^ j % 2) := by rw [← h]
    _ = 2 * (A * (B / 2 ^ (j + 1))) + A * (B / 2 ^ j % 2) := by rw [Nat.mul_add, Nat.mul_left_comm]
theorem mm_no {a b up lo v33 v43 : Int64} {k v101 : Int32} {j : Nat} (hk : k = nI j) (hj : j + 1 ≤ 64) (h : uN up * 18446744073709551616 + uN lo = uN a * (uN b / 2 ^ (j + 1))) (hs : uN v33 * 18446744073709551616 + uN v43 = 2 * (uN up * 18446744073709551616 + uN lo)) (hb : ¬ uN b / 2 ^ j % 2 = 1) (ev : v101 = k + Int32.ofInt (-1)) : mm_I a b j (v33, v43, v101) := by
  refine ⟨dn_i hk ev, by omega, ?_⟩
  show uN v33 * 18446744073709551616 + uN v43 = uN a * (uN b / 2 ^ j)
  have h0 : uN b / 2 ^ j % 2 = 0 := by omega
  rw [mm_dbl, h0, hs, h, Nat.mul_zero]
  omega
theorem mm_tot {a b : Int64} {j : Nat} : uN a * (uN b / 2 ^ j) ≤ 18446744073709551615 * 18446744073709551615 := by
  have ha := uN_lt a
  have hb := uN_lt b
  have h1 : uN b / 2 ^ j ≤ uN b := Nat.div_le_self _ _
  exact Nat.mul_le_mul (by omega) (by omega)
theorem mm_car {H L U V A S : Nat} (hs : H * 18446744073709551616 + L = 2 * (U * 18446744073709551616 + V)) (l1 : L < 18446744073709551616) (l2 : A < 18446744073709551616) (f : S = (L + A) % 18446744073709551616) (hlt : S < L) : (H + 1) * 18446744073709551616 + S = 2 * (U * 18446744073709551616 + V) + A := by
  have g : S + 18446744073709551616 = L + A := by
    have := Nat.mod_add_div (L + A) 18446744073709551616
    rw [← f] at this
    have h3 : (L + A) / 18446744073709551616 = 1 := by
      have h4 : (L + A) / 18446744073709551616 < 2 := Nat.div_lt_of_lt_mul (by omega)
      have h5 : (L + A) / 18446744073709551616 ≠ 0 := fun z => by
        rw [z] at this
        omega
      omega
    rw [h3] at this
    omega
  rw [← hs, Nat.add_mul, Nat.one_mul, Nat.add_assoc, Nat.add_assoc, Nat.add_comm 18446744073709551616 S, g]
theorem mm_ncar {H L U V A S : Nat} (hs : H * 18446744073709551616 + L = 2 * (U * 18446744073709551616 + V)) (l1 : L < 18446744073709551616) (l2 : A < 18446744073709551616) (f : S = (L + A) % 18446744073709551616) (hlt : ¬ S < L) : H * 18446744073709551616 + S = 2 * (U * 18446744073709551616 + V) + A := by
  have g : S = L + A := by
    have := Nat.mod_add_div (L + A) 18446744073709551616
    rw [← f] at this
    have h3 : (L + A) / 18446744073709551616 = 0 := by
      have h4 : (L + A) / 18446744073709551616 < 2 := Nat.div_lt_of_lt_mul (by omega)
      have h5 : (L + A) / 18446744073709551616 ≠ 1 := fun z => by
        rw [z] at this
        omega
      omega
    rw [h3] at this
    omega
  rw [← hs, g, Nat.add_assoc]
theorem mm_c1 {a b up lo v33 v43 v63 v84 : Int64} {k v101 v73 : Int32} {j : Nat} (hk : k = nI j) (hj : j + 1 ≤ 64) (h : uN up * 18446744073709551616 + uN lo = uN a * (uN b / 2 ^ (j + 1))) (hs : uN v33 * 18446744073709551616 + uN v43 = 2 * (uN up * 18446744073709551616 + uN lo)) (hb : uN b / 2 ^ j % 2 = 1) (e63 : v63 = v43 + a) (e73 : v73 = if uN v63 < uN v43 then 1 else 0) (c : ¬ v73 = 0) (e84 : v84 = v33 + 1) (ev : v101 = k + Int32.ofInt (-1)) : mm_I a b j (v84, v63, v101) := by
  refine ⟨dn_i hk ev, by omega, ?_⟩
  show uN v84 * 18446744073709551616 + uN v63 = uN a * (uN b / 2 ^ j)
  have hlt : uN v63 < uN v43 := Classical.byContradiction (fun z => c (by rw [e73, if_neg z]))
  have t := mm_tot (a := a) (b := b) (j := j)
  have e : uN a * (uN b / 2 ^ j) = 2 * (uN a * (uN b / 2 ^ (j + 1))) + uN a := by rw [mm_dbl, hb, Nat.mul_one]
  have f63 : uN v63 = (uN v43 + uN a) % 18446744073709551616 := by rw [e63, uN_add]
  have l1 := uN_lt v43
  have l2 := uN_lt a
  have l3 := uN_lt v33
  have u1 : uN 1 = 1 := by decide
  rw [e] at t ⊢
  rw [← h] at t ⊢
  have f84 : uN v84 = uN v33 + 1 := by
    rw [e84, fx_uadd _ _ (by rw [u1]; omega), u1]
  rw [f84]
  exact mm_car hs l1 l2 f63 hlt
theorem mm_c0 {a b up lo v33 v43 v63 : Int64} {k v101 v73 : Int32} {j : Nat} (hk : k = nI j) (hj : j + 1 ≤ 64) (h : uN up * 18446744073709551616 + uN lo = uN a * (uN b / 2 ^ (j + 1))) (hs : uN v33 * 18446744073709551616 + uN v43 = 2 * (uN up * 18446744073709551616 + uN lo)) (hb : uN b / 2 ^ j % 2 = 1) (e63 : v63 = v43 + a) (e73 : v73 = if uN v63 < uN v43 then 1 else 0) (c : v73 = 0) (ev : v101 = k + Int32.ofInt (-1)) : mm_I a b j (v33, v63, v101) := by
  refine ⟨dn_i hk ev, by omega, ?_⟩
  show uN v33 * 18446744073709551616 + uN v63 = uN a * (uN b / 2 ^ j)
  have hlt : ¬ uN v63 < uN v43 := fun z => by
    rw [if_pos z, c] at e73
    exact absurd e73 (by decide)
  have e : uN a * (uN b / 2 ^ j) = 2 * (uN a * (uN b / 2 ^ (j + 1))) + uN a := by rw [mm_dbl, hb, Nat.mul_one]
  have f63 : uN v63 = (uN v43 + uN a) % 18446744073709551616 := by rw [e63, uN_add]
  have l1 := uN_lt v43
  have l2 := uN_lt a
  rw [e, ← h]
  exact mm_ncar hs l1 l2 f63 hlt
theorem mm_end {a b up lo : Int64} (h : uN up * 18446744073709551616 + uN lo = uN a * (uN b / 2 ^ 0)) : uN up * 18446744073709551616 + uN lo = uN a * uN b := by
  rw [Nat.pow_zero, Nat.div_one] at h
  exact h
/-- divide -/
def md_I (N C : Nat) (n : Nat) (z : Int64 × Int64 × Int64 × Int32) : Prop := z.2.2.2 = dn n ∧ n ≤ 128 ∧ uN z.2.2.1 < C ∧ N / 2 ^ n = (uN z.1 * 18446744073709551616 + uN z.2.1) * C + uN z.2.2.1
theorem md_N (up lo : Int64) : uN up * 18446744073709551616 + uN lo < 2 ^ 128 := by
  have h1 := uN_lt up
  have h2 := uN_lt lo
  omega
theorem md_0 {N C : Nat} (hN : N < 2 ^ 128) (hC : 0 < C) : md_I N C 128 (0, 0, 0, 127) := ⟨show (127 : Int32) = dn 128 by decide, by decide, hC, by
  have u0 : uN 0 = 0 := by decide
  show N / 2 ^ 128 = (uN 0 * 18446744073709551616 + uN 0) * C + uN 0
  rw [Nat.div_eq_of_lt hN, u0]
  omega⟩
theorem md_hi {up lo v33 v35 : Int64} {k v32 : Int32} {j : Nat} (hk : k = nI j) (hj : j < 128) (c : ¬ k ≤ 63) (e32 : v32 = k - 64) (e33 : v33 = (up.toUInt64 >>> (v32.toInt64.toUInt64 &&& Int64.toUInt64 63)).toInt64) (e35 : v35 = v33 &&& 1) : uN v35 = (uN up * 18446744073709551616 + uN lo) / 2 ^ j % 2 := by
  have h64 : 64 ≤ j := by
    have : ¬ j ≤ 63 := fun z => c (by rw [hk, show (63 : Int32) = nI 63 from rfl, nI_leI (by omega) (by decide)]; exact z)
    omega
  obtain ⟨i, rfl⟩ : ∃ i, j = 64 + i := ⟨j - 64, by omega⟩
  have f32 : v32 = nI i := by rw [e32, hk, show (64 : Int32) = nI 64 from rfl, pk_sub (by omega)]; congr 1; omega
  have hl := uN_lt lo
  have hq : (uN up * 18446744073709551616 + uN lo) / 2 ^ (64 + i) = uN up / 2 ^ i := by
    rw [Nat.pow_add, ← Nat.div_div_eq_div_mul]
    congr 1
    show (uN up * 18446744073709551616 + uN lo) / 18446744073709551616 = uN up
    omega
  rw [e35, fx_and1, e33, f32, uN_sk up (by omega), hq]
theorem md_lo {up lo v45 v47 : Int64} {k : Int32} {j : Nat} (hk : k = nI j) (hj : j < 128) (c : k ≤ 63) (e45 : v45 = (lo.toUInt64 >>> (k.toInt64.toUInt64 &&& Int64.toUInt64 63)).toInt64) (e47 : v47 = v45 &&& 1) : uN v47 = (uN up * 18446744073709551616 + uN lo) / 2 ^ j % 2 := by
  have h63 : j ≤ 63 := by
    rw [hk, show (63 : Int32) = nI 63 from rfl, nI_leI (by omega) (by decide)] at c
    exact c
  obtain ⟨i, hi⟩ : ∃ i, 64 = j + (i + 1) := ⟨63 - j, by omega⟩
  have hq : (uN up * 18446744073709551616 + uN lo) / 2 ^ j = uN up * 2 ^ i * 2 + uN lo / 2 ^ j := by
    have e : uN up * 18446744073709551616 = 2 ^ j * (uN up * 2 ^ i * 2) := by
      rw [show (18446744073709551616 : Nat) = 2 ^ 64 from rfl, hi, Nat.pow_add, Nat.pow_succ, Nat.mul_left_comm, Nat.mul_assoc (uN up)]
    rw [e, Nat.mul_add_div (Nat.two_pow_pos j)]
  rw [e47, fx_and1, e45, hk, uN_sk lo (by omega), hq]
  omega
theorem md_top {N C Q R j : Nat} (hN : N < 2 ^ 128) (hC : 0 < C) (h : N / 2 ^ (j + 1) = Q * C + R) : Q < 2 ^ 127 := by
  have h1 : N / 2 ^ (j + 1) ≤ N / 2 := by
    rw [Nat.pow_succ, Nat.mul_comm, ← Nat.div_div_eq_div_mul]
    exact Nat.div_le_self _ _
  have h2 : Q * 1 ≤ Q * C := Nat.mul_le_mul_left _ hC
  omega
theorem md_rest {rest v67 v70 w : Int64} {C t : Nat} (hR : uN rest < C) (hC : C ≤ 9223372036854775808) (hw : uN w = t) (ht : t < 2) (e67 : v67 = rest <<< ((1 : Int32).toInt64 &&& 63)) (e70 : v70 = v67 ||| w) : uN v70 = 2 * uN rest + t := by
  rw [e70, e67, uN_or (by omega), hw, Nat.mod_eq_of_lt (by omega)]
theorem md_sum {N C Q R j : Nat} (h : N / 2 ^ (j + 1) = Q * C + R) : N / 2 ^ j = 2 * Q * C + (2 * R + N / 2 ^ j % 2) := by
  have b := fx_bit N j
  have c2 : 2 * Q * C = 2 * (Q * C) := Nat.mul_assoc ..
  rw [c2]
  omega
theorem md_a {N C j : Nat} {k v115 : Int32} {high low rest v70 v81 v86 : Int64} (hk : k = nI j) (hj : j + 1 ≤ 128) (h : N / 2 ^ (j + 1) = (uN high * 18446744073709551616 + uN low) * C + uN rest) (hs : uN v81 * 18446744073709551616 + uN v86 = 2 * (uN high * 18446744073709551616 + uN low)) (f70 : uN v70 = 2 * uN rest + N / 2 ^ j % 2) (hlt : uN v70 < C) (ev : v115 = k + Int32.ofInt (-1)) : md_I N C j (v81, v86, v70, v115) := by
  refine ⟨dn_i hk ev, by omega, hlt, ?_⟩
  show N / 2 ^ j = (uN v81 * 18446744073709551616 + uN v86) * C + uN v70
  rw [hs, f70]
  exact md_sum h
theorem md_b {N C j : Nat} {k v115 : Int32} {high low rest v70 v81 v86 v106 v112 c : Int64} (hk : k = nI j) (hj : j + 1 ≤ 128) (hc : uN c = C) (hR : uN rest < C) (h : N / 2 ^ (j + 1) = (uN high * 18446744073709551616 + uN low) * C + uN rest) (hs : uN v81 * 18446744073709551616 + uN v86 = 2 * (uN high * 18446744073709551616 + uN low)) (f70 : uN v70 = 2 * uN rest + N / 2 ^ j % 2) (hge : ¬ uN v70 < C) (e106 : v106 = v70 - c) (f112 : uN v112 = uN v86 + 1) (ev : v115 = k + Int32.ofInt (-1)) : md_I N C j (v81, v112, v106, v115) := by
  have f106 : uN v106 = uN v70 - C := by rw [e106, fx_usub _ _ (by omega), hc]
  refine ⟨dn_i hk ev, by omega, ?_, ?_⟩
  · show uN v106 < C
    omega
  · show N / 2 ^ j = (uN v81 * 18446744073709551616 + uN v112) * C + uN v106
    have e : uN v81 * 18446744073709551616 + uN v112 = 2 * (uN high * 18446744073709551616 + uN low) + 1 := by omega
    rw [e, Nat.add_mul, Nat.one_mul, md_sum h]
    omega
theorem md_end {N C : Nat} {high low rest : Int64} (hC : 0 < C) (hR : uN rest < C) (h : N / 2 ^ 0 = (uN high * 18446744073709551616 + uN low) * C + uN rest) : uN high * 18446744073709551616 + uN low = N / C ∧ uN rest = N % C := by
  rw [Nat.pow_zero, Nat.div_one] at h
  constructor
  · rw [h, Nat.add_comm _ (uN rest), Nat.add_mul_div_right _ _ hC, Nat.div_eq_of_lt hR, Nat.zero_add]
  · rw [h, Nat.add_comm _ (uN rest), Nat.add_mul_mod_self_right, Nat.mod_eq_of_lt hR]
/-- exact -/
theorem ex_0 (x : Int64) : x = 0 ↔ uN x = 0 := by
  have u0 : uN 0 = 0 := by decide
  constructor
  · intro z
    rw [z, u0]
  · intro z
    exact uN_inj (by rw [z, u0])
theorem ex_s0 {x : Int64} (h : 0 ≤ x) : (0 : Int32) = if x.toInt < 0 then 1 else 0 := be_s0 h
theorem ex_51 {a b v32 v43 v51 : Int32} {A B : Int} (e1 : v32 = if A < 0 then 1 else 0) (e2 : v43 = if B < 0 then 1 else 0) (e3 : v51 = if v32 = v43 then 0 else 1) : v51 = if (A < 0 ↔ B < 0) then 0 else 1 := by
  by_cases h1 : A < 0 <;> by_cases h2 : B < 0 <;> simp [h1, h2] at e1 e2 <;> subst e1 <;> subst e2 <;> simp [e3, h1, h2]
theorem ex_63g {P Q : Prop} [Decidable P] [Decidable Q] {x y : Int32} (e1 : x = if P then 0 else 1) (e2 : y = if Q then 1 else 0) : x = y ↔ ¬ ¬ (¬ P ↔ Q) := by
  by_cases h1 : P <;> by_cases h2 : Q <;> simp [h1, h2] at e1 e2 ⊢ <;> subst e1 <;> subst e2 <;> decide
theorem ex_63 {v51 v63 : Int32} {A B C : Int} (e1 : v51 = if (A < 0 ↔ B < 0) then 0 else 1) (e2 : v63 = if C < 0 then 1 else 0) : v51 = v63 ↔ ¬ sp_neg A B C := by
  exact ex_63g e1 e2
theorem ex_hit {P : Prop} [Decidable P] (h : P) : (1 : Int32) = if P then 1 else 0 := by rw [if_pos h]
theorem ex_miss {P : Prop} [Decidable P] (h : ¬ P) : (0 : Int32) = if P then 1 else 0 := by rw [if_neg h]
/-- the sum of a quotient and of the one that goes down -/
theorem ex_inc0 {lo v120 up : Int64} {M : Nat} (h : uN up * 18446744073709551616 + uN lo = M) (e : v120 = lo + 1) (hz : ¬ v120 = 0) : uN up * 18446744073709551616 + uN v120 = M + 1 := by
  have u1 : uN 1 = 1 := by decide
  have f : uN v120 = (uN lo + 1) % 18446744073709551616 := by rw [e, uN_add, u1]
  have l := uN_lt lo
  have : uN v120 ≠ 0 := fun z => hz ((ex_0 _).mpr z)
  omega
theorem ex_inc1 {lo v120 up v139 : Int64} {M : Nat} (h : uN up * 18446744073709551616 + uN lo = M) (hM : M + 1 < 340282366920938463463374607431768211456) (e : v120 = lo + 1) (hz : v120 = 0) (e2 : v139 = up + 1) : uN v139 * 18446744073709551616 + uN v120 = M + 1 := by
  have u1 : uN 1 = 1 := by decide
  have f : uN v120 = (uN lo + 1) % 18446744073709551616 := by rw [e, uN_add, u1]
  have l := uN_lt lo
  have l2 := uN_lt up
  have g := (ex_0 _).mp hz
  have g2 : uN lo = 18446744073709551615 := by omega
  have g3 : uN up < 18446744073709551615 := by
    rw [g2] at h
    omega
  have f2 : uN v139 = uN up + 1 := by rw [e2, fx_uadd _ _ (by rw [u1]; omega), u1]
  rw [g, f2, ← h, g2, Nat.add_mul]
theorem ex_fin {a b c : Int} {up lo r le : Int64} {v98 v189 : Int32} {Q R M : Nat} {N9 : Prop} [Decidable N9] (hc : c ≠ 0) (hQ : Q = a.natAbs * b.natAbs / c.natAbs) (hR : R = a.natAbs * b.natAbs % c.natAbs) (hN : N9 ↔ sp_neg a b c ∧ ¬ (Q = 0 ∧ R = 0)) (e98 : v98 = if N9 then 1 else 0)
    (hM : uN up * 18446744073709551616 + uN lo = M) (hMv : M = if N9 ∧ ¬ R = 0 then Q + 1 else Q) (e189 : v189 = if up = 0 ∧ (0 ≤ lo ∨ (¬ v98 = 0 ∧ lo = -9223372036854775808)) then 1 else 0) (hle : (¬ v189 = 0 ∧ le = 0) ∨ (v189 = 0 ∧ ¬ le = 0)) (hr : (v98 = 0 ∧ r = lo) ∨ (¬ v98 = 0 ∧ r = -lo)) :
    (le = 0 ∧ sp_rok a b c r.toInt) ∨ (¬ le = 0 ∧ sp_rno a b c) := by
  obtain ⟨k1, k2⟩ := fx_rat a b c hc Q R hQ hR
  have n98 : v98 = 0 ↔ ¬ N9 := by
    by_cases z : N9
    · rw [if_pos z] at e98
      simp [e98, z]
    · rw [if_neg z] at e98
      simp [e98, z]
  have hV : (a * b).fdiv c = if N9 then -(M : Int) else (M : Int) := by
    by_cases z : N9
    · have s := hN.mp z
      rw [if_pos z, k1 s.1, hMv]
      by_cases y : R = 0
      · rw [if_pos y, if_neg (fun w => w.2 y)]
        omega
      · rw [if_neg y, if_pos ⟨z, y⟩]
        omega
    · rw [if_neg z, hMv, if_neg (fun w => z w.1)]
      by_cases y : sp_neg a b c
      · have w : Q = 0 ∧ R = 0 := Classical.byContradiction (fun w => z (hN.mpr ⟨y, w⟩))
        rw [k1 y, w.1, if_pos w.2]
        rfl
      · exact k2 y
  have hlo := uN_lt lo
  have g0 := ex_0 up
  have gp := ra_pos lo
  have gm := ra_min lo
  rcases hle with ⟨h1, h2⟩ | ⟨h1, h2⟩
  · left
    refine ⟨h2, hc, ?_⟩
    have hf : up = 0 ∧ (0 ≤ lo ∨ (¬ v98 = 0 ∧ lo = -9223372036854775808)) := Classical.byContradiction (fun w => h1 (by rw [e189, if_neg w]))
    have hu := g0.mp hf.1
    rw [hV]
    rcases hr with ⟨w1, w2⟩ | ⟨w1, w2⟩
    · have w3 : uN lo < 9223372036854775808 := by
        rcases hf.2 with y | y
        · exact gp.mp y
        · exact absurd w1 y.1
      rw [if_neg (n98.mp w1), w2, ra_toInt lo w3]
      omega
    · have w3 : N9 := Classical.byContradiction (fun y => w1 (n98.mpr y))
      have w4 : uN lo ≤ 9223372036854775808 := by
        rcases hf.2 with y | y
        · have := gp.mp y
          omega
        · have := gm.mp y.2
          omega
      rw [if_pos w3, w2, ra_negI lo w4]
      omega
  · right
    refine ⟨h2, ?_⟩
    have hf : ¬ (up = 0 ∧ (0 ≤ lo ∨ (¬ v98 = 0 ∧ lo = -9223372036854775808))) := fun w => by
      rw [if_pos w, h1] at e189
      exact absurd e189 (by decide)
    unfold sp_rno
    rw [hV]
    by_cases z : N9
    · rw [if_pos z]
      right; left
      have w5 : ¬ v98 = 0 := fun y => n98.mp y z
      have : ¬ (uN up = 0 ∧ uN lo ≤ 9223372036854775808) := fun w => hf ⟨g0.mpr w.1, by
        rcases Nat.lt_or_eq_of_le w.2 with y | y
        · exact Or.inl (gp.mpr y)
        · exact Or.inr ⟨w5, gm.mpr y⟩⟩
      omega
    · rw [if_neg z]
      right; right
      have : ¬ (uN up = 0 ∧ uN lo < 9223372036854775808) := fun w => hf ⟨g0.mpr w.1, Or.inl (gp.mpr w.2)⟩
      omega
theorem ex_QR {a b c : Int64} {v2 v6 v15 up9 lo9 up lo le : Int64} (e2 : uN v2 = a.toInt.natAbs) (e6 : uN v6 = b.toInt.natAbs) (e15 : uN v15 = c.toInt.natAbs) (h9 : uN up9 * 18446744073709551616 + uN lo9 = uN v2 * uN v6) (h1 : uN up * 18446744073709551616 + uN lo = (uN up9 * 18446744073709551616 + uN lo9) / uN v15) (h2 : uN le = (uN up9 * 18446744073709551616 + uN lo9) % uN v15) :
    uN up * 18446744073709551616 + uN lo = a.toInt.natAbs * b.toInt.natAbs / c.toInt.natAbs ∧ uN le = a.toInt.natAbs * b.toInt.natAbs % c.toInt.natAbs := by
  rw [h9, e2, e6, e15] at h1 h2
  exact ⟨h1, h2⟩
theorem ex_zero {up lo le : Int64} {Q R : Nat} (hQ : uN up * 18446744073709551616 + uN lo = Q) (hR : uN le = R) : ((¬ up = 0 ∨ ¬ lo = 0 ∨ ¬ le = 0) ↔ ¬ (Q = 0 ∧ R = 0)) := by
  rw [ex_0 up, ex_0 lo, ex_0 le]
  omega
theorem ex_Qb {a b c : Int64} (hc : c.toInt ≠ 0) : a.toInt.natAbs * b.toInt.natAbs / c.toInt.natAbs + 1 < 340282366920938463463374607431768211456 := by
  have ha := fx_i64 a
  have hb := fx_i64 b
  have h := Nat.mul_le_mul (show a.toInt.natAbs ≤ 9223372036854775808 by omega) (show b.toInt.natAbs ≤ 9223372036854775808 by omega)
  have h2 := Nat.div_le_self (a.toInt.natAbs * b.toInt.natAbs) c.toInt.natAbs
  omega
theorem ex_Mv {v98 : Int32} {N9 : Prop} [Decidable N9] {M Q R : Nat} (e98 : v98 = if N9 then 1 else 0) (h : M = Q + (if v98 = 0 then 0 else if R = 0 then 0 else 1)) : M = if N9 ∧ ¬ R = 0 then Q + 1 else Q := by
  by_cases z : N9
  · rw [if_pos z] at e98
    subst e98
    by_cases y : R = 0 <;> simp [z, y] at h ⊢ <;> exact h
  · rw [if_neg z] at e98
    subst e98
    simp [z] at h ⊢
    exact h
theorem mbw_1 {n d : Int64} (h : d ≤ 0 ∨ n < 0 ∨ ¬ n ≤ d) : (1 : Int32) = if (0 < d.toInt ∧ 0 ≤ n.toInt ∧ n.toInt ≤ d.toInt) then 0 else 1 := by
  rw [if_neg]
  rintro ⟨k1, k2, k3⟩
  rcases h with h | h | h
  · rw [Int64.le_iff_toInt_le, show (0 : Int64).toInt = 0 from by decide] at h
    omega
  · have := be_c2 h
    omega
  · have := be_c3 h
    omega
theorem mbw_0 {n d : Int64} (h1 : ¬ d ≤ 0) (h2 : ¬ n < 0) (h3 : n ≤ d) : (0 : Int32) = if (0 < d.toInt ∧ 0 ≤ n.toInt ∧ n.toInt ≤ d.toInt) then 0 else 1 := by
  rw [Int64.le_iff_toInt_le, show (0 : Int64).toInt = 0 from by decide] at h1
  rw [if_pos ⟨by omega, be_d2 h2, be_d3 h3⟩]
theorem mbw_no {n d : Int} (h : ¬ (0 < d ∧ 0 ≤ n ∧ n ≤ d)) : sp_bno n d := by
  unfold sp_bno
  omega
theorem mbw_fin (a b : Int32) (n d span x y : Int64) (r : Int32) (hsp : span.toInt = b.toInt - a.toInt) (hok : 0 < d.toInt ∧ 0 ≤ n.toInt ∧ n.toInt ≤ d.toInt) {le : Int64} (hx : (le = 0 ∧ sp_rok span.toInt n.toInt d.toInt x.toInt) ∨ (¬ le = 0 ∧ sp_rno span.toInt n.toInt d.toInt)) (ey : y = a.toInt64 + x) (er : r = y.toInt32) : r.toInt = sp_betw a.toInt b.toInt n.toInt d.toInt := by
  have ha := fx_i32 a
  have hb := fx_i32 b
  obtain ⟨q, hqe⟩ : ∃ q, q = span.toInt.natAbs * n.toInt.natAbs / d.toInt.natAbs := ⟨_, rfl⟩
  obtain ⟨rm, hre⟩ : ∃ rm, rm = span.toInt.natAbs * n.toInt.natAbs % d.toInt.natAbs := ⟨_, rfl⟩
  obtain ⟨k1, k2⟩ := fx_rat span.toInt n.toInt d.toInt (by omega) q rm hqe hre
  have hq : q ≤ span.toInt.natAbs := by
    rw [hqe]
    apply Nat.div_le_of_le_mul
    rw [Nat.mul_comm]
    exact Nat.mul_le_mul_right _ (by omega)
  have hv : -4294967297 ≤ (span.toInt * n.toInt).fdiv d.toInt ∧ (span.toInt * n.toInt).fdiv d.toInt ≤ 4294967297 := by
    by_cases z : sp_neg span.toInt n.toInt d.toInt
    · rw [k1 z]
      split <;> omega
    · rw [k2 z]
      omega
  have e : x.toInt = (span.toInt * n.toInt).fdiv d.toInt := by
    rcases hx with h | h
    · exact h.2.2
    · rcases h.2 with z | z | z <;> omega
  have f1 : y.toInt = a.toInt + x.toInt := by rw [ey, Int64.toInt_add, Int32.toInt_toInt64, fx_bm64 (by omega) (by omega)]
  rw [er, Int64.toInt_toInt32, f1, e, hsp]
  rfl
