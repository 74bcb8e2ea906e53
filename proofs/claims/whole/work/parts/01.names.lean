-- ===== PART A: goes FIRST, ahead of the names: the tables' words, and 'selects' of the private methods out of them =====
/-- a private method of a class that the tables say can be made, by its rows of tables_1 -/
def lw_okq (q : MethodName × Nat) : Prop := (q.1.cls ≠ "java/lang/invoke/MethodHandle" ∧ q.1.cls ≠ "java/lang/invoke/VarHandle") ∧ Cond.instantiable q.1.cls q.2 ∈ tables_1 ∧ Cond.privateMethod q.1 ∈ tables_1 ∧ Cond.instanceMethod q.1 ∈ tables_1
theorem lw_p0 : lw_okq (⟨"java/lang/Throwable", "fillInStackTrace", "(I)Ljava/lang/Throwable;"⟩, 6) := ⟨⟨by decide +kernel, by decide +kernel⟩, List.mem_of_getElem? (i := 131) (by decide +kernel), List.mem_of_getElem? (i := 129) (by decide +kernel), List.mem_of_getElem? (i := 130) (by decide +kernel)⟩
theorem lw_p1 : lw_okq (⟨"FixedNumbersModel", "exact", "(JJJ)J"⟩, 4) := ⟨⟨by decide +kernel, by decide +kernel⟩, List.mem_of_getElem? (i := 226) (by decide +kernel), List.mem_of_getElem? (i := 280) (by decide +kernel), List.mem_of_getElem? (i := 281) (by decide +kernel)⟩
theorem lw_p2 : lw_okq (⟨"FixedNumbersModel", "multiply", "(JJ)V"⟩, 4) := ⟨⟨by decide +kernel, by decide +kernel⟩, List.mem_of_getElem? (i := 226) (by decide +kernel), List.mem_of_getElem? (i := 284) (by decide +kernel), List.mem_of_getElem? (i := 285) (by decide +kernel)⟩
theorem lw_p3 : lw_okq (⟨"FixedNumbersModel", "divide", "(J)V"⟩, 4) := ⟨⟨by decide +kernel, by decide +kernel⟩, List.mem_of_getElem? (i := 226) (by decide +kernel), List.mem_of_getElem? (i := 292) (by decide +kernel), List.mem_of_getElem? (i := 293) (by decide +kernel)⟩
def lw_privs_1 : List (MethodName × Nat) := [(⟨"java/lang/Throwable", "fillInStackTrace", "(I)Ljava/lang/Throwable;"⟩, 6), (⟨"FixedNumbersModel", "exact", "(JJJ)J"⟩, 4), (⟨"FixedNumbersModel", "multiply", "(JJ)V"⟩, 4), (⟨"FixedNumbersModel", "divide", "(J)V"⟩, 4)]
theorem lw_r1 : ∀ q ∈ lw_privs_1, lw_okq q := List.forall_mem_cons.mpr ⟨lw_p0, List.forall_mem_cons.mpr ⟨lw_p1, List.forall_mem_cons.mpr ⟨lw_p2, List.forall_mem_cons.mpr ⟨lw_p3, fun _ h => absurd h List.not_mem_nil⟩⟩⟩⟩
def lw_privs : List (MethodName × Nat) := lw_privs_1
def lw_tbl : List Cond := k2_sels lw_privs ++ tables_1
theorem lw_privs_ok : ∀ q ∈ lw_privs, lw_okq q := lw_r1
-- ===== end of PART A =====
/-- the words that stay true under warmer tables -/
def WS : List Cond := lw_tbl.filter goodWord
theorem tm {w : Cond} (h : w ∈ lw_tbl) (g : goodWord w = true) : w ∈ WS := List.mem_filter.mpr ⟨h, g⟩
theorem ws_good {w0 w1 : Cond} {ex : List Cond} (h1 : ex.all (fun w => decide (w ∈ lw_tbl) && goodWord w) = true) (h2 : w1 ∈ lw_tbl) (h3 : goodWord w1 = true) : GoodIn (w0 :: WS) (ex ++ (w1 :: WS)) := by
  intro w hw
  rcases List.mem_append.mp hw with h | h
  · have h4 := List.all_eq_true.mp h1 w h
    rw [Bool.and_eq_true] at h4
    exact ⟨List.mem_cons_of_mem _ (tm (of_decide_eq_true h4.1) h4.2), good_of_word h4.2⟩
  · rcases List.mem_cons.mp h with h | h
    · rw [h]
      exact ⟨List.mem_cons_of_mem _ (tm h2 h3), good_of_word h3⟩
    · exact ⟨List.mem_cons_of_mem _ h, good_of_word (List.mem_filter.mp h).2⟩
theorem ws_goodL {w1 : Cond} {ex : List Cond} (h1 : ex.all (fun w => decide (w ∈ lw_tbl) && goodWord w) = true) (h2 : w1 ∈ lw_tbl) (h3 : goodWord w1 = true) : GoodIn lw_tbl (ex ++ (w1 :: WS)) := by
  intro w hw
  rcases List.mem_append.mp hw with h | h
  · have h4 := List.all_eq_true.mp h1 w h
    rw [Bool.and_eq_true] at h4
    exact ⟨of_decide_eq_true h4.1, good_of_word h4.2⟩
  · rcases List.mem_cons.mp h with h | h
    · rw [h]
      exact ⟨h2, good_of_word h3⟩
    · exact ⟨(List.mem_filter.mp h).1, good_of_word (List.mem_filter.mp h).2⟩
def R_F : String := "FixedNumbers"
def R_M : String := "FixedNumbersModel"
def R_L : String := "FixedNumbersLaw"
def R_J : String := "java/lang/Math"
abbrev b_F_init : ByteArray := prog_1_method_1_code
def y_F_init : MethodName := ⟨R_F, "<init>", "()V"⟩
def w_F_init : List Cond := .code y_F_init b_F_init 1 none :: WS
theorem ic_F_init : Cond.code y_F_init b_F_init 1 none ∈ lw_tbl := List.mem_of_getElem? (i := 17) rfl
abbrev b_F_product : ByteArray := prog_1_method_2_code
def y_F_product : MethodName := ⟨R_F, "product", "(II)I"⟩
def w_F_product : List Cond := .code y_F_product b_F_product 3 (some .int) :: WS
theorem ic_F_product : Cond.code y_F_product b_F_product 3 (some .int) ∈ lw_tbl := List.mem_of_getElem? (i := 25) rfl
abbrev b_F_quotient : ByteArray := prog_1_method_3_code
def y_F_quotient : MethodName := ⟨R_F, "quotient", "(II)I"⟩
def w_F_quotient : List Cond := .code y_F_quotient b_F_quotient 3 (some .int) :: WS
theorem ic_F_quotient : Cond.code y_F_quotient b_F_quotient 3 (some .int) ∈ lw_tbl := List.mem_of_getElem? (i := 29) rfl
abbrev b_J_floorDiv : ByteArray := prog_7_method_49_code
def y_J_floorDiv : MethodName := ⟨R_J, "floorDiv", "(JJ)J"⟩
def w_J_floorDiv : List Cond := .code y_J_floorDiv b_J_floorDiv 6 (some .long) :: WS
theorem ic_J_floorDiv : Cond.code y_J_floorDiv b_J_floorDiv 6 (some .long) ∈ lw_tbl := List.mem_of_getElem? (i := 35) rfl
abbrev b_F_cut : ByteArray := prog_1_method_13_code
def y_F_cut : MethodName := ⟨R_F, "cut", "(J)I"⟩
def w_F_cut : List Cond := .code y_F_cut b_F_cut 2 (some .int) :: WS
theorem ic_F_cut : Cond.code y_F_cut b_F_cut 2 (some .int) ∈ lw_tbl := List.mem_of_getElem? (i := 38) rfl
abbrev b_J_minL : ByteArray := prog_7_method_70_code
def y_J_minL : MethodName := ⟨R_J, "min", "(JJ)J"⟩
def w_J_minL : List Cond := .code y_J_minL b_J_minL 4 (some .long) :: WS
theorem ic_J_minL : Cond.code y_J_minL b_J_minL 4 (some .long) ∈ lw_tbl := List.mem_of_getElem? (i := 43) rfl
abbrev b_J_maxL : ByteArray := prog_7_method_66_code
def y_J_maxL : MethodName := ⟨R_J, "max", "(JJ)J"⟩
def w_J_maxL : List Cond := .code y_J_maxL b_J_maxL 4 (some .long) :: WS
theorem ic_J_maxL : Cond.code y_J_maxL b_J_maxL 4 (some .long) ∈ lw_tbl := List.mem_of_getElem? (i := 46) rfl
abbrev b_F_root : ByteArray := prog_1_method_4_code
def y_F_root : MethodName := ⟨R_F, "root", "(I)I"⟩
def w_F_root : List Cond := .code y_F_root b_F_root 2 (some .int) :: WS
theorem ic_F_root : Cond.code y_F_root b_F_root 2 (some .int) ∈ lw_tbl := List.mem_of_getElem? (i := 50) rfl
abbrev b_F_wholeRoot : ByteArray := prog_1_method_14_code
def y_F_wholeRoot : MethodName := ⟨R_F, "wholeRoot", "(J)I"⟩
def w_F_wholeRoot : List Cond := .code y_F_wholeRoot b_F_wholeRoot 7 (some .int) :: WS
theorem ic_F_wholeRoot : Cond.code y_F_wholeRoot b_F_wholeRoot 7 (some .int) ∈ lw_tbl := List.mem_of_getElem? (i := 53) rfl
abbrev b_F_oneByRoot : ByteArray := prog_1_method_5_code
def y_F_oneByRoot : MethodName := ⟨R_F, "oneByRoot", "(I)I"⟩
def w_F_oneByRoot : List Cond := .code y_F_oneByRoot b_F_oneByRoot 2 (some .int) :: WS
theorem ic_F_oneByRoot : Cond.code y_F_oneByRoot b_F_oneByRoot 2 (some .int) ∈ lw_tbl := List.mem_of_getElem? (i := 57) rfl
abbrev b_F_channel : ByteArray := prog_1_method_8_code
def y_F_channel : MethodName := ⟨R_F, "channel", "(I)I"⟩
def w_F_channel : List Cond := .code y_F_channel b_F_channel 3 (some .int) :: WS
theorem ic_F_channel : Cond.code y_F_channel b_F_channel 3 (some .int) ∈ lw_tbl := List.mem_of_getElem? (i := 62) rfl
abbrev b_J_minI : ByteArray := prog_7_method_69_code
def y_J_minI : MethodName := ⟨R_J, "min", "(II)I"⟩
def w_J_minI : List Cond := .code y_J_minI b_J_minI 2 (some .int) :: WS
theorem ic_J_minI : Cond.code y_J_minI b_J_minI 2 (some .int) ∈ lw_tbl := List.mem_of_getElem? (i := 66) rfl
abbrev b_J_maxI : ByteArray := prog_7_method_65_code
def y_J_maxI : MethodName := ⟨R_J, "max", "(II)I"⟩
def w_J_maxI : List Cond := .code y_J_maxI b_J_maxI 2 (some .int) :: WS
theorem ic_J_maxI : Cond.code y_J_maxI b_J_maxI 2 (some .int) ∈ lw_tbl := List.mem_of_getElem? (i := 69) rfl
abbrev b_F_fromHalf : ByteArray := prog_1_method_11_code
def y_F_fromHalf : MethodName := ⟨R_F, "fromHalf", "(I)I"⟩
def w_F_fromHalf : List Cond := .code y_F_fromHalf b_F_fromHalf 10 (some .int) :: WS
theorem ic_F_fromHalf : Cond.code y_F_fromHalf b_F_fromHalf 10 (some .int) ∈ lw_tbl := List.mem_of_getElem? (i := 74) rfl
abbrev b_F_toHalf : ByteArray := prog_1_method_12_code
def y_F_toHalf : MethodName := ⟨R_F, "toHalf", "(I)I"⟩
def w_F_toHalf : List Cond := .code y_F_toHalf b_F_toHalf 8 (some .int) :: WS
theorem ic_F_toHalf : Cond.code y_F_toHalf b_F_toHalf 8 (some .int) ∈ lw_tbl := List.mem_of_getElem? (i := 78) rfl
abbrev b_F_magnitude : ByteArray := prog_1_method_15_code
def y_F_magnitude : MethodName := ⟨R_F, "magnitude", "(J)J"⟩
def w_F_magnitude : List Cond := .code y_F_magnitude b_F_magnitude 2 (some .long) :: WS
theorem ic_F_magnitude : Cond.code y_F_magnitude b_F_magnitude 2 (some .long) ∈ lw_tbl := List.mem_of_getElem? (i := 81) rfl
abbrev b_F_highestBit : ByteArray := prog_1_method_23_code
def y_F_highestBit : MethodName := ⟨R_F, "highestBit", "(J)I"⟩
def w_F_highestBit : List Cond := .code y_F_highestBit b_F_highestBit 3 (some .int) :: WS
theorem ic_F_highestBit : Cond.code y_F_highestBit b_F_highestBit 3 (some .int) ∈ lw_tbl := List.mem_of_getElem? (i := 85) rfl
abbrev b_F_nearestEven : ByteArray := prog_1_method_24_code
def y_F_nearestEven : MethodName := ⟨R_F, "nearestEven", "(JI)I"⟩
def w_F_nearestEven : List Cond := .code y_F_nearestEven b_F_nearestEven 10 (some .int) :: WS
theorem ic_F_nearestEven : Cond.code y_F_nearestEven b_F_nearestEven 10 (some .int) ∈ lw_tbl := List.mem_of_getElem? (i := 88) rfl
abbrev b_L_ratio : ByteArray := method_3_code
def y_L_ratio : MethodName := ⟨R_L, "ratio", "(LFixedNumbers;JJJ[J)I"⟩
def w_L_ratio : List Cond := .codeWith y_L_ratio b_L_ratio 9 (some .int) [(0, 12, 15, 13)] :: WS
theorem ic_L_ratio : Cond.codeWith y_L_ratio b_L_ratio 9 (some .int) [(0, 12, 15, 13)] ∈ lw_tbl := List.mem_of_getElem? (i := 91) rfl
abbrev b_F_ratio : ByteArray := prog_1_method_6_code
def y_F_ratio : MethodName := ⟨R_F, "ratio", "(JJJ)J"⟩
def w_F_ratio : List Cond := .code y_F_ratio b_F_ratio 21 (some .long) :: WS
theorem ic_F_ratio : Cond.code y_F_ratio b_F_ratio 21 (some .long) ∈ lw_tbl := List.mem_of_getElem? (i := 96) rfl
abbrev b_F_highProduct : ByteArray := prog_1_method_17_code
def y_F_highProduct : MethodName := ⟨R_F, "highProduct", "(JJ)J"⟩
def w_F_highProduct : List Cond := .code y_F_highProduct b_F_highProduct 16 (some .long) :: WS
theorem ic_F_highProduct : Cond.code y_F_highProduct b_F_highProduct 16 (some .long) ∈ lw_tbl := List.mem_of_getElem? (i := 166) rfl
abbrev b_F_isBelow : ByteArray := prog_1_method_16_code
def y_F_isBelow : MethodName := ⟨R_F, "isBelow", "(JJ)Z"⟩
def w_F_isBelow : List Cond := .code y_F_isBelow b_F_isBelow 4 (some .boolean) :: WS
theorem ic_F_isBelow : Cond.code y_F_isBelow b_F_isBelow 4 (some .boolean) ∈ lw_tbl := List.mem_of_getElem? (i := 170) rfl
abbrev b_F_wholeQuotient : ByteArray := prog_1_method_18_code
def y_F_wholeQuotient : MethodName := ⟨R_F, "wholeQuotient", "(JJJ)J"⟩
def w_F_wholeQuotient : List Cond := .code y_F_wholeQuotient b_F_wholeQuotient 11 (some .long) :: WS
theorem ic_F_wholeQuotient : Cond.code y_F_wholeQuotient b_F_wholeQuotient 11 (some .long) ∈ lw_tbl := List.mem_of_getElem? (i := 175) rfl
abbrev b_F_fitsLong : ByteArray := prog_1_method_19_code
def y_F_fitsLong : MethodName := ⟨R_F, "fitsLong", "(JZZ)Z"⟩
def w_F_fitsLong : List Cond := .code y_F_fitsLong b_F_fitsLong 4 (some .boolean) :: WS
theorem ic_F_fitsLong : Cond.code y_F_fitsLong b_F_fitsLong 4 (some .boolean) ∈ lw_tbl := List.mem_of_getElem? (i := 178) rfl
abbrev b_F_signedDown : ByteArray := prog_1_method_20_code
def y_F_signedDown : MethodName := ⟨R_F, "signedDown", "(JZZ)J"⟩
def w_F_signedDown : List Cond := .code y_F_signedDown b_F_signedDown 4 (some .long) :: WS
theorem ic_F_signedDown : Cond.code y_F_signedDown b_F_signedDown 4 (some .long) ∈ lw_tbl := List.mem_of_getElem? (i := 181) rfl
abbrev b_L_between : ByteArray := method_4_code
def y_L_between : MethodName := ⟨R_L, "between", "(LFixedNumbers;IIJJ[J)I"⟩
def w_L_between : List Cond := .codeWith y_L_between b_L_between 9 (some .int) [(0, 14, 17, 19)] :: WS
theorem ic_L_between : Cond.codeWith y_L_between b_L_between 9 (some .int) [(0, 14, 17, 19)] ∈ lw_tbl := List.mem_of_getElem? (i := 184) rfl
abbrev b_F_between : ByteArray := prog_1_method_7_code
def y_F_between : MethodName := ⟨R_F, "between", "(IIJJ)I"⟩
def w_F_between : List Cond := .code y_F_between b_F_between 15 (some .int) :: WS
theorem ic_F_between : Cond.code y_F_between b_F_between 15 (some .int) ∈ lw_tbl := List.mem_of_getElem? (i := 189) rfl
abbrev b_L_fixed : ByteArray := method_5_code
def y_L_fixed : MethodName := ⟨R_L, "fixed", "(LFixedNumbers;I[J)I"⟩
def w_L_fixed : List Cond := .codeWith y_L_fixed b_L_fixed 4 (some .int) [(0, 9, 12, 19)] :: WS
theorem ic_L_fixed : Cond.codeWith y_L_fixed b_L_fixed 4 (some .int) [(0, 9, 12, 19)] ∈ lw_tbl := List.mem_of_getElem? (i := 209) rfl
abbrev b_F_fixed : ByteArray := prog_1_method_9_code
def y_F_fixed : MethodName := ⟨R_F, "fixed", "(I)I"⟩
def w_F_fixed : List Cond := .code y_F_fixed b_F_fixed 2 (some .int) :: WS
theorem ic_F_fixed : Cond.code y_F_fixed b_F_fixed 2 (some .int) ∈ lw_tbl := List.mem_of_getElem? (i := 213) rfl
abbrev b_F_isByte : ByteArray := prog_1_method_21_code
def y_F_isByte : MethodName := ⟨R_F, "isByte", "(I)Z"⟩
def w_F_isByte : List Cond := .code y_F_isByte b_F_isByte 1 (some .boolean) :: WS
theorem ic_F_isByte : Cond.code y_F_isByte b_F_isByte 1 (some .boolean) ∈ lw_tbl := List.mem_of_getElem? (i := 216) rfl
abbrev b_F_nearest255th : ByteArray := prog_1_method_22_code
def y_F_nearest255th : MethodName := ⟨R_F, "nearest255th", "(I)I"⟩
def w_F_nearest255th : List Cond := .code y_F_nearest255th b_F_nearest255th 1 (some .int) :: WS
theorem ic_F_nearest255th : Cond.code y_F_nearest255th b_F_nearest255th 1 (some .int) ∈ lw_tbl := List.mem_of_getElem? (i := 220) rfl
abbrev b_L_shade : ByteArray := method_6_code
def y_L_shade : MethodName := ⟨R_L, "shade", "(LFixedNumbers;II[J)I"⟩
def w_L_shade : List Cond := .codeWith y_L_shade b_L_shade 5 (some .int) [(0, 10, 13, 19)] :: WS
theorem ic_L_shade : Cond.codeWith y_L_shade b_L_shade 5 (some .int) [(0, 10, 13, 19)] ∈ lw_tbl := List.mem_of_getElem? (i := 223) rfl
abbrev b_F_shade : ByteArray := prog_1_method_10_code
def y_F_shade : MethodName := ⟨R_F, "shade", "(II)I"⟩
def w_F_shade : List Cond := .code y_F_shade b_F_shade 3 (some .int) :: WS
theorem ic_F_shade : Cond.code y_F_shade b_F_shade 3 (some .int) ∈ lw_tbl := List.mem_of_getElem? (i := 227) rfl
abbrev b_M_init : ByteArray := prog_3_method_1_code
def y_M_init : MethodName := ⟨R_M, "<init>", "()V"⟩
def w_M_init : List Cond := .code y_M_init b_M_init 1 none :: WS
theorem ic_M_init : Cond.code y_M_init b_M_init 1 none ∈ lw_tbl := List.mem_of_getElem? (i := 233) rfl
abbrev b_M_thrown : ByteArray := prog_3_method_2_code
def y_M_thrown : MethodName := ⟨R_M, "thrown", "()I"⟩
def w_M_thrown : List Cond := .code y_M_thrown b_M_thrown 1 (some .int) :: WS
theorem ic_M_thrown : Cond.code y_M_thrown b_M_thrown 1 (some .int) ∈ lw_tbl := List.mem_of_getElem? (i := 251) rfl
abbrev b_M_product : ByteArray := prog_3_method_3_code
def y_M_product : MethodName := ⟨R_M, "product", "(II)I"⟩
def w_M_product : List Cond := .code y_M_product b_M_product 7 (some .int) :: WS
theorem ic_M_product : Cond.code y_M_product b_M_product 7 (some .int) ∈ lw_tbl := List.mem_of_getElem? (i := 255) rfl
abbrev b_M_quotient : ByteArray := prog_3_method_9_code
def y_M_quotient : MethodName := ⟨R_M, "quotient", "(II)I"⟩
def w_M_quotient : List Cond := .code y_M_quotient b_M_quotient 12 (some .int) :: WS
theorem ic_M_quotient : Cond.code y_M_quotient b_M_quotient 12 (some .int) ∈ lw_tbl := List.mem_of_getElem? (i := 260) rfl
abbrev b_M_size : ByteArray := prog_3_method_5_code
def y_M_size : MethodName := ⟨R_M, "size", "(J)J"⟩
def w_M_size : List Cond := .code y_M_size b_M_size 2 (some .long) :: WS
theorem ic_M_size : Cond.code y_M_size b_M_size 2 (some .long) ∈ lw_tbl := List.mem_of_getElem? (i := 265) rfl
abbrev b_M_root : ByteArray := prog_3_method_10_code
def y_M_root : MethodName := ⟨R_M, "root", "(I)I"⟩
def w_M_root : List Cond := .code y_M_root b_M_root 8 (some .int) :: WS
theorem ic_M_root : Cond.code y_M_root b_M_root 8 (some .int) ∈ lw_tbl := List.mem_of_getElem? (i := 271) rfl
abbrev b_M_oneByRoot : ByteArray := prog_3_method_11_code
def y_M_oneByRoot : MethodName := ⟨R_M, "oneByRoot", "(I)I"⟩
def w_M_oneByRoot : List Cond := .code y_M_oneByRoot b_M_oneByRoot 8 (some .int) :: WS
theorem ic_M_oneByRoot : Cond.code y_M_oneByRoot b_M_oneByRoot 8 (some .int) ∈ lw_tbl := List.mem_of_getElem? (i := 277) rfl
abbrev b_M_ratio : ByteArray := prog_3_method_12_code
def y_M_ratio : MethodName := ⟨R_M, "ratio", "(JJJ)J"⟩
def w_M_ratio : List Cond := .code y_M_ratio b_M_ratio 9 (some .long) :: WS
theorem ic_M_ratio : Cond.code y_M_ratio b_M_ratio 9 (some .long) ∈ lw_tbl := List.mem_of_getElem? (i := 282) rfl
abbrev b_M_exact : ByteArray := prog_3_method_8_code
def y_M_exact : MethodName := ⟨R_M, "exact", "(JJJ)J"⟩
def w_M_exact : List Cond := .code y_M_exact b_M_exact 9 (some .long) :: WS
theorem ic_M_exact : Cond.code y_M_exact b_M_exact 9 (some .long) ∈ lw_tbl := List.mem_of_getElem? (i := 286) rfl
abbrev b_M_multiply : ByteArray := prog_3_method_6_code
def y_M_multiply : MethodName := ⟨R_M, "multiply", "(JJ)V"⟩
def w_M_multiply : List Cond := .code y_M_multiply b_M_multiply 8 none :: WS
theorem ic_M_multiply : Cond.code y_M_multiply b_M_multiply 8 none ∈ lw_tbl := List.mem_of_getElem? (i := 290) rfl
abbrev b_M_below : ByteArray := prog_3_method_4_code
def y_M_below : MethodName := ⟨R_M, "below", "(JJ)Z"⟩
def w_M_below : List Cond := .code y_M_below b_M_below 4 (some .boolean) :: WS
theorem ic_M_below : Cond.code y_M_below b_M_below 4 (some .boolean) ∈ lw_tbl := List.mem_of_getElem? (i := 293) rfl
abbrev b_M_divide : ByteArray := prog_3_method_7_code
def y_M_divide : MethodName := ⟨R_M, "divide", "(J)V"⟩
def w_M_divide : List Cond := .code y_M_divide b_M_divide 13 none :: WS
theorem ic_M_divide : Cond.code y_M_divide b_M_divide 13 none ∈ lw_tbl := List.mem_of_getElem? (i := 298) rfl
abbrev b_M_between : ByteArray := prog_3_method_13_code
def y_M_between : MethodName := ⟨R_M, "between", "(IIJJ)I"⟩
def w_M_between : List Cond := .code y_M_between b_M_between 7 (some .int) :: WS
theorem ic_M_between : Cond.code y_M_between b_M_between 7 (some .int) ∈ lw_tbl := List.mem_of_getElem? (i := 302) rfl
abbrev b_M_channel : ByteArray := prog_3_method_15_code
def y_M_channel : MethodName := ⟨R_M, "channel", "(I)I"⟩
def w_M_channel : List Cond := .code y_M_channel b_M_channel 2 (some .int) :: WS
theorem ic_M_channel : Cond.code y_M_channel b_M_channel 2 (some .int) ∈ lw_tbl := List.mem_of_getElem? (i := 306) rfl
abbrev b_M_nearest : ByteArray := prog_3_method_14_code
def y_M_nearest : MethodName := ⟨R_M, "nearest", "(II)I"⟩
def w_M_nearest : List Cond := .code y_M_nearest b_M_nearest 3 (some .int) :: WS
theorem ic_M_nearest : Cond.code y_M_nearest b_M_nearest 3 (some .int) ∈ lw_tbl := List.mem_of_getElem? (i := 310) rfl
abbrev b_M_fixed : ByteArray := prog_3_method_16_code
def y_M_fixed : MethodName := ⟨R_M, "fixed", "(I)I"⟩
def w_M_fixed : List Cond := .code y_M_fixed b_M_fixed 2 (some .int) :: WS
theorem ic_M_fixed : Cond.code y_M_fixed b_M_fixed 2 (some .int) ∈ lw_tbl := List.mem_of_getElem? (i := 314) rfl
abbrev b_M_shade : ByteArray := prog_3_method_17_code
def y_M_shade : MethodName := ⟨R_M, "shade", "(II)I"⟩
def w_M_shade : List Cond := .code y_M_shade b_M_shade 3 (some .int) :: WS
theorem ic_M_shade : Cond.code y_M_shade b_M_shade 3 (some .int) ∈ lw_tbl := List.mem_of_getElem? (i := 318) rfl
abbrev b_M_fromHalf : ByteArray := prog_3_method_19_code
def y_M_fromHalf : MethodName := ⟨R_M, "fromHalf", "(I)I"⟩
def w_M_fromHalf : List Cond := .code y_M_fromHalf b_M_fromHalf 7 (some .int) :: WS
theorem ic_M_fromHalf : Cond.code y_M_fromHalf b_M_fromHalf 7 (some .int) ∈ lw_tbl := List.mem_of_getElem? (i := 322) rfl
abbrev b_M_scaled : ByteArray := prog_3_method_18_code
def y_M_scaled : MethodName := ⟨R_M, "scaled", "(I)J"⟩
def w_M_scaled : List Cond := .code y_M_scaled b_M_scaled 4 (some .long) :: WS
theorem ic_M_scaled : Cond.code y_M_scaled b_M_scaled 4 (some .long) ∈ lw_tbl := List.mem_of_getElem? (i := 325) rfl
abbrev b_M_toHalf : ByteArray := prog_3_method_20_code
def y_M_toHalf : MethodName := ⟨R_M, "toHalf", "(I)I"⟩
def w_M_toHalf : List Cond := .code y_M_toHalf b_M_toHalf 11 (some .int) :: WS
theorem ic_M_toHalf : Cond.code y_M_toHalf b_M_toHalf 11 (some .int) ∈ lw_tbl := List.mem_of_getElem? (i := 330) rfl
