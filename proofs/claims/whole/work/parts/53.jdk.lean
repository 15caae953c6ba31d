set_option maxRecDepth 4000 in
theorem j_coder0 (n : Nat) (iv : zI) (lw : zG) : zMi yJ0_coder_7d493 cJ0_coder_7d493 1 (some .byte) 0 [.ref 1000] n iv lw 0 iv lw := by
  refine zM.of (by decide) (Nat.le_of_ble_eq_true rfl) (fun X C E => ?_)
  change zJs X n 1 0 [some (.ref 1000)] [] iv lw
  refine z_gets_COMPACT_STRINGS C dJ0_coder_7d493_0 zfj_J0_38 ?_
  refine z_if_eq (tgt := 13) C dJ0_coder_7d493_3 (by decide) (fun q3 => ?_) (fun q3 => ?_)
  · exact absurd q3 (by decide)
  · refine z_aload_n C dJ0_coder_7d493_6 rfl ?_
    refine z_getSc 0 (by decide) C dJ0_coder_7d493_7 ?_
    refine z_goto (tgt := 14) C dJ0_coder_7d493_10 (by decide) ?_
    refine zs_iret C E dJ0_coder_7d493_14 rfl ?_ ?_ ?_
    · rfl
    · rfl
    · rfl

set_option maxRecDepth 4000 in
theorem j_isLatin10 (n : Nat) (iv : zI) (lw : zG) : zMi yJ0_isLatin1_aae02 cJ0_isLatin1_aae02 1 (some .boolean) 0 [.ref 1000] n iv lw 1 iv lw := by
  refine zM.of (by decide) (Nat.le_of_ble_eq_true rfl) (fun X C E => ?_)
  change zJs X n 1 0 [some (.ref 1000)] [] iv lw
  refine z_gets_COMPACT_STRINGS C dJ0_isLatin1_aae02_0 zfj_J0_38 ?_
  refine z_if_eq (tgt := 17) C dJ0_isLatin1_aae02_3 (by decide) (fun q3 => ?_) (fun q3 => ?_)
  · exact absurd q3 (by decide)
  · refine z_aload_n C dJ0_isLatin1_aae02_6 rfl ?_
    refine z_getSc 0 (by decide) C dJ0_isLatin1_aae02_7 ?_
    refine z_if_ne (tgt := 17) C dJ0_isLatin1_aae02_10 (by decide) (fun q10 => ?_) (fun q10 => ?_)
    · exact absurd q10 (by decide)
    · refine z_iconst (v := 1) C dJ0_isLatin1_aae02_13 (by decide) ?_
      refine z_goto (tgt := 18) C dJ0_isLatin1_aae02_14 (by decide) ?_
      refine zs_iret C E dJ0_isLatin1_aae02_18 rfl ?_ ?_ ?_
      · rfl
      · rfl
      · rfl

set_option maxRecDepth 4000 in
theorem j_length0 (n : Nat) (iv : zI) (lw : zG) : zMi yJ0_length_8abf5 cJ0_length_8abf5 1 (some .int) 1 [.ref 1000] n iv lw 88 iv lw := by
  refine zM.of (by decide) (Nat.le_of_ble_eq_true rfl) (fun X C E => ?_)
  change zJs X n 1 0 [some (.ref 1000)] [] iv lw
  refine z_aload_n C dJ0_length_8abf5_0 rfl ?_
  refine z_getSv 0 (by decide) C dJ0_length_8abf5_1 ?_
  refine z_alenS 0 (by decide) C dJ0_length_8abf5_4 ?_
  refine z_eqi (show nI (zsl 0) = 88 by decide) ?_
  refine z_aload_n C dJ0_length_8abf5_5 rfl ?_
  refine zs_callTi 0 (by decide) C dJ0_length_8abf5_6 zm_J0_335 zyJ0_coder_7d493 (j_coder0 n iv _) rfl (by decide) rfl rfl (Nat.le_of_ble_eq_true rfl) (by decide) (by decide) ?_
  refine z_ishr C dJ0_length_8abf5_9 ?_
  refine zs_iret C E dJ0_length_8abf5_10 rfl ?_ ?_ ?_
  · decide
  · rfl
  · rfl

set_option maxRecDepth 4000 in
theorem j_coder1 (n : Nat) (iv : zI) (lw : zG) : zMi yJ0_coder_7d493 cJ0_coder_7d493 1 (some .byte) 0 [.ref 1001] n iv lw 0 iv lw := by
  refine zM.of (by decide) (Nat.le_of_ble_eq_true rfl) (fun X C E => ?_)
  change zJs X n 1 0 [some (.ref 1001)] [] iv lw
  refine z_gets_COMPACT_STRINGS C dJ0_coder_7d493_0 zfj_J0_38 ?_
  refine z_if_eq (tgt := 13) C dJ0_coder_7d493_3 (by decide) (fun q3 => ?_) (fun q3 => ?_)
  · exact absurd q3 (by decide)
  · refine z_aload_n C dJ0_coder_7d493_6 rfl ?_
    refine z_getSc 1 (by decide) C dJ0_coder_7d493_7 ?_
    refine z_goto (tgt := 14) C dJ0_coder_7d493_10 (by decide) ?_
    refine zs_iret C E dJ0_coder_7d493_14 rfl ?_ ?_ ?_
    · rfl
    · rfl
    · rfl

set_option maxRecDepth 4000 in
theorem j_isLatin11 (n : Nat) (iv : zI) (lw : zG) : zMi yJ0_isLatin1_aae02 cJ0_isLatin1_aae02 1 (some .boolean) 0 [.ref 1001] n iv lw 1 iv lw := by
  refine zM.of (by decide) (Nat.le_of_ble_eq_true rfl) (fun X C E => ?_)
  change zJs X n 1 0 [some (.ref 1001)] [] iv lw
  refine z_gets_COMPACT_STRINGS C dJ0_isLatin1_aae02_0 zfj_J0_38 ?_
  refine z_if_eq (tgt := 17) C dJ0_isLatin1_aae02_3 (by decide) (fun q3 => ?_) (fun q3 => ?_)
  · exact absurd q3 (by decide)
  · refine z_aload_n C dJ0_isLatin1_aae02_6 rfl ?_
    refine z_getSc 1 (by decide) C dJ0_isLatin1_aae02_7 ?_
    refine z_if_ne (tgt := 17) C dJ0_isLatin1_aae02_10 (by decide) (fun q10 => ?_) (fun q10 => ?_)
    · exact absurd q10 (by decide)
    · refine z_iconst (v := 1) C dJ0_isLatin1_aae02_13 (by decide) ?_
      refine z_goto (tgt := 18) C dJ0_isLatin1_aae02_14 (by decide) ?_
      refine zs_iret C E dJ0_isLatin1_aae02_18 rfl ?_ ?_ ?_
      · rfl
      · rfl
      · rfl

set_option maxRecDepth 4000 in
theorem j_length1 (n : Nat) (iv : zI) (lw : zG) : zMi yJ0_length_8abf5 cJ0_length_8abf5 1 (some .int) 1 [.ref 1001] n iv lw 8 iv lw := by
  refine zM.of (by decide) (Nat.le_of_ble_eq_true rfl) (fun X C E => ?_)
  change zJs X n 1 0 [some (.ref 1001)] [] iv lw
  refine z_aload_n C dJ0_length_8abf5_0 rfl ?_
  refine z_getSv 1 (by decide) C dJ0_length_8abf5_1 ?_
  refine z_alenS 1 (by decide) C dJ0_length_8abf5_4 ?_
  refine z_eqi (show nI (zsl 1) = 8 by decide) ?_
  refine z_aload_n C dJ0_length_8abf5_5 rfl ?_
  refine zs_callTi 1 (by decide) C dJ0_length_8abf5_6 zm_J0_335 zyJ0_coder_7d493 (j_coder1 n iv _) rfl (by decide) rfl rfl (Nat.le_of_ble_eq_true rfl) (by decide) (by decide) ?_
  refine z_ishr C dJ0_length_8abf5_9 ?_
  refine zs_iret C E dJ0_length_8abf5_10 rfl ?_ ?_ ?_
  · decide
  · rfl
  · rfl

set_option maxRecDepth 4000 in
theorem j_ck3N (n : Nat) (iv : zI) (lw : zG) (x y : Int32) (h : 0 ≤ x.toInt ∧ x.toInt < y.toInt) : zMi yJ3_checkIndex_8e157 cJ3_checkIndex_8e157 3 (some .int) 0 [.int x, .int y, .null] n iv lw x iv lw := by
  refine zM.of (by decide) (Nat.le_of_ble_eq_true rfl) (fun X C E => ?_)
  change zJs X n 3 0 [some (.int x), some (.int y), some (.null)] [] iv lw
  refine z_iload_n C dJ3_checkIndex_8e157_0 rfl ?_
  refine zt_if_lt (tgt := 9) C dJ3_checkIndex_8e157_1 rfl (by decide) (fun q1 => ?_) (fun q1 => ?_)
  · exfalso; omega
  · refine z_iload_n C dJ3_checkIndex_8e157_4 rfl ?_
    refine z_iload_n C dJ3_checkIndex_8e157_5 rfl ?_
    refine zt_icmp_lt (tgt := 16) C dJ3_checkIndex_8e157_6 rfl rfl (by decide) (fun q6 => ?_) (fun q6 => ?_)
    · refine z_iload_n C dJ3_checkIndex_8e157_16 rfl ?_
      refine zs_iret C E dJ3_checkIndex_8e157_17 rfl ?_ ?_ ?_
      · rfl
      · rfl
      · rfl
    · exfalso; omega

set_option maxRecDepth 4000 in
theorem j_ck3R (n : Nat) (iv : zI) (lw : zG) (x y : Int32) (h : 0 ≤ x.toInt ∧ x.toInt < y.toInt) : zMi yJ3_checkIndex_8e157 cJ3_checkIndex_8e157 3 (some .int) 0 [.int x, .int y, .ref 1020] n iv lw x iv lw := by
  refine zM.of (by decide) (Nat.le_of_ble_eq_true rfl) (fun X C E => ?_)
  change zJs X n 3 0 [some (.int x), some (.int y), some (.ref 1020)] [] iv lw
  refine z_iload_n C dJ3_checkIndex_8e157_0 rfl ?_
  refine zt_if_lt (tgt := 9) C dJ3_checkIndex_8e157_1 rfl (by decide) (fun q1 => ?_) (fun q1 => ?_)
  · exfalso; omega
  · refine z_iload_n C dJ3_checkIndex_8e157_4 rfl ?_
    refine z_iload_n C dJ3_checkIndex_8e157_5 rfl ?_
    refine zt_icmp_lt (tgt := 16) C dJ3_checkIndex_8e157_6 rfl rfl (by decide) (fun q6 => ?_) (fun q6 => ?_)
    · refine z_iload_n C dJ3_checkIndex_8e157_16 rfl ?_
      refine zs_iret C E dJ3_checkIndex_8e157_17 rfl ?_ ?_ ?_
      · rfl
      · rfl
      · rfl
    · exfalso; omega

theorem j_ck3 (n : Nat) (iv : zI) (lw : zG) (x y : Int32) (fv : Value) (hfv : fv = .null ∨ fv = .ref 1020) (h : 0 ≤ x.toInt ∧ x.toInt < y.toInt) : zMi yJ3_checkIndex_8e157 cJ3_checkIndex_8e157 3 (some .int) 0 [.int x, .int y, fv] n iv lw x iv lw := by
  rcases hfv with rfl | rfl
  · exact j_ck3N n iv lw x y h
  · exact j_ck3R n iv lw x y h

set_option maxRecDepth 4000 in
theorem j_ck0 (n : Nat) (iv : zI) (lw : zG) (x y : Int32) (h : 0 ≤ x.toInt ∧ x.toInt < y.toInt) : zMv yJ0_checkIndex_df160 cJ0_checkIndex_df160 2 none 1 [.int x, .int y] n iv lw iv lw := by
  refine zM.of (by decide) (Nat.le_of_ble_eq_true rfl) (fun X C E => ?_)
  change zJs X n 2 0 [some (.int x), some (.int y)] [] iv lw
  refine z_iload_n C dJ0_checkIndex_df160_0 rfl ?_
  refine z_iload_n C dJ0_checkIndex_df160_1 rfl ?_
  refine z_gets_SIOOBE C dJ0_checkIndex_df160_2 (fun fv hfv => ?_)
  refine zs_callSi C dJ0_checkIndex_df160_5 zm_J0_1059 zyJ3_checkIndex_8e157 (j_ck3 n iv _ x y fv hfv h) (by decide) rfl rfl (Nat.le_of_ble_eq_true rfl) (by decide) (by decide) ?_
  refine z_pop C dJ0_checkIndex_df160_8 rfl ?_
  refine zs_vret C E dJ0_checkIndex_df160_9 ?_ rfl
  rfl

theorem zch_w : ∀ j, j < 88 → ((zsb 0 j &&& 255).toUInt32 % 65536).toInt32 = zsb 0 j ∧ narrow .char (.int (zsb 0 j)) = .int (zsb 0 j) := by decide +kernel

set_option maxRecDepth 4000 in
theorem j_ch1 (n : Nat) (iv : zI) (lw : zG) (j : Nat) (hj : j < 88) : zMi yJ1_charAt_3b067 cJ1_charAt_3b067 2 (some .char) 2 [.ref 1010, .int (nI j)] n iv lw (zsb 0 j) iv lw := by
  refine zM.of (by decide) (Nat.le_of_ble_eq_true rfl) (fun X C E => ?_)
  change zJs X n 2 0 [some (.ref 1010), some (.int (nI j))] [] iv lw
  refine z_iload_n C dJ1_charAt_3b067_0 rfl ?_
  refine z_aload_n C dJ1_charAt_3b067_1 rfl ?_
  refine z_alenS 0 (by decide) C dJ1_charAt_3b067_2 ?_
  refine z_eqi (show nI (zsl 0) = 88 by decide) ?_
  refine zs_callSv C dJ1_charAt_3b067_3 zm_J1_9 zyJ0_checkIndex_df160 (j_ck0 n iv _ (nI j) 88 (by rw [nI_toInt (by omega), show (88 : Int32).toInt = 88 by decide]; omega)) (by decide) rfl rfl (Nat.le_of_ble_eq_true rfl) (by decide) (by decide) ?_
  refine z_aload_n C dJ1_charAt_3b067_6 rfl ?_
  refine z_iload_n C dJ1_charAt_3b067_7 rfl ?_
  refine z_baldS 0 (by decide) C dJ1_charAt_3b067_8 ?_ ?_
  · exact vp_in_nI (show j < zsl 0 from hj) (by decide)
  refine z_sipush (v := 255) C dJ1_charAt_3b067_9 (by decide) ?_
  refine z_iand C dJ1_charAt_3b067_12 ?_
  refine z_i2c C dJ1_charAt_3b067_13 ?_
  rw [nI_clamp (show j < 2 ^ 31 by omega)]
  refine z_eqi (zch_w j hj).1 ?_
  refine zs_iret C E dJ1_charAt_3b067_14 (zch_w j hj).2 ?_ ?_ ?_
  · rfl
  · rfl
  · rfl

set_option maxRecDepth 4000 in
theorem j_charAt (n : Nat) (iv : zI) (lw : zG) (j : Nat) (hj : j < 88) : zMi yJ0_charAt_5068e cJ0_charAt_5068e 2 (some .char) 3 [.ref 1000, .int (nI j)] n iv lw (zsb 0 j) iv lw := by
  refine zM.of (by decide) (Nat.le_of_ble_eq_true rfl) (fun X C E => ?_)
  change zJs X n 2 0 [some (.ref 1000), some (.int (nI j))] [] iv lw
  refine z_aload_n C dJ0_charAt_5068e_0 rfl ?_
  refine zs_callTi 0 (by decide) C dJ0_charAt_5068e_1 zm_J0_492 zyJ0_isLatin1_aae02 (j_isLatin10 n iv _) rfl (by decide) rfl rfl (Nat.le_of_ble_eq_true rfl) (by decide) (by decide) ?_
  refine z_if_eq (tgt := 16) C dJ0_charAt_5068e_4 (by decide) (fun q4 => ?_) (fun q4 => ?_)
  · exact absurd q4 (by decide)
  · refine z_aload_n C dJ0_charAt_5068e_7 rfl ?_
    refine z_getSv 0 (by decide) C dJ0_charAt_5068e_8 ?_
    refine z_iload_n C dJ0_charAt_5068e_11 rfl ?_
    refine zs_callSi C dJ0_charAt_5068e_12 zm_J0_495 zyJ1_charAt_3b067 (j_ch1 n iv _ j hj) (by decide) rfl rfl (Nat.le_of_ble_eq_true rfl) (by decide) (by decide) ?_
    refine zs_iret C E dJ0_charAt_5068e_15 (zch_w j hj).2 ?_ ?_ ?_
    · rfl
    · rfl
    · rfl

/-- the signs -/
abbrev zsgn (c : Int32) : Prop := c = 59 ∨ c = 60 ∨ c = 62 ∨ c = 61 ∨ c = 43 ∨ c = 45 ∨ c = 40 ∨ c = 41
def zsgf (c : Int32) : Nat → Nat → Int32
  | _, 0 => -1
  | i, k + 1 => if zsb 1 i = c then nI i else zsgf c (i + 1) k
theorem zsgf_iff (c : Int32) : 0 ≤ (zsgf c 0 8).toInt ↔ zsgn c := by
  have e0 : zsb 1 0 = 59 := by decide
  have e1 : zsb 1 1 = 60 := by decide
  have e2 : zsb 1 2 = 62 := by decide
  have e3 : zsb 1 3 = 61 := by decide
  have e4 : zsb 1 4 = 43 := by decide
  have e5 : zsb 1 5 = 45 := by decide
  have e6 : zsb 1 6 = 40 := by decide
  have e7 : zsb 1 7 = 41 := by decide
  unfold zsgn
  simp only [zsgf, e0, e1, e2, e3, e4, e5, e6, e7]
  by_cases h0 : c = 59
  · subst h0; decide
  by_cases h1 : c = 60
  · subst h1; decide
  by_cases h2 : c = 62
  · subst h2; decide
  by_cases h3 : c = 61
  · subst h3; decide
  by_cases h4 : c = 43
  · subst h4; decide
  by_cases h5 : c = 45
  · subst h5; decide
  by_cases h6 : c = 40
  · subst h6; decide
  by_cases h7 : c = 41
  · subst h7; decide
  rw [if_neg (Ne.symm h0), if_neg (Ne.symm h1), if_neg (Ne.symm h2), if_neg (Ne.symm h3), if_neg (Ne.symm h4), if_neg (Ne.symm h5), if_neg (Ne.symm h6), if_neg (Ne.symm h7)]
  simp [h0, h1, h2, h3, h4, h5, h6, h7]
theorem zi2b {x : Int32} (h : 0 < x.toInt) (h2 : x.toInt < 128) : x.toInt8.toInt32 = x := by
  apply Int32.toInt_inj.mp
  rw [Int8.toInt_toInt32, Int32.toInt_toInt8]
  exact Int.bmod_eq_of_le (by omega) (by omega)
theorem zi2c {x : Int32} (h : 0 < x.toInt) (h2 : x.toInt < 128) : (x.toUInt32 % 65536).toInt32 = x := by
  have : x = nI x.toNatClampNeg := (znI_cl (by omega)).symm
  have h3 := zcl_int (x := x) (by omega)
  generalize x.toNatClampNeg = m at this h3
  subst this
  have : ∀ m, m < 128 → ((nI m).toUInt32 % 65536).toInt32 = nI m := by decide +kernel
  exact this m (by omega)

set_option maxRecDepth 4000 in
theorem j_can (n : Nat) (iv : zI) (lw : zG) (c : Int32) (hc : 0 < c.toInt ∧ c.toInt < 128) : zMi yJ1_canEncode_9a6ad cJ1_canEncode_9a6ad 1 (some .boolean) 0 [.int c] n iv lw 1 iv lw := by
  refine zM.of (by decide) (Nat.le_of_ble_eq_true rfl) (fun X C E => ?_)
  change zJs X n 1 0 [some (.int c)] [] iv lw
  refine z_iload_n C dJ1_canEncode_9a6ad_0 rfl ?_
  refine zt_if_lt (tgt := 15) C dJ1_canEncode_9a6ad_1 rfl (by decide) (fun q1 => ?_) (fun q1 => ?_)
  · exfalso; omega
  · refine z_iload_n C dJ1_canEncode_9a6ad_4 rfl ?_
    refine z_sipush (v := 255) C dJ1_canEncode_9a6ad_5 (by decide) ?_
    refine zt_icmp_gt (tgt := 15) C dJ1_canEncode_9a6ad_8 rfl (show (255 : Int32).toInt = 255 by decide) (by decide) (fun q8 => ?_) (fun q8 => ?_)
    · exfalso; omega
    · refine z_iconst (v := 1) C dJ1_canEncode_9a6ad_11 (by decide) ?_
      refine z_goto (tgt := 16) C dJ1_canEncode_9a6ad_12 (by decide) ?_
      refine zs_iret C E dJ1_canEncode_9a6ad_16 rfl ?_ ?_ ?_
      · rfl
      · rfl
      · rfl

set_option maxRecDepth 4000 in
theorem lj_ix (n : Nat) (iv : zI) (lw : zG) (c : Int32) (hc : 0 < c.toInt ∧ c.toInt < 128) (r0 : Int32) {X : zX} (C : zC X cJ1_indexOfChar_4cfef 6 RJ1 (some .int) "indexOfChar" 0 0 0) (E : zEnd X (91 + 3 * n) 0 0 (zQ n (zQi r0 iv lw))) : ∀ (k : Nat) (i : Nat), i + k = 8 → zsgf c i k = r0 → zJs X n 6 7 [some (.ref 1011), some (.int c), some (.int 0), some (.int 8), some (.int c), some (.int (nI i))] [] iv lw := by
  intro k
  induction k with
  | zero =>
    intro i hk hr
    refine z_iload C dJ1_indexOfChar_4cfef_7 rfl ?_
    refine z_iload_n C dJ1_indexOfChar_4cfef_9 rfl ?_
    refine zt_icmp_ge (tgt := 31) C dJ1_indexOfChar_4cfef_10 (nI_toInt (by omega)) (show (8 : Int32).toInt = 8 by decide) (by decide) (fun q10 => ?_) (fun q10 => ?_)
    · refine z_iconst (v := (-1)) C dJ1_indexOfChar_4cfef_31 (by decide) ?_
      refine zs_iret C E dJ1_indexOfChar_4cfef_32 rfl ?_ ?_ ?_
      · exact hr
      · rfl
      · rfl
    · exfalso; omega
  | succ k ih =>
    intro i hk hr
    refine z_iload C dJ1_indexOfChar_4cfef_7 rfl ?_
    refine z_iload_n C dJ1_indexOfChar_4cfef_9 rfl ?_
    refine zt_icmp_ge (tgt := 31) C dJ1_indexOfChar_4cfef_10 (nI_toInt (by omega)) (show (8 : Int32).toInt = 8 by decide) (by decide) (fun q10 => ?_) (fun q10 => ?_)
    · exfalso; omega
    · refine z_aload_n C dJ1_indexOfChar_4cfef_13 rfl ?_
      refine z_iload C dJ1_indexOfChar_4cfef_14 rfl ?_
      refine z_baldS 1 (by decide) C dJ1_indexOfChar_4cfef_16 ?_ ?_
      · exact vp_in_nI (show i < zsl 1 by have : zsl 1 = 8 := rfl; omega) (by decide)
      refine z_iload C dJ1_indexOfChar_4cfef_17 rfl ?_
      refine z_icmp_ne (tgt := 25) C dJ1_indexOfChar_4cfef_19 (by decide) (fun q19 => ?_) (fun q19 => ?_)
      · rw [nI_clamp (show i < 2 ^ 31 by omega)] at q19
        refine z_iinc (y := 1) (lv' := [some (.ref 1011), some (.int c), some (.int _), some (.int _), some (.int _), some (.int _)]) C dJ1_indexOfChar_4cfef_25 rfl (by decide) (by decide) rfl ?_
        refine z_goto (tgt := 7) C dJ1_indexOfChar_4cfef_28 (by decide) ?_
        rw [nI_1 i]
        refine ih (i + 1) (by omega) ?_
        rw [← hr, zsgf, if_neg q19]
      · rw [nI_clamp (show i < 2 ^ 31 by omega)] at q19
        refine z_iload C dJ1_indexOfChar_4cfef_22 rfl ?_
        refine zs_iret C E dJ1_indexOfChar_4cfef_24 rfl ?_ ?_ ?_
        · rw [← hr, zsgf, if_pos q19]
        · rfl
        · rfl

set_option maxRecDepth 4000 in
theorem j_ixc (n : Nat) (iv : zI) (lw : zG) (c : Int32) (hc : 0 < c.toInt ∧ c.toInt < 128) : zMi yJ1_indexOfChar_4cfef cJ1_indexOfChar_4cfef 6 (some .int) 0 [.ref 1011, .int c, .int 0, .int 8] n iv lw (zsgf c 0 8) iv lw := by
  refine zM.of (by decide) (Nat.le_of_ble_eq_true rfl) (fun X C E => ?_)
  change zJs X n 6 0 [some (.ref 1011), some (.int c), some (.int 0), some (.int 8), none, none] [] iv lw
  refine z_iload_n C dJ1_indexOfChar_4cfef_0 rfl ?_
  refine z_i2b C dJ1_indexOfChar_4cfef_1 ?_
  refine z_eqi (zi2b hc.1 hc.2) ?_
  refine z_istore (lv' := [some (.ref 1011), some (.int c), some (.int _), some (.int _), some (.int _), none]) C dJ1_indexOfChar_4cfef_2 (by decide) rfl ?_
  refine z_iload_n C dJ1_indexOfChar_4cfef_4 rfl ?_
  refine z_istore (lv' := [some (.ref 1011), some (.int c), some (.int _), some (.int _), some (.int _), some (.int _)]) C dJ1_indexOfChar_4cfef_5 (by decide) rfl ?_
  exact lj_ix n iv lw c hc _ (zC_le (by decide) C) E 8 0 (by omega) rfl

set_option maxRecDepth 4000 in
theorem j_ix1 (n : Nat) (iv : zI) (lw : zG) (c : Int32) (hc : 0 < c.toInt ∧ c.toInt < 128) : zMi yJ1_indexOf_4cfef cJ1_indexOf_4cfef 4 (some .int) 1 [.ref 1011, .int c, .int 0, .int 8] n iv lw (zsgf c 0 8) iv lw := by
  refine zM.of (by decide) (Nat.le_of_ble_eq_true rfl) (fun X C E => ?_)
  change zJs X n 4 0 [some (.ref 1011), some (.int c), some (.int 0), some (.int 8)] [] iv lw
  refine z_iload_n C dJ1_indexOf_4cfef_0 rfl ?_
  refine zs_callSi C dJ1_indexOf_4cfef_1 zm_J1_88 zyJ1_canEncode_9a6ad (j_can n iv _ c hc) (by decide) rfl rfl (Nat.le_of_ble_eq_true rfl) (by decide) (by decide) ?_
  refine z_if_ne (tgt := 9) C dJ1_indexOf_4cfef_4 (by decide) (fun q4 => ?_) (fun q4 => ?_)
  · refine z_iload_n C dJ1_indexOf_4cfef_9 rfl ?_
    refine z_iconst (v := 0) C dJ1_indexOf_4cfef_10 (by decide) ?_
    refine z_mmax C dJ1_indexOf_4cfef_11 zm_J1_92 (by decide) (Nat.le_of_ble_eq_true rfl) (by decide) (by decide) ?_
    refine z_eqi (show (if (0 : Int32) < 0 then (0 : Int32) else 0) = 0 by decide) ?_
    refine z_istore_n (lv' := [some (.ref 1011), some (.int c), some (.int _), some (.int _)]) C dJ1_indexOf_4cfef_14 (by decide) rfl ?_
    refine z_iload_n C dJ1_indexOf_4cfef_15 rfl ?_
    refine z_aload_n C dJ1_indexOf_4cfef_16 rfl ?_
    refine z_alenS 1 (by decide) C dJ1_indexOf_4cfef_17 ?_
    refine z_eqi (show nI (zsl 1) = 8 by decide) ?_
    refine z_mmin C dJ1_indexOf_4cfef_18 zm_J1_38 (by decide) (Nat.le_of_ble_eq_true rfl) (by decide) (by decide) ?_
    refine z_eqi (show (if (8 : Int32) < 8 then (8 : Int32) else 8) = 8 by decide) ?_
    refine z_istore_n (lv' := [some (.ref 1011), some (.int c), some (.int _), some (.int _)]) C dJ1_indexOf_4cfef_21 (by decide) rfl ?_
    refine z_iload_n C dJ1_indexOf_4cfef_22 rfl ?_
    refine z_iload_n C dJ1_indexOf_4cfef_23 rfl ?_
    refine zt_icmp_lt (tgt := 29) C dJ1_indexOf_4cfef_24 (show (0 : Int32).toInt = 0 by decide) (show (8 : Int32).toInt = 8 by decide) (by decide) (fun q24 => ?_) (fun q24 => ?_)
    · refine z_aload_n C dJ1_indexOf_4cfef_29 rfl ?_
      refine z_iload_n C dJ1_indexOf_4cfef_30 rfl ?_
      refine z_iload_n C dJ1_indexOf_4cfef_31 rfl ?_
      refine z_iload_n C dJ1_indexOf_4cfef_32 rfl ?_
      refine zs_callSi C dJ1_indexOf_4cfef_33 zm_J1_95 zyJ1_indexOfChar_4cfef (j_ixc n iv _ c hc) (by decide) rfl rfl (Nat.le_of_ble_eq_true rfl) (by decide) (by decide) ?_
      refine zs_iret C E dJ1_indexOf_4cfef_36 rfl ?_ ?_ ?_
      · rfl
      · rfl
      · rfl
    · exact absurd q24 (by decide)
  · exact absurd q4 (by decide)

set_option maxRecDepth 4000 in
theorem j_ix2 (n : Nat) (iv : zI) (lw : zG) (c : Int32) (hc : 0 < c.toInt ∧ c.toInt < 128) : zMi yJ0_indexOf_7cf53 cJ0_indexOf_7cf53 3 (some .int) 2 [.ref 1001, .int c, .int 0] n iv lw (zsgf c 0 8) iv lw := by
  refine zM.of (by decide) (Nat.le_of_ble_eq_true rfl) (fun X C E => ?_)
  change zJs X n 3 0 [some (.ref 1001), some (.int c), some (.int 0)] [] iv lw
  refine z_aload_n C dJ0_indexOf_7cf53_0 rfl ?_
  refine zs_callTi 1 (by decide) C dJ0_indexOf_7cf53_1 zm_J0_492 zyJ0_isLatin1_aae02 (j_isLatin11 n iv _) rfl (by decide) rfl rfl (Nat.le_of_ble_eq_true rfl) (by decide) (by decide) ?_
  refine z_if_eq (tgt := 23) C dJ0_indexOf_7cf53_4 (by decide) (fun q4 => ?_) (fun q4 => ?_)
  · exact absurd q4 (by decide)
  · refine z_aload_n C dJ0_indexOf_7cf53_7 rfl ?_
    refine z_getSv 1 (by decide) C dJ0_indexOf_7cf53_8 ?_
    refine z_iload_n C dJ0_indexOf_7cf53_11 rfl ?_
    refine z_iload_n C dJ0_indexOf_7cf53_12 rfl ?_
    refine z_aload_n C dJ0_indexOf_7cf53_13 rfl ?_
    refine zs_callTi 1 (by decide) C dJ0_indexOf_7cf53_14 zm_J0_505 zyJ0_length_8abf5 (j_length1 n iv _) rfl (by decide) rfl rfl (Nat.le_of_ble_eq_true rfl) (by decide) (by decide) ?_
    refine zs_callSi C dJ0_indexOf_7cf53_17 zm_J0_637 zyJ1_indexOf_4cfef (j_ix1 n iv _ c hc) (by decide) rfl rfl (Nat.le_of_ble_eq_true rfl) (by decide) (by decide) ?_
    refine z_goto (tgt := 36) C dJ0_indexOf_7cf53_20 (by decide) ?_
    refine zs_iret C E dJ0_indexOf_7cf53_36 rfl ?_ ?_ ?_
    · rfl
    · rfl
    · rfl

set_option maxRecDepth 4000 in
theorem j_indexOf (n : Nat) (iv : zI) (lw : zG) (c : Int32) (hc : 0 < c.toInt ∧ c.toInt < 128) : zMi yJ0_indexOf_0f7a4 cJ0_indexOf_0f7a4 2 (some .int) 3 [.ref 1001, .int c] n iv lw (zsgf c 0 8) iv lw := by
  refine zM.of (by decide) (Nat.le_of_ble_eq_true rfl) (fun X C E => ?_)
  change zJs X n 2 0 [some (.ref 1001), some (.int c)] [] iv lw
  refine z_aload_n C dJ0_indexOf_0f7a4_0 rfl ?_
  refine z_iload_n C dJ0_indexOf_0f7a4_1 rfl ?_
  refine z_iconst (v := 0) C dJ0_indexOf_0f7a4_2 (by decide) ?_
  refine zs_callTi 1 (by decide) C dJ0_indexOf_0f7a4_3 zm_J0_633 zyJ0_indexOf_7cf53 (j_ix2 n iv _ c hc) rfl (by decide) rfl rfl (Nat.le_of_ble_eq_true rfl) (by decide) (by decide) ?_
  refine zs_iret C E dJ0_indexOf_0f7a4_6 rfl ?_ ?_ ?_
  · rfl
  · rfl
  · rfl
