theorem zC_le {X : zX} {cc : ByteArray} {nL : Nat} {own : String} {ret : Option FieldType} {nm : String} {lvl lvl' MC MS : Nat} (h : lvl' ≤ lvl) (C : zC X cc nL own ret nm lvl MC MS) : zC X cc nL own ret nm lvl' MC MS := by
  obtain ⟨p, l, e, R, s, m, args, below, meth, c, D, cA, A, ad0, Q⟩ := X
  obtain ⟨h1, h2, h3, h4, h5, h6, h7, ⟨r1, r2, r3, r4⟩, h9⟩ := C
  exact ⟨h1, h2, h3, h4, h5, h6, h7, ⟨by omega, by omega, r3, r4⟩, h9⟩
/-! numbers -/
theorem zt_bm {a : Int} (h1 : -2147483648 ≤ a) (h2 : a < 2147483648) : a.bmod (2 ^ 32) = a := by
  rw [Int.bmod_eq_of_le] <;> omega
theorem zt_add {x y : Int32} (h1 : -2147483648 ≤ x.toInt + y.toInt) (h2 : x.toInt + y.toInt < 2147483648) : (x + y).toInt = x.toInt + y.toInt := by
  rw [Int32.toInt_add]; exact zt_bm h1 h2
theorem zt_sub {x y : Int32} (h1 : -2147483648 ≤ x.toInt - y.toInt) (h2 : x.toInt - y.toInt < 2147483648) : (x - y).toInt = x.toInt - y.toInt := by
  rw [Int32.toInt_sub]; exact zt_bm h1 h2
theorem zt_mul {x y : Int32} (h1 : -2147483648 ≤ x.toInt * y.toInt) (h2 : x.toInt * y.toInt < 2147483648) : (x * y).toInt = x.toInt * y.toInt := by
  rw [Int32.toInt_mul]; exact zt_bm h1 h2
theorem zt_1 : (1 : Int32).toInt = 1 := by decide
theorem zt_m1 {x : Int32} (h1 : -1000000000 ≤ x.toInt) : (x - 1).toInt = x.toInt - 1 := by
  have h2 := x.toInt_lt
  rw [zt_sub (by rw [zt_1]; omega) (by rw [zt_1]; omega), zt_1]
theorem zt_p1 {x : Int32} (h1 : x.toInt ≤ 1000000000) : (x + 1).toInt = x.toInt + 1 := by
  have h2 := x.le_toInt
  rw [zt_add (by rw [zt_1]; omega) (by rw [zt_1]; omega), zt_1]
theorem zcl_int {x : Int32} (h : 0 ≤ x.toInt) : (x.toNatClampNeg : Int) = x.toInt := by
  show ((x.toInt.toNat : Nat) : Int) = x.toInt
  omega
/-- the sum of f below m -/
def zsum (f : Nat → Int32) : Nat → Int32
  | 0 => 0
  | m + 1 => zsum f m + f m
theorem zsum_c {f g : Nat → Int32} : ∀ {m : Nat}, (∀ i, i < m → f i = g i) → zsum f m = zsum g m
  | 0, _ => rfl
  | m + 1, h => by rw [zsum, zsum, zsum_c (fun i hi => h i (by omega)), h m (by omega)]
/-- a stage as it is laid -/
def zlay (iv : zI) (k : Nat) (mi cl ma : Int32) : zI := zu (zu (zu iv 2 k mi) 3 k cl) 5 k ma

set_option maxRecDepth 4000 in
theorem c_hcanBe (n : Nat) (iv : zI) (lw : zG) (mi cl ma : Int32) : zMi yX2_canBe cX2_canBe 3 (some .boolean) 0 [.int mi, .int cl, .int ma] n iv lw (zb (1 ≤ mi.toInt ∧ mi.toInt ≤ 20 ∧ 0 ≤ cl.toInt ∧ cl.toInt ≤ 9 ∧ 0 ≤ ma.toInt ∧ ma.toInt < 4)) iv lw := by
  refine zM.of (by decide) (Nat.le_of_ble_eq_true rfl) (fun X C E => ?_)
  change zJs X n 3 0 [some (.int mi), some (.int cl), some (.int ma)] [] iv lw
  refine z_iload_n C dX2_canBe_0 rfl ?_
  refine z_iconst (v := 1) C dX2_canBe_1 (by decide) ?_
  refine zt_icmp_lt (tgt := 34) C dX2_canBe_2 rfl (show (1 : Int32).toInt = 1 by decide) (by decide) (fun q2 => ?_) (fun q2 => ?_)
  · refine z_iconst (v := 0) C dX2_canBe_34 (by decide) ?_
    refine zs_iret C E dX2_canBe_35 rfl ?_ ?_ ?_
    · exact (zb_f (by omega)).symm
    · rfl
    · rfl
  · refine z_iload_n C dX2_canBe_5 rfl ?_
    refine z_bipush (v := 20) C dX2_canBe_6 (by decide) ?_
    refine zt_icmp_gt (tgt := 34) C dX2_canBe_8 rfl (show (20 : Int32).toInt = 20 by decide) (by decide) (fun q8 => ?_) (fun q8 => ?_)
    · refine z_iconst (v := 0) C dX2_canBe_34 (by decide) ?_
      refine zs_iret C E dX2_canBe_35 rfl ?_ ?_ ?_
      · exact (zb_f (by omega)).symm
      · rfl
      · rfl
    · refine z_iload_n C dX2_canBe_11 rfl ?_
      refine zt_if_lt (tgt := 34) C dX2_canBe_12 rfl (by decide) (fun q12 => ?_) (fun q12 => ?_)
      · refine z_iconst (v := 0) C dX2_canBe_34 (by decide) ?_
        refine zs_iret C E dX2_canBe_35 rfl ?_ ?_ ?_
        · exact (zb_f (by omega)).symm
        · rfl
        · rfl
      · refine z_iload_n C dX2_canBe_15 rfl ?_
        refine z_bipush (v := 9) C dX2_canBe_16 (by decide) ?_
        refine zt_icmp_gt (tgt := 34) C dX2_canBe_18 rfl (show (9 : Int32).toInt = 9 by decide) (by decide) (fun q18 => ?_) (fun q18 => ?_)
        · refine z_iconst (v := 0) C dX2_canBe_34 (by decide) ?_
          refine zs_iret C E dX2_canBe_35 rfl ?_ ?_ ?_
          · exact (zb_f (by omega)).symm
          · rfl
          · rfl
        · refine z_iload_n C dX2_canBe_21 rfl ?_
          refine zt_if_lt (tgt := 34) C dX2_canBe_22 rfl (by decide) (fun q22 => ?_) (fun q22 => ?_)
          · refine z_iconst (v := 0) C dX2_canBe_34 (by decide) ?_
            refine zs_iret C E dX2_canBe_35 rfl ?_ ?_ ?_
            · exact (zb_f (by omega)).symm
            · rfl
            · rfl
          · refine z_iload_n C dX2_canBe_25 rfl ?_
            refine z_iconst (v := 4) C dX2_canBe_26 (by decide) ?_
            refine zt_icmp_ge (tgt := 34) C dX2_canBe_27 rfl (show (4 : Int32).toInt = 4 by decide) (by decide) (fun q27 => ?_) (fun q27 => ?_)
            · refine z_iconst (v := 0) C dX2_canBe_34 (by decide) ?_
              refine zs_iret C E dX2_canBe_35 rfl ?_ ?_ ?_
              · exact (zb_f (by omega)).symm
              · rfl
              · rfl
            · refine z_iconst (v := 1) C dX2_canBe_30 (by decide) ?_
              refine z_goto (tgt := 35) C dX2_canBe_31 (by decide) ?_
              refine zs_iret C E dX2_canBe_35 rfl ?_ ?_ ?_
              · exact (zb_t (by omega)).symm
              · rfl
              · rfl

set_option maxRecDepth 4000 in
theorem c_hasRoom (n : Nat) (iv : zI) (lw : zG) : zMi yX2_hasRoom cX2_hasRoom 1 (some .boolean) 0 [.ref 1] n iv lw (zb ((iv 1 0).toInt < 8)) iv lw := by
  refine zM.of (by decide) (Nat.le_of_ble_eq_true rfl) (fun X C E => ?_)
  change zJs X n 1 0 [some (.ref 1)] [] iv lw
  refine z_aload_n C dX2_hasRoom_0 rfl ?_
  refine z_getI C dX2_hasRoom_1 zf_X2_27 zk_1 (by decide) ?_
  refine z_bipush (v := 8) C dX2_hasRoom_4 (by decide) ?_
  refine zt_icmp_ge (tgt := 13) C dX2_hasRoom_6 rfl (show (8 : Int32).toInt = 8 by decide) (by decide) (fun q6 => ?_) (fun q6 => ?_)
  · refine z_iconst (v := 0) C dX2_hasRoom_13 (by decide) ?_
    refine zs_iret C E dX2_hasRoom_14 rfl ?_ ?_ ?_
    · exact (zb_f (by omega)).symm
    · rfl
    · rfl
  · refine z_iconst (v := 1) C dX2_hasRoom_9 (by decide) ?_
    refine z_goto (tgt := 14) C dX2_hasRoom_10 (by decide) ?_
    refine zs_iret C E dX2_hasRoom_14 rfl ?_ ?_ ?_
    · exact (zb_t (by omega)).symm
    · rfl
    · rfl

set_option maxRecDepth 4000 in
theorem c_hasInn (n : Nat) (iv : zI) (lw : zG) (inn : Int32) : zMi yX2_hasInn cX2_hasInn 2 (some .boolean) 0 [.ref 1, .int inn] n iv lw (zb (0 ≤ inn.toInt ∧ inn.toInt < (iv 1 0).toInt)) iv lw := by
  refine zM.of (by decide) (Nat.le_of_ble_eq_true rfl) (fun X C E => ?_)
  change zJs X n 2 0 [some (.ref 1), some (.int inn)] [] iv lw
  refine z_iload_n C dX2_hasInn_0 rfl ?_
  refine zt_if_lt (tgt := 16) C dX2_hasInn_1 rfl (by decide) (fun q1 => ?_) (fun q1 => ?_)
  · refine z_iconst (v := 0) C dX2_hasInn_16 (by decide) ?_
    refine zs_iret C E dX2_hasInn_17 rfl ?_ ?_ ?_
    · exact (zb_f (by omega)).symm
    · rfl
    · rfl
  · refine z_iload_n C dX2_hasInn_4 rfl ?_
    refine z_aload_n C dX2_hasInn_5 rfl ?_
    refine z_getI C dX2_hasInn_6 zf_X2_27 zk_1 (by decide) ?_
    refine zt_icmp_ge (tgt := 16) C dX2_hasInn_9 rfl rfl (by decide) (fun q9 => ?_) (fun q9 => ?_)
    · refine z_iconst (v := 0) C dX2_hasInn_16 (by decide) ?_
      refine zs_iret C E dX2_hasInn_17 rfl ?_ ?_ ?_
      · exact (zb_f (by omega)).symm
      · rfl
      · rfl
    · refine z_iconst (v := 1) C dX2_hasInn_12 (by decide) ?_
      refine z_goto (tgt := 17) C dX2_hasInn_13 (by decide) ?_
      refine zs_iret C E dX2_hasInn_17 rfl ?_ ?_ ?_
      · exact (zb_t (by omega)).symm
      · rfl
      · rfl

set_option maxRecDepth 4000 in
theorem c_hasStage (n : Nat) (iv : zI) (lw : zG) (sg : Int32) (hI : 2 ≤ (iv 1 0).toInt ∧ (iv 1 0).toInt ≤ 8) : zMi yX2_hasStage cX2_hasStage 2 (some .boolean) 0 [.ref 1, .int sg] n iv lw (zb (0 ≤ sg.toInt ∧ sg.toInt < (iv 1 0).toInt - 1)) iv lw := by
  refine zM.of (by decide) (Nat.le_of_ble_eq_true rfl) (fun X C E => ?_)
  change zJs X n 2 0 [some (.ref 1), some (.int sg)] [] iv lw
  refine z_iload_n C dX2_hasStage_0 rfl ?_
  refine zt_if_lt (tgt := 18) C dX2_hasStage_1 rfl (by decide) (fun q1 => ?_) (fun q1 => ?_)
  · refine z_iconst (v := 0) C dX2_hasStage_18 (by decide) ?_
    refine zs_iret C E dX2_hasStage_19 rfl ?_ ?_ ?_
    · exact (zb_f (by omega)).symm
    · rfl
    · rfl
  · refine z_iload_n C dX2_hasStage_4 rfl ?_
    refine z_aload_n C dX2_hasStage_5 rfl ?_
    refine z_getI C dX2_hasStage_6 zf_X2_27 zk_1 (by decide) ?_
    refine z_iconst (v := 1) C dX2_hasStage_9 (by decide) ?_
    refine z_isub C dX2_hasStage_10 ?_
    refine zt_icmp_ge (tgt := 18) C dX2_hasStage_11 rfl (zt_m1 (by omega)) (by decide) (fun q11 => ?_) (fun q11 => ?_)
    · refine z_iconst (v := 0) C dX2_hasStage_18 (by decide) ?_
      refine zs_iret C E dX2_hasStage_19 rfl ?_ ?_ ?_
      · exact (zb_f (by omega)).symm
      · rfl
      · rfl
    · refine z_iconst (v := 1) C dX2_hasStage_14 (by decide) ?_
      refine z_goto (tgt := 19) C dX2_hasStage_15 (by decide) ?_
      refine zs_iret C E dX2_hasStage_19 rfl ?_ ?_ ?_
      · exact (zb_t (by omega)).symm
      · rfl
      · rfl

set_option maxRecDepth 4000 in
theorem c_lay (n : Nat) (iv : zI) (lw : zG) (sg mi cl ma : Int32) (hI : 2 ≤ (iv 1 0).toInt ∧ (iv 1 0).toInt ≤ 8) (hs : 0 ≤ sg.toInt ∧ sg.toInt < (iv 1 0).toInt - 1) : zMv yX2_lay cX2_lay 5 none 1 [.ref 1, .int sg, .int mi, .int cl, .int ma] n iv lw (zlay iv sg.toNatClampNeg mi cl ma) lw := by
  refine zM.of (by decide) (Nat.le_of_ble_eq_true rfl) (fun X C E => ?_)
  change zJs X n 5 0 [some (.ref 1), some (.int sg), some (.int mi), some (.int cl), some (.int ma)] [] iv lw
  refine z_aload_n C dX2_lay_0 rfl ?_
  refine z_iload_n C dX2_lay_1 rfl ?_
  refine zs_callVi C dX2_lay_2 zm_X2_39 zyX2_hasStage (c_hasStage _ _ _ _ hI) zc_2 rfl zk_1 (by decide) (by decide) rfl rfl (Nat.le_of_ble_eq_true rfl) (by decide) (by decide) ?_
  refine zb_if_eq (tgt := 30) C dX2_lay_5 (by decide) (fun q5 => ?_) (fun q5 => ?_)
  · exact absurd hs q5
  · refine z_aload_n C dX2_lay_8 rfl ?_
    refine zs_getR C dX2_lay_9 zf_X2_11 zk_1 (by decide) (zr_1_1 n) ?_
    refine z_iload_n C dX2_lay_12 rfl ?_
    refine z_iload_n C dX2_lay_13 rfl ?_
    refine z_iast C dX2_lay_14 zk_2 (by decide) ?_ ?_
    · exact vp_in_iff.mpr (by omega)
    refine z_aload_n C dX2_lay_15 rfl ?_
    refine zs_getR C dX2_lay_16 zf_X2_15 zk_1 (by decide) (zr_1_2 n) ?_
    refine z_iload_n C dX2_lay_19 rfl ?_
    refine z_iload_n C dX2_lay_20 rfl ?_
    refine z_iast C dX2_lay_21 zk_3 (by decide) ?_ ?_
    · exact vp_in_iff.mpr (by omega)
    refine z_aload_n C dX2_lay_22 rfl ?_
    refine zs_getR C dX2_lay_23 zf_X2_21 zk_1 (by decide) (zr_1_4 n) ?_
    refine z_iload_n C dX2_lay_26 rfl ?_
    refine z_iload C dX2_lay_27 rfl ?_
    refine z_iast C dX2_lay_29 zk_5 (by decide) ?_ ?_
    · exact vp_in_iff.mpr (by omega)
    refine zs_vret C E dX2_lay_30 ?_ rfl
    rfl

set_option maxRecDepth 4000 in
theorem c_muddy (n : Nat) (iv : zI) (lw : zG) (sg de : Int32) (hI : 2 ≤ (iv 1 0).toInt ∧ (iv 1 0).toInt ≤ 8) : zMi yX2_muddy cX2_muddy 3 (some .boolean) 1 [.ref 1, .int sg, .int de] n iv lw (zb (0 ≤ sg.toInt ∧ sg.toInt < (iv 1 0).toInt - 1 ∧ 0 ≤ de.toInt ∧ de.toInt ≤ 9)) (if (0 ≤ sg.toInt ∧ sg.toInt < (iv 1 0).toInt - 1 ∧ 0 ≤ de.toInt ∧ de.toInt ≤ 9) then zu iv 4 sg.toNatClampNeg de else iv) lw := by
  refine zM.of (by decide) (Nat.le_of_ble_eq_true rfl) (fun X C E => ?_)
  change zJs X n 3 0 [some (.ref 1), some (.int sg), some (.int de)] [] iv lw
  refine z_aload_n C dX2_muddy_0 rfl ?_
  refine z_iload_n C dX2_muddy_1 rfl ?_
  refine zs_callVi C dX2_muddy_2 zm_X2_39 zyX2_hasStage (c_hasStage _ _ _ _ hI) zc_2 rfl zk_1 (by decide) (by decide) rfl rfl (Nat.le_of_ble_eq_true rfl) (by decide) (by decide) ?_
  refine zb_if_eq (tgt := 18) C dX2_muddy_5 (by decide) (fun q5 => ?_) (fun q5 => ?_)
  · refine z_iconst (v := 0) C dX2_muddy_18 (by decide) ?_
    refine zs_iret C E dX2_muddy_19 rfl ?_ ?_ ?_
    · exact (zb_f (by omega)).symm
    · exact (if_neg (by omega)).symm
    · rfl
  · refine z_iload_n C dX2_muddy_8 rfl ?_
    refine zt_if_lt (tgt := 18) C dX2_muddy_9 rfl (by decide) (fun q9 => ?_) (fun q9 => ?_)
    · refine z_iconst (v := 0) C dX2_muddy_18 (by decide) ?_
      refine zs_iret C E dX2_muddy_19 rfl ?_ ?_ ?_
      · exact (zb_f (by omega)).symm
      · exact (if_neg (by omega)).symm
      · rfl
    · refine z_iload_n C dX2_muddy_12 rfl ?_
      refine z_bipush (v := 9) C dX2_muddy_13 (by decide) ?_
      refine zt_icmp_le (tgt := 20) C dX2_muddy_15 rfl (show (9 : Int32).toInt = 9 by decide) (by decide) (fun q15 => ?_) (fun q15 => ?_)
      · refine z_aload_n C dX2_muddy_20 rfl ?_
        refine zs_getR C dX2_muddy_21 zf_X2_18 zk_1 (by decide) (zr_1_3 n) ?_
        refine z_iload_n C dX2_muddy_24 rfl ?_
        refine z_iload_n C dX2_muddy_25 rfl ?_
        refine z_iast C dX2_muddy_26 zk_4 (by decide) ?_ ?_
        · exact vp_in_iff.mpr (by omega)
        refine z_iconst (v := 1) C dX2_muddy_27 (by decide) ?_
        refine zs_iret C E dX2_muddy_28 rfl ?_ ?_ ?_
        · exact (zb_t (by omega)).symm
        · exact (if_pos (by omega)).symm
        · rfl
      · refine z_iconst (v := 0) C dX2_muddy_18 (by decide) ?_
        refine zs_iret C E dX2_muddy_19 rfl ?_ ?_ ?_
        · exact (zb_f (by omega)).symm
        · exact (if_neg (by omega)).symm
        · rfl

set_option maxRecDepth 4000 in
theorem c_store (n : Nat) (iv : zI) (lw : zG) (inn am : Int32) (hI : 2 ≤ (iv 1 0).toInt ∧ (iv 1 0).toInt ≤ 8) (hO : ∀ k, k < 8 → 0 ≤ (iv 6 k).toInt ∧ (iv 6 k).toInt ≤ 100000) : zMi yX2_store cX2_store 3 (some .boolean) 1 [.ref 1, .int inn, .int am] n iv lw (zb (0 ≤ inn.toInt ∧ inn.toInt < (iv 1 0).toInt ∧ 0 ≤ am.toInt ∧ am.toInt ≤ 100000 - (iv 6 inn.toNatClampNeg).toInt)) (if (0 ≤ inn.toInt ∧ inn.toInt < (iv 1 0).toInt ∧ 0 ≤ am.toInt ∧ am.toInt ≤ 100000 - (iv 6 inn.toNatClampNeg).toInt) then zu iv 6 inn.toNatClampNeg (iv 6 inn.toNatClampNeg + am) else iv) lw := by
  refine zM.of (by decide) (Nat.le_of_ble_eq_true rfl) (fun X C E => ?_)
  change zJs X n 3 0 [some (.ref 1), some (.int inn), some (.int am)] [] iv lw
  refine z_aload_n C dX2_store_0 rfl ?_
  refine z_iload_n C dX2_store_1 rfl ?_
  refine zs_callVi C dX2_store_2 zm_X2_43 zyX2_hasInn (c_hasInn _ _ _ _) zc_2 rfl zk_1 (by decide) (by decide) rfl rfl (Nat.le_of_ble_eq_true rfl) (by decide) (by decide) ?_
  refine zb_if_eq (tgt := 25) C dX2_store_5 (by decide) (fun q5 => ?_) (fun q5 => ?_)
  · refine z_iconst (v := 0) C dX2_store_25 (by decide) ?_
    refine zs_iret C E dX2_store_26 rfl ?_ ?_ ?_
    · exact (zb_f (by omega)).symm
    · exact (if_neg (by omega)).symm
    · rfl
  · refine z_iload_n C dX2_store_8 rfl ?_
    refine zt_if_lt (tgt := 25) C dX2_store_9 rfl (by decide) (fun q9 => ?_) (fun q9 => ?_)
    · refine z_iconst (v := 0) C dX2_store_25 (by decide) ?_
      refine zs_iret C E dX2_store_26 rfl ?_ ?_ ?_
      · exact (zb_f (by omega)).symm
      · exact (if_neg (by omega)).symm
      · rfl
    · refine z_iload_n C dX2_store_12 rfl ?_
      have hq := hO inn.toNatClampNeg (by have := zcl_int q5.1; omega)
      refine z_ldc C dX2_store_13 zk_X2_46 ?_
      refine z_aload_n C dX2_store_15 rfl ?_
      refine zs_getR C dX2_store_16 zf_X2_24 zk_1 (by decide) (zr_1_5 n) ?_
      refine z_iload_n C dX2_store_19 rfl ?_
      refine z_iald C dX2_store_20 zk_6 (by decide) ?_ ?_
      · exact vp_in_iff.mpr (by omega)
      refine z_isub C dX2_store_21 ?_
      refine zt_icmp_le (tgt := 27) C dX2_store_22 rfl (zt_sub (by rw [show (100000 : Int32).toInt = 100000 by decide]; omega) (by rw [show (100000 : Int32).toInt = 100000 by decide]; omega)) (by decide) (fun q22 => ?_) (fun q22 => ?_)
      · rw [show (100000 : Int32).toInt = 100000 by decide] at q22
        refine z_aload_n C dX2_store_27 rfl ?_
        refine zs_getR C dX2_store_28 zf_X2_24 zk_1 (by decide) (zr_1_5 n) ?_
        refine z_iload_n C dX2_store_31 rfl ?_
        refine z_dup2 C dX2_store_32 rfl rfl ?_
        refine z_iald C dX2_store_33 zk_6 (by decide) ?_ ?_
        · exact vp_in_iff.mpr (by omega)
        refine z_iload_n C dX2_store_34 rfl ?_
        refine z_iadd C dX2_store_35 ?_
        refine z_iast C dX2_store_36 zk_6 (by decide) ?_ ?_
        · exact vp_in_iff.mpr (by omega)
        refine z_iconst (v := 1) C dX2_store_37 (by decide) ?_
        refine zs_iret C E dX2_store_38 rfl ?_ ?_ ?_
        · exact (zb_t (by omega)).symm
        · exact (if_pos (by omega)).symm
        · rfl
      · rw [show (100000 : Int32).toInt = 100000 by decide] at q22
        refine z_iconst (v := 0) C dX2_store_25 (by decide) ?_
        refine zs_iret C E dX2_store_26 rfl ?_ ?_ ?_
        · exact (zb_f (by omega)).symm
        · exact (if_neg (by omega)).symm
        · rfl

set_option maxRecDepth 4000 in
theorem c_eat (n : Nat) (iv : zI) (lw : zG) (inn : Int32) (hI : 2 ≤ (iv 1 0).toInt ∧ (iv 1 0).toInt ≤ 8) (hn : 0 ≤ inn.toInt ∧ inn.toInt < (iv 1 0).toInt) : zMi yX2_eat cX2_eat 2 (some .boolean) 1 [.ref 1, .int inn] n iv lw (zb (¬ iv 6 inn.toNatClampNeg = 0)) (if ¬ iv 6 inn.toNatClampNeg = 0 then zu iv 6 inn.toNatClampNeg (iv 6 inn.toNatClampNeg - 1) else iv) lw := by
  refine zM.of (by decide) (Nat.le_of_ble_eq_true rfl) (fun X C E => ?_)
  change zJs X n 2 0 [some (.ref 1), some (.int inn)] [] iv lw
  refine z_aload_n C dX2_eat_0 rfl ?_
  refine z_iload_n C dX2_eat_1 rfl ?_
  refine zs_callVi C dX2_eat_2 zm_X2_43 zyX2_hasInn (c_hasInn _ _ _ _) zc_2 rfl zk_1 (by decide) (by decide) rfl rfl (Nat.le_of_ble_eq_true rfl) (by decide) (by decide) ?_
  refine zb_if_eq (tgt := 17) C dX2_eat_5 (by decide) (fun q5 => ?_) (fun q5 => ?_)
  · exact absurd hn q5
  · refine z_aload_n C dX2_eat_8 rfl ?_
    refine zs_getR C dX2_eat_9 zf_X2_24 zk_1 (by decide) (zr_1_5 n) ?_
    refine z_iload_n C dX2_eat_12 rfl ?_
    refine z_iald C dX2_eat_13 zk_6 (by decide) ?_ ?_
    · exact vp_in_iff.mpr (by omega)
    refine z_if_ne (tgt := 19) C dX2_eat_14 (by decide) (fun q14 => ?_) (fun q14 => ?_)
    · refine z_aload_n C dX2_eat_19 rfl ?_
      refine zs_getR C dX2_eat_20 zf_X2_24 zk_1 (by decide) (zr_1_5 n) ?_
      refine z_iload_n C dX2_eat_23 rfl ?_
      refine z_dup2 C dX2_eat_24 rfl rfl ?_
      refine z_iald C dX2_eat_25 zk_6 (by decide) ?_ ?_
      · exact vp_in_iff.mpr (by omega)
      refine z_iconst (v := 1) C dX2_eat_26 (by decide) ?_
      refine z_isub C dX2_eat_27 ?_
      refine z_iast C dX2_eat_28 zk_6 (by decide) ?_ ?_
      · exact vp_in_iff.mpr (by omega)
      refine z_iconst (v := 1) C dX2_eat_29 (by decide) ?_
      refine zs_iret C E dX2_eat_30 rfl ?_ ?_ ?_
      · exact (zb_t q14).symm
      · exact (if_pos q14).symm
      · rfl
    · refine z_iconst (v := 0) C dX2_eat_17 (by decide) ?_
      refine zs_iret C E dX2_eat_18 rfl ?_ ?_ ?_
      · exact (zb_f (fun z => z q14)).symm
      · exact (if_neg (fun z => z q14)).symm
      · rfl

theorem zpm (x : Int32) : x + 1 - 1 = x := Int32.add_sub_cancel x 1
theorem zpm2 (x : Int32) : x + 1 - 2 = x - 1 := by
  rw [show (2 : Int32) = 1 + 1 by decide, Int32.sub_eq_add_neg, Int32.neg_add, Int32.sub_eq_add_neg, Int32.add_assoc, Int32.sub_eq_add_neg]
  rw [← Int32.add_assoc 1, Int32.add_right_neg, Int32.zero_add]

set_option maxRecDepth 4000 in
theorem c_lengthen (n : Nat) (iv : zI) (lw : zG) (mi cl ma : Int32) (hI : 2 ≤ (iv 1 0).toInt ∧ (iv 1 0).toInt ≤ 8) (hR : (iv 1 0).toInt < 8) : zMi yX2_lengthen cX2_lengthen 4 (some .int) 2 [.ref 1, .int mi, .int cl, .int ma] n iv lw (iv 1 0) (zlay (zu iv 1 0 (iv 1 0 + 1)) (iv 1 0 - 1).toNatClampNeg mi cl ma) lw := by
  refine zM.of (by decide) (Nat.le_of_ble_eq_true rfl) (fun X C E => ?_)
  change zJs X n 4 0 [some (.ref 1), some (.int mi), some (.int cl), some (.int ma)] [] iv lw
  refine z_aload_n C dX2_lengthen_0 rfl ?_
  refine zs_callVi C dX2_lengthen_1 zm_X2_31 zyX2_hasRoom (c_hasRoom _ _ _) zc_2 rfl zk_1 (by decide) (by decide) rfl rfl (Nat.le_of_ble_eq_true rfl) (by decide) (by decide) ?_
  refine zb_if_ne (tgt := 9) C dX2_lengthen_4 (by decide) (fun q4 => ?_) (fun q4 => ?_)
  · refine z_aload_n C dX2_lengthen_9 rfl ?_
    refine z_dup C dX2_lengthen_10 rfl ?_
    refine z_getI C dX2_lengthen_11 zf_X2_27 zk_1 (by decide) ?_
    refine z_iconst (v := 1) C dX2_lengthen_14 (by decide) ?_
    refine z_iadd C dX2_lengthen_15 ?_
    refine z_putI C dX2_lengthen_16 zf_X2_27 zk_1 (by decide) ?_
    have e0 : zu iv 1 0 (iv 1 0 + 1) 1 0 = iv 1 0 + 1 := by rw [zu_s]; exact pk_us
    have e1 : (iv 1 0 + 1).toInt = (iv 1 0).toInt + 1 := zt_p1 (by omega)
    have hJ : 2 ≤ (zu iv 1 0 (iv 1 0 + 1) 1 0).toInt ∧ (zu iv 1 0 (iv 1 0 + 1) 1 0).toInt ≤ 8 := by rw [e0, e1]; omega
    have hK : 0 ≤ (zu iv 1 0 (iv 1 0 + 1) 1 0 - 2).toInt ∧ (zu iv 1 0 (iv 1 0 + 1) 1 0 - 2).toInt < (zu iv 1 0 (iv 1 0 + 1) 1 0).toInt - 1 := by
      rw [e0, zt_sub (by rw [e1, show (2 : Int32).toInt = 2 by decide]; omega) (by rw [e1, show (2 : Int32).toInt = 2 by decide]; omega), e1, show (2 : Int32).toInt = 2 by decide]
      omega
    refine z_aload_n C dX2_lengthen_19 rfl ?_
    refine z_aload_n C dX2_lengthen_20 rfl ?_
    refine z_getI C dX2_lengthen_21 zf_X2_27 zk_1 (by decide) ?_
    refine z_iconst (v := 2) C dX2_lengthen_24 (by decide) ?_
    refine z_isub C dX2_lengthen_25 ?_
    refine z_iload_n C dX2_lengthen_26 rfl ?_
    refine z_iload_n C dX2_lengthen_27 rfl ?_
    refine z_iload_n C dX2_lengthen_28 rfl ?_
    refine zs_callVv C dX2_lengthen_29 zm_X2_35 zyX2_lay (c_lay _ _ _ _ _ _ _ hJ hK) zc_2 rfl zk_1 (by decide) (by decide) rfl rfl (Nat.le_of_ble_eq_true rfl) (by decide) (by decide) ?_
    refine z_aload_n C dX2_lengthen_32 rfl ?_
    refine z_getI C dX2_lengthen_33 zf_X2_27 zk_1 (by decide) ?_
    refine z_iconst (v := 1) C dX2_lengthen_36 (by decide) ?_
    refine z_isub C dX2_lengthen_37 ?_
    refine zs_iret C E dX2_lengthen_38 rfl ?_ ?_ ?_
    · show zlay (zu iv 1 0 (iv 1 0 + 1)) _ mi cl ma 1 0 - 1 = iv 1 0
      rw [show zlay (zu iv 1 0 (iv 1 0 + 1)) (zu iv 1 0 (iv 1 0 + 1) 1 0 - 2).toNatClampNeg mi cl ma 1 0 = zu iv 1 0 (iv 1 0 + 1) 1 0 from rfl, e0]
      exact zpm _
    · have e2 : (zu iv 1 0 (iv 1 0 + 1) 1 0 - 2).toNatClampNeg = (iv 1 0 - 1).toNatClampNeg := by rw [e0, show iv 1 0 + 1 - 2 = iv 1 0 - 1 from zpm2 _]
      rw [e2]
    · rfl
  · exact absurd hR q4

set_option maxRecDepth 4000 in
theorem c_plainMinutes (n : Nat) (iv : zI) (lw : zG) (sg pa : Int32) (hI : 2 ≤ (iv 1 0).toInt ∧ (iv 1 0).toInt ≤ 8) (hs : 0 ≤ sg.toInt ∧ sg.toInt < (iv 1 0).toInt - 1) : zMi yX2_plainMinutes cX2_plainMinutes 3 (some .int) 1 [.ref 1, .int sg, .int pa] n iv lw (iv 2 sg.toNatClampNeg * pa + 2 * iv 3 sg.toNatClampNeg) iv lw := by
  refine zM.of (by decide) (Nat.le_of_ble_eq_true rfl) (fun X C E => ?_)
  change zJs X n 3 0 [some (.ref 1), some (.int sg), some (.int pa)] [] iv lw
  refine z_aload_n C dX2_plainMinutes_0 rfl ?_
  refine z_iload_n C dX2_plainMinutes_1 rfl ?_
  refine zs_callVi C dX2_plainMinutes_2 zm_X2_39 zyX2_hasStage (c_hasStage _ _ _ _ hI) zc_2 rfl zk_1 (by decide) (by decide) rfl rfl (Nat.le_of_ble_eq_true rfl) (by decide) (by decide) ?_
  refine zb_if_eq (tgt := 28) C dX2_plainMinutes_5 (by decide) (fun q5 => ?_) (fun q5 => ?_)
  · exact absurd hs q5
  · refine z_aload_n C dX2_plainMinutes_8 rfl ?_
    refine zs_getR C dX2_plainMinutes_9 zf_X2_11 zk_1 (by decide) (zr_1_1 n) ?_
    refine z_iload_n C dX2_plainMinutes_12 rfl ?_
    refine z_iald C dX2_plainMinutes_13 zk_2 (by decide) ?_ ?_
    · exact vp_in_iff.mpr (by omega)
    refine z_iload_n C dX2_plainMinutes_14 rfl ?_
    refine z_imul C dX2_plainMinutes_15 ?_
    refine z_iconst (v := 2) C dX2_plainMinutes_16 (by decide) ?_
    refine z_aload_n C dX2_plainMinutes_17 rfl ?_
    refine zs_getR C dX2_plainMinutes_18 zf_X2_15 zk_1 (by decide) (zr_1_2 n) ?_
    refine z_iload_n C dX2_plainMinutes_21 rfl ?_
    refine z_iald C dX2_plainMinutes_22 zk_3 (by decide) ?_ ?_
    · exact vp_in_iff.mpr (by omega)
    refine z_imul C dX2_plainMinutes_23 ?_
    refine z_iadd C dX2_plainMinutes_24 ?_
    refine z_goto (tgt := 29) C dX2_plainMinutes_25 (by decide) ?_
    refine zs_iret C E dX2_plainMinutes_29 rfl ?_ ?_ ?_
    · rfl
    · rfl
    · rfl

set_option maxRecDepth 4000 in
theorem c_muds (n : Nat) (iv : zI) (lw : zG) (sg : Int32) (hI : 2 ≤ (iv 1 0).toInt ∧ (iv 1 0).toInt ≤ 8) (hs : 0 ≤ sg.toInt ∧ sg.toInt < (iv 1 0).toInt - 1) : zMi yX2_muds cX2_muds 2 (some .int) 1 [.ref 1, .int sg] n iv lw (iv 4 sg.toNatClampNeg * iv 2 sg.toNatClampNeg / 4) iv lw := by
  refine zM.of (by decide) (Nat.le_of_ble_eq_true rfl) (fun X C E => ?_)
  change zJs X n 2 0 [some (.ref 1), some (.int sg)] [] iv lw
  refine z_aload_n C dX2_muds_0 rfl ?_
  refine z_iload_n C dX2_muds_1 rfl ?_
  refine zs_callVi C dX2_muds_2 zm_X2_39 zyX2_hasStage (c_hasStage _ _ _ _ hI) zc_2 rfl zk_1 (by decide) (by decide) rfl rfl (Nat.le_of_ble_eq_true rfl) (by decide) (by decide) ?_
  refine zb_if_eq (tgt := 26) C dX2_muds_5 (by decide) (fun q5 => ?_) (fun q5 => ?_)
  · exact absurd hs q5
  · refine z_aload_n C dX2_muds_8 rfl ?_
    refine zs_getR C dX2_muds_9 zf_X2_18 zk_1 (by decide) (zr_1_3 n) ?_
    refine z_iload_n C dX2_muds_12 rfl ?_
    refine z_iald C dX2_muds_13 zk_4 (by decide) ?_ ?_
    · exact vp_in_iff.mpr (by omega)
    refine z_aload_n C dX2_muds_14 rfl ?_
    refine zs_getR C dX2_muds_15 zf_X2_11 zk_1 (by decide) (zr_1_1 n) ?_
    refine z_iload_n C dX2_muds_18 rfl ?_
    refine z_iald C dX2_muds_19 zk_2 (by decide) ?_ ?_
    · exact vp_in_iff.mpr (by omega)
    refine z_imul C dX2_muds_20 ?_
    refine z_iconst (v := 4) C dX2_muds_21 (by decide) ?_
    refine z_idiv C dX2_muds_22 (by decide) ?_
    refine z_goto (tgt := 27) C dX2_muds_23 (by decide) ?_
    refine zs_iret C E dX2_muds_27 rfl ?_ ?_ ?_
    · rfl
    · rfl
    · rfl

set_option maxRecDepth 4000 in
theorem c_cost (n : Nat) (iv : zI) (lw : zG) (sg lo : Int32) (hI : 2 ≤ (iv 1 0).toInt ∧ (iv 1 0).toInt ≤ 8) (hs : 0 ≤ sg.toInt ∧ sg.toInt < (iv 1 0).toInt - 1) : zMi yX2_cost cX2_cost 3 (some .int) 1 [.ref 1, .int sg, .int lo] n iv lw (12 * iv 2 sg.toNatClampNeg + 10 * iv 3 sg.toNatClampNeg + 5 * iv 4 sg.toNatClampNeg + lo) iv lw := by
  refine zM.of (by decide) (Nat.le_of_ble_eq_true rfl) (fun X C E => ?_)
  change zJs X n 3 0 [some (.ref 1), some (.int sg), some (.int lo)] [] iv lw
  refine z_aload_n C dX2_cost_0 rfl ?_
  refine z_iload_n C dX2_cost_1 rfl ?_
  refine zs_callVi C dX2_cost_2 zm_X2_39 zyX2_hasStage (c_hasStage _ _ _ _ hI) zc_2 rfl zk_1 (by decide) (by decide) rfl rfl (Nat.le_of_ble_eq_true rfl) (by decide) (by decide) ?_
  refine zb_if_eq (tgt := 41) C dX2_cost_5 (by decide) (fun q5 => ?_) (fun q5 => ?_)
  · exact absurd hs q5
  · refine z_bipush (v := 12) C dX2_cost_8 (by decide) ?_
    refine z_aload_n C dX2_cost_10 rfl ?_
    refine zs_getR C dX2_cost_11 zf_X2_11 zk_1 (by decide) (zr_1_1 n) ?_
    refine z_iload_n C dX2_cost_14 rfl ?_
    refine z_iald C dX2_cost_15 zk_2 (by decide) ?_ ?_
    · exact vp_in_iff.mpr (by omega)
    refine z_imul C dX2_cost_16 ?_
    refine z_bipush (v := 10) C dX2_cost_17 (by decide) ?_
    refine z_aload_n C dX2_cost_19 rfl ?_
    refine zs_getR C dX2_cost_20 zf_X2_15 zk_1 (by decide) (zr_1_2 n) ?_
    refine z_iload_n C dX2_cost_23 rfl ?_
    refine z_iald C dX2_cost_24 zk_3 (by decide) ?_ ?_
    · exact vp_in_iff.mpr (by omega)
    refine z_imul C dX2_cost_25 ?_
    refine z_iadd C dX2_cost_26 ?_
    refine z_iconst (v := 5) C dX2_cost_27 (by decide) ?_
    refine z_aload_n C dX2_cost_28 rfl ?_
    refine zs_getR C dX2_cost_29 zf_X2_18 zk_1 (by decide) (zr_1_3 n) ?_
    refine z_iload_n C dX2_cost_32 rfl ?_
    refine z_iald C dX2_cost_33 zk_4 (by decide) ?_ ?_
    · exact vp_in_iff.mpr (by omega)
    refine z_imul C dX2_cost_34 ?_
    refine z_iadd C dX2_cost_35 ?_
    refine z_iload_n C dX2_cost_36 rfl ?_
    refine z_iadd C dX2_cost_37 ?_
    refine z_goto (tgt := 42) C dX2_cost_38 (by decide) ?_
    refine zs_iret C E dX2_cost_42 rfl ?_ ?_ ?_
    · rfl
    · rfl
    · rfl

/-- what a road tells -/
def zroad (inns : Int) (mi cl mu ma oa : Nat → Int32) (k wh : Int32) : Int32 :=
  if wh = 4 then (if 0 ≤ k.toInt ∧ k.toInt < inns then oa k.toNatClampNeg else -1)
  else if ¬ (0 ≤ k.toInt ∧ k.toInt < inns - 1) then -1
  else if wh = 0 then mi k.toNatClampNeg else if wh = 1 then cl k.toNatClampNeg else if wh = 2 then mu k.toNatClampNeg else if wh = 3 then ma k.toNatClampNeg else -1

set_option maxRecDepth 4000 in
theorem c_htell (n : Nat) (iv : zI) (lw : zG) (k wh : Int32) (hI : 2 ≤ (iv 1 0).toInt ∧ (iv 1 0).toInt ≤ 8) : zMi yX2_tell cX2_tell 3 (some .int) 1 [.ref 1, .int k, .int wh] n iv lw (zroad (iv 1 0).toInt (iv 2) (iv 3) (iv 4) (iv 5) (iv 6) k wh) iv lw := by
  refine zM.of (by decide) (Nat.le_of_ble_eq_true rfl) (fun X C E => ?_)
  change zJs X n 3 0 [some (.ref 1), some (.int k), some (.int wh)] [] iv lw
  refine z_iload_n C dX2_tell_0 rfl ?_
  refine z_iconst (v := 4) C dX2_tell_1 (by decide) ?_
  refine z_icmp_ne (tgt := 24) C dX2_tell_2 (by decide) (fun q2 => ?_) (fun q2 => ?_)
  · refine z_aload_n C dX2_tell_24 rfl ?_
    refine z_iload_n C dX2_tell_25 rfl ?_
    refine zs_callVi C dX2_tell_26 zm_X2_39 zyX2_hasStage (c_hasStage _ _ _ _ hI) zc_2 rfl zk_1 (by decide) (by decide) rfl rfl (Nat.le_of_ble_eq_true rfl) (by decide) (by decide) ?_
    refine zb_if_ne (tgt := 34) C dX2_tell_29 (by decide) (fun q29 => ?_) (fun q29 => ?_)
    · refine z_iload_n C dX2_tell_34 rfl ?_
      by_cases qs35_0 : wh = 0
      · refine z_tabIn (tgt := 64) C dX2_tell_35 (by rw [qs35_0]; decide) (by rw [qs35_0]; decide) (by rw [qs35_0]; rfl) (by decide) ?_
        refine z_aload_n C dX2_tell_64 rfl ?_
        refine zs_getR C dX2_tell_65 zf_X2_11 zk_1 (by decide) (zr_1_1 n) ?_
        refine z_iload_n C dX2_tell_68 rfl ?_
        refine z_iald C dX2_tell_69 zk_2 (by decide) ?_ ?_
        · exact vp_in_iff.mpr (by omega)
        refine zs_iret C E dX2_tell_70 rfl ?_ ?_ ?_
        · unfold zroad
          simp [*]
        · rfl
        · rfl
      by_cases qs35_1 : wh = 1
      · refine z_tabIn (tgt := 71) C dX2_tell_35 (by rw [qs35_1]; decide) (by rw [qs35_1]; decide) (by rw [qs35_1]; rfl) (by decide) ?_
        refine z_aload_n C dX2_tell_71 rfl ?_
        refine zs_getR C dX2_tell_72 zf_X2_15 zk_1 (by decide) (zr_1_2 n) ?_
        refine z_iload_n C dX2_tell_75 rfl ?_
        refine z_iald C dX2_tell_76 zk_3 (by decide) ?_ ?_
        · exact vp_in_iff.mpr (by omega)
        refine zs_iret C E dX2_tell_77 rfl ?_ ?_ ?_
        · unfold zroad
          simp [*]
        · rfl
        · rfl
      by_cases qs35_2 : wh = 2
      · refine z_tabIn (tgt := 78) C dX2_tell_35 (by rw [qs35_2]; decide) (by rw [qs35_2]; decide) (by rw [qs35_2]; rfl) (by decide) ?_
        refine z_aload_n C dX2_tell_78 rfl ?_
        refine zs_getR C dX2_tell_79 zf_X2_18 zk_1 (by decide) (zr_1_3 n) ?_
        refine z_iload_n C dX2_tell_82 rfl ?_
        refine z_iald C dX2_tell_83 zk_4 (by decide) ?_ ?_
        · exact vp_in_iff.mpr (by omega)
        refine zs_iret C E dX2_tell_84 rfl ?_ ?_ ?_
        · unfold zroad
          simp [*]
        · rfl
        · rfl
      by_cases qs35_3 : wh = 3
      · refine z_tabIn (tgt := 85) C dX2_tell_35 (by rw [qs35_3]; decide) (by rw [qs35_3]; decide) (by rw [qs35_3]; rfl) (by decide) ?_
        refine z_aload_n C dX2_tell_85 rfl ?_
        refine zs_getR C dX2_tell_86 zf_X2_21 zk_1 (by decide) (zr_1_4 n) ?_
        refine z_iload_n C dX2_tell_89 rfl ?_
        refine z_iald C dX2_tell_90 zk_5 (by decide) ?_ ?_
        · exact vp_in_iff.mpr (by omega)
        refine zs_iret C E dX2_tell_91 rfl ?_ ?_ ?_
        · unfold zroad
          simp [*]
        · rfl
        · rfl
      have qo : (wh : Int32).toInt < 0 ∨ 3 < (wh : Int32).toInt := by
        have h0 : ¬ (wh : Int32).toInt = 0 := fun z => qs35_0 (Int32.toInt_inj.mp z)
        have h1 : ¬ (wh : Int32).toInt = 1 := fun z => qs35_1 (Int32.toInt_inj.mp z)
        have h2 : ¬ (wh : Int32).toInt = 2 := fun z => qs35_2 (Int32.toInt_inj.mp z)
        have h3 : ¬ (wh : Int32).toInt = 3 := fun z => qs35_3 (Int32.toInt_inj.mp z)
        omega
      refine z_tabOut (tgt := 92) C dX2_tell_35 qo (by decide) ?_
      refine z_iconst (v := (-1)) C dX2_tell_92 (by decide) ?_
      refine zs_iret C E dX2_tell_93 rfl ?_ ?_ ?_
      · unfold zroad
        simp [*]
      · rfl
      · rfl
    · refine z_iconst (v := (-1)) C dX2_tell_32 (by decide) ?_
      refine zs_iret C E dX2_tell_33 rfl ?_ ?_ ?_
      · unfold zroad
        simp [*]
      · rfl
      · rfl
  · refine z_aload_n C dX2_tell_5 rfl ?_
    refine z_iload_n C dX2_tell_6 rfl ?_
    refine zs_callVi C dX2_tell_7 zm_X2_43 zyX2_hasInn (c_hasInn _ _ _ _) zc_2 rfl zk_1 (by decide) (by decide) rfl rfl (Nat.le_of_ble_eq_true rfl) (by decide) (by decide) ?_
    refine zb_if_eq (tgt := 22) C dX2_tell_10 (by decide) (fun q10 => ?_) (fun q10 => ?_)
    · refine z_iconst (v := (-1)) C dX2_tell_22 (by decide) ?_
      refine zs_iret C E dX2_tell_23 rfl ?_ ?_ ?_
      · unfold zroad
        simp [*]
      · rfl
      · rfl
    · refine z_aload_n C dX2_tell_13 rfl ?_
      refine zs_getR C dX2_tell_14 zf_X2_24 zk_1 (by decide) (zr_1_5 n) ?_
      refine z_iload_n C dX2_tell_17 rfl ?_
      refine z_iald C dX2_tell_18 zk_6 (by decide) ?_ ?_
      · exact vp_in_iff.mpr (by omega)
      refine z_goto (tgt := 23) C dX2_tell_19 (by decide) ?_
      refine zs_iret C E dX2_tell_23 rfl ?_ ?_ ?_
      · unfold zroad
        simp [*]
      · rfl
      · rfl

set_option maxRecDepth 4000 in
theorem lp_allMiles (n : Nat) (iv : zI) (lw : zG) (hI : 2 ≤ (iv 1 0).toInt ∧ (iv 1 0).toInt ≤ 8) (m : Nat) (hm : ((m : Nat) : Int) = (iv 1 0).toInt - 1) {X : zX} (C : zC X cX2_allMiles 3 RX2 (some .int) "allMiles" 0 0 0) (E : zEnd X (91 + 3 * n) 0 0 (zQ n (zQi (zsum (iv 2) m) iv lw))) : ∀ (k : Nat) (i : Nat), i + k = m → zJs X n 3 4 [some (.ref 1), some (.int (zsum (iv 2) i)), some (.int (nI i))] [] iv lw := by
  intro k
  induction k with
  | zero =>
    intro i hk
    refine z_iload_n C dX2_allMiles_4 rfl ?_
    refine z_aload_n C dX2_allMiles_5 rfl ?_
    refine z_getI C dX2_allMiles_6 zf_X2_27 zk_1 (by decide) ?_
    refine z_iconst (v := 1) C dX2_allMiles_9 (by decide) ?_
    refine z_isub C dX2_allMiles_10 ?_
    refine zt_icmp_ge (tgt := 29) C dX2_allMiles_11 (nI_toInt (by omega)) (zt_m1 (by omega)) (by decide) (fun q11 => ?_) (fun q11 => ?_)
    · refine z_iload_n C dX2_allMiles_29 rfl ?_
      refine zs_iret C E dX2_allMiles_30 rfl ?_ ?_ ?_
      · rw [show i = m by omega]
      · rfl
      · rfl
    · exfalso; omega
  | succ k ih =>
    intro i hk
    refine z_iload_n C dX2_allMiles_4 rfl ?_
    refine z_aload_n C dX2_allMiles_5 rfl ?_
    refine z_getI C dX2_allMiles_6 zf_X2_27 zk_1 (by decide) ?_
    refine z_iconst (v := 1) C dX2_allMiles_9 (by decide) ?_
    refine z_isub C dX2_allMiles_10 ?_
    refine zt_icmp_ge (tgt := 29) C dX2_allMiles_11 (nI_toInt (by omega)) (zt_m1 (by omega)) (by decide) (fun q11 => ?_) (fun q11 => ?_)
    · exfalso; omega
    · refine z_iload_n C dX2_allMiles_14 rfl ?_
      refine z_aload_n C dX2_allMiles_15 rfl ?_
      refine zs_getR C dX2_allMiles_16 zf_X2_11 zk_1 (by decide) (zr_1_1 n) ?_
      refine z_iload_n C dX2_allMiles_19 rfl ?_
      refine z_iald C dX2_allMiles_20 zk_2 (by decide) ?_ ?_
      · exact vp_in_nI (by omega) (by decide)
      refine z_iadd C dX2_allMiles_21 ?_
      refine z_istore_n (lv' := [some (.ref 1), some (.int _), some (.int _)]) C dX2_allMiles_22 (by decide) rfl ?_
      refine z_iinc (y := 1) (lv' := [some (.ref 1), some (.int _), some (.int _)]) C dX2_allMiles_23 rfl (by decide) (by decide) rfl ?_
      refine z_goto (tgt := 4) C dX2_allMiles_26 (by decide) ?_
      rw [nI_clamp (by omega), nI_1 i, show zsum (iv 2) i + iv 2 i = zsum (iv 2) (i + 1) from rfl]
      exact ih (i + 1) (by omega)

set_option maxRecDepth 4000 in
theorem c_allMiles (n : Nat) (iv : zI) (lw : zG) (hI : 2 ≤ (iv 1 0).toInt ∧ (iv 1 0).toInt ≤ 8) (m : Nat) (hm : ((m : Nat) : Int) = (iv 1 0).toInt - 1) : zMi yX2_allMiles cX2_allMiles 3 (some .int) 0 [.ref 1] n iv lw (zsum (iv 2) m) iv lw := by
  refine zM.of (by decide) (Nat.le_of_ble_eq_true rfl) (fun X C E => ?_)
  change zJs X n 3 0 [some (.ref 1), none, none] [] iv lw
  refine z_iconst (v := 0) C dX2_allMiles_0 (by decide) ?_
  refine z_istore_n (lv' := [some (.ref 1), some (.int _), none]) C dX2_allMiles_1 (by decide) rfl ?_
  refine z_iconst (v := 0) C dX2_allMiles_2 (by decide) ?_
  refine z_istore_n (lv' := [some (.ref 1), some (.int _), some (.int _)]) C dX2_allMiles_3 (by decide) rfl ?_
  exact lp_allMiles n iv lw hI m hm C E m 0 (by omega)

set_option maxRecDepth 4000 in
theorem lp_milesOf (n : Nat) (iv : zI) (lw : zG) (hI : 2 ≤ (iv 1 0).toInt ∧ (iv 1 0).toInt ≤ 8) (wo : Int32) (m : Nat) (hm : ((m : Nat) : Int) = (iv 1 0).toInt - 1) {X : zX} (C : zC X cX2_milesOf 4 RX2 (some .int) "milesOf" 0 0 0) (E : zEnd X (91 + 3 * n) 0 0 (zQ n (zQi (zsum (fun j => if iv 5 j = wo then iv 2 j else 0) m) iv lw))) : ∀ (k : Nat) (i : Nat), i + k = m → zJs X n 4 4 [some (.ref 1), some (.int wo), some (.int (zsum (fun j => if iv 5 j = wo then iv 2 j else 0) i)), some (.int (nI i))] [] iv lw := by
  intro k
  induction k with
  | zero =>
    intro i hk
    refine z_iload_n C dX2_milesOf_4 rfl ?_
    refine z_aload_n C dX2_milesOf_5 rfl ?_
    refine z_getI C dX2_milesOf_6 zf_X2_27 zk_1 (by decide) ?_
    refine z_iconst (v := 1) C dX2_milesOf_9 (by decide) ?_
    refine z_isub C dX2_milesOf_10 ?_
    refine zt_icmp_ge (tgt := 43) C dX2_milesOf_11 (nI_toInt (by omega)) (zt_m1 (by omega)) (by decide) (fun q11 => ?_) (fun q11 => ?_)
    · refine z_iload_n C dX2_milesOf_43 rfl ?_
      refine zs_iret C E dX2_milesOf_44 rfl ?_ ?_ ?_
      · rw [show i = m by omega]
      · rfl
      · rfl
    · exfalso; omega
  | succ k ih =>
    intro i hk
    refine z_iload_n C dX2_milesOf_4 rfl ?_
    refine z_aload_n C dX2_milesOf_5 rfl ?_
    refine z_getI C dX2_milesOf_6 zf_X2_27 zk_1 (by decide) ?_
    refine z_iconst (v := 1) C dX2_milesOf_9 (by decide) ?_
    refine z_isub C dX2_milesOf_10 ?_
    refine zt_icmp_ge (tgt := 43) C dX2_milesOf_11 (nI_toInt (by omega)) (zt_m1 (by omega)) (by decide) (fun q11 => ?_) (fun q11 => ?_)
    · exfalso; omega
    · refine z_iload_n C dX2_milesOf_14 rfl ?_
      refine z_aload_n C dX2_milesOf_15 rfl ?_
      refine zs_getR C dX2_milesOf_16 zf_X2_21 zk_1 (by decide) (zr_1_4 n) ?_
      refine z_iload_n C dX2_milesOf_19 rfl ?_
      refine z_iald C dX2_milesOf_20 zk_5 (by decide) ?_ ?_
      · exact vp_in_nI (by omega) (by decide)
      refine z_iload_n C dX2_milesOf_21 rfl ?_
      refine z_icmp_ne (tgt := 34) C dX2_milesOf_22 (by decide) (fun q22 => ?_) (fun q22 => ?_)
      · rw [nI_clamp (by omega)] at q22
        refine z_iconst (v := 0) C dX2_milesOf_34 (by decide) ?_
        refine z_iadd C dX2_milesOf_35 ?_
        refine z_istore_n (lv' := [some (.ref 1), some (.int wo), some (.int _), some (.int _)]) C dX2_milesOf_36 (by decide) rfl ?_
        refine z_iinc (y := 1) (lv' := [some (.ref 1), some (.int wo), some (.int _), some (.int _)]) C dX2_milesOf_37 rfl (by decide) (by decide) rfl ?_
        refine z_goto (tgt := 4) C dX2_milesOf_40 (by decide) ?_
        first
          | (rw [nI_1 i, show zsum (fun j => if iv 5 j = wo then iv 2 j else 0) i + 0 = zsum (fun j => if iv 5 j = wo then iv 2 j else 0) (i + 1) by rw [zsum, if_neg q22]]; exact ih (i + 1) (by omega))
          | (rw [nI_clamp (by omega), nI_1 i, show zsum (fun j => if iv 5 j = wo then iv 2 j else 0) i + iv 2 i = zsum (fun j => if iv 5 j = wo then iv 2 j else 0) (i + 1) by rw [zsum, if_pos q22]]; exact ih (i + 1) (by omega))
      · rw [nI_clamp (by omega)] at q22
        refine z_aload_n C dX2_milesOf_25 rfl ?_
        refine zs_getR C dX2_milesOf_26 zf_X2_11 zk_1 (by decide) (zr_1_1 n) ?_
        refine z_iload_n C dX2_milesOf_29 rfl ?_
        refine z_iald C dX2_milesOf_30 zk_2 (by decide) ?_ ?_
        · exact vp_in_nI (by omega) (by decide)
        refine z_goto (tgt := 35) C dX2_milesOf_31 (by decide) ?_
        refine z_iadd C dX2_milesOf_35 ?_
        refine z_istore_n (lv' := [some (.ref 1), some (.int wo), some (.int _), some (.int _)]) C dX2_milesOf_36 (by decide) rfl ?_
        refine z_iinc (y := 1) (lv' := [some (.ref 1), some (.int wo), some (.int _), some (.int _)]) C dX2_milesOf_37 rfl (by decide) (by decide) rfl ?_
        refine z_goto (tgt := 4) C dX2_milesOf_40 (by decide) ?_
        first
          | (rw [nI_1 i, show zsum (fun j => if iv 5 j = wo then iv 2 j else 0) i + 0 = zsum (fun j => if iv 5 j = wo then iv 2 j else 0) (i + 1) by rw [zsum, if_neg q22]]; exact ih (i + 1) (by omega))
          | (rw [nI_clamp (by omega), nI_1 i, show zsum (fun j => if iv 5 j = wo then iv 2 j else 0) i + iv 2 i = zsum (fun j => if iv 5 j = wo then iv 2 j else 0) (i + 1) by rw [zsum, if_pos q22]]; exact ih (i + 1) (by omega))

set_option maxRecDepth 4000 in
theorem c_milesOf (n : Nat) (iv : zI) (lw : zG) (hI : 2 ≤ (iv 1 0).toInt ∧ (iv 1 0).toInt ≤ 8) (wo : Int32) (m : Nat) (hm : ((m : Nat) : Int) = (iv 1 0).toInt - 1) : zMi yX2_milesOf cX2_milesOf 4 (some .int) 0 [.ref 1, .int wo] n iv lw (zsum (fun j => if iv 5 j = wo then iv 2 j else 0) m) iv lw := by
  refine zM.of (by decide) (Nat.le_of_ble_eq_true rfl) (fun X C E => ?_)
  change zJs X n 4 0 [some (.ref 1), some (.int wo), none, none] [] iv lw
  refine z_iconst (v := 0) C dX2_milesOf_0 (by decide) ?_
  refine z_istore_n (lv' := [some (.ref 1), some (.int wo), some (.int _), none]) C dX2_milesOf_1 (by decide) rfl ?_
  refine z_iconst (v := 0) C dX2_milesOf_2 (by decide) ?_
  refine z_istore_n (lv' := [some (.ref 1), some (.int wo), some (.int _), some (.int _)]) C dX2_milesOf_3 (by decide) rfl ?_
  exact lp_milesOf n iv lw hI wo m hm C E m 0 (by omega)
