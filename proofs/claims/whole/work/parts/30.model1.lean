set_option maxRecDepth 4000 in
theorem m_isInn (n : Nat) (iv : zI) (lw : zG) (inn : Int32) : zMi yX10_isInn cX10_isInn 2 (some .boolean) 0 [.ref 41, .int inn] n iv lw (zb (0 ≤ inn.toInt ∧ inn.toInt < (iv 41 1).toInt)) iv lw := by
  refine zM.of (by decide) (Nat.le_of_ble_eq_true rfl) (fun X C E => ?_)
  change zJs X n 2 0 [some (.ref 41), some (.int inn)] [] iv lw
  refine z_iload_n C dX10_isInn_0 rfl ?_
  refine zt_if_lt (tgt := 16) C dX10_isInn_1 rfl (by decide) (fun q1 => ?_) (fun q1 => ?_)
  · refine z_iconst (v := 0) C dX10_isInn_16 (by decide) ?_
    refine zs_iret C E dX10_isInn_17 rfl ?_ ?_ ?_
    · exact (zb_f (by omega)).symm
    · rfl
    · rfl
  · refine z_iload_n C dX10_isInn_4 rfl ?_
    refine z_aload_n C dX10_isInn_5 rfl ?_
    refine z_getI C dX10_isInn_6 zf_X10_7 zk_41 (by decide) ?_
    refine zt_icmp_ge (tgt := 16) C dX10_isInn_9 rfl rfl (by decide) (fun q9 => ?_) (fun q9 => ?_)
    · refine z_iconst (v := 0) C dX10_isInn_16 (by decide) ?_
      refine zs_iret C E dX10_isInn_17 rfl ?_ ?_ ?_
      · exact (zb_f (by omega)).symm
      · rfl
      · rfl
    · refine z_iconst (v := 1) C dX10_isInn_12 (by decide) ?_
      refine z_goto (tgt := 17) C dX10_isInn_13 (by decide) ?_
      refine zs_iret C E dX10_isInn_17 rfl ?_ ?_ ?_
      · exact (zb_t (by omega)).symm
      · rfl
      · rfl

set_option maxRecDepth 4000 in
theorem m_isStage (n : Nat) (iv : zI) (lw : zG) (sg : Int32) (hI : 2 ≤ (iv 41 1).toInt ∧ (iv 41 1).toInt ≤ 8) : zMi yX10_isStage cX10_isStage 2 (some .boolean) 0 [.ref 41, .int sg] n iv lw (zb (0 ≤ sg.toInt ∧ sg.toInt < (iv 41 1).toInt - 1)) iv lw := by
  refine zM.of (by decide) (Nat.le_of_ble_eq_true rfl) (fun X C E => ?_)
  change zJs X n 2 0 [some (.ref 41), some (.int sg)] [] iv lw
  refine z_iload_n C dX10_isStage_0 rfl ?_
  refine zt_if_lt (tgt := 18) C dX10_isStage_1 rfl (by decide) (fun q1 => ?_) (fun q1 => ?_)
  · refine z_iconst (v := 0) C dX10_isStage_18 (by decide) ?_
    refine zs_iret C E dX10_isStage_19 rfl ?_ ?_ ?_
    · exact (zb_f (by omega)).symm
    · rfl
    · rfl
  · refine z_iload_n C dX10_isStage_4 rfl ?_
    refine z_aload_n C dX10_isStage_5 rfl ?_
    refine z_getI C dX10_isStage_6 zf_X10_7 zk_41 (by decide) ?_
    refine z_iconst (v := 1) C dX10_isStage_9 (by decide) ?_
    refine z_isub C dX10_isStage_10 ?_
    refine zt_icmp_ge (tgt := 18) C dX10_isStage_11 rfl (zt_m1 (by omega)) (by decide) (fun q11 => ?_) (fun q11 => ?_)
    · refine z_iconst (v := 0) C dX10_isStage_18 (by decide) ?_
      refine zs_iret C E dX10_isStage_19 rfl ?_ ?_ ?_
      · exact (zb_f (by omega)).symm
      · rfl
      · rfl
    · refine z_iconst (v := 1) C dX10_isStage_14 (by decide) ?_
      refine z_goto (tgt := 19) C dX10_isStage_15 (by decide) ?_
      refine zs_iret C E dX10_isStage_19 rfl ?_ ?_ ?_
      · exact (zb_t (by omega)).symm
      · rfl
      · rfl

set_option maxRecDepth 4000 in
theorem m_canBe (n : Nat) (iv : zI) (lw : zG) (mi cl ma : Int32) : zMi yX10_canBe cX10_canBe 3 (some .boolean) 0 [.int mi, .int cl, .int ma] n iv lw (zb (1 ≤ mi.toInt ∧ mi.toInt ≤ 20 ∧ 0 ≤ cl.toInt ∧ cl.toInt ≤ 9 ∧ 0 ≤ ma.toInt ∧ ma.toInt ≤ 3)) iv lw := by
  refine zM.of (by decide) (Nat.le_of_ble_eq_true rfl) (fun X C E => ?_)
  change zJs X n 3 0 [some (.int mi), some (.int cl), some (.int ma)] [] iv lw
  refine z_iload_n C dX10_canBe_0 rfl ?_
  refine z_iconst (v := 1) C dX10_canBe_1 (by decide) ?_
  refine zt_icmp_lt (tgt := 34) C dX10_canBe_2 rfl (show (1 : Int32).toInt = 1 by decide) (by decide) (fun q2 => ?_) (fun q2 => ?_)
  · refine z_iconst (v := 0) C dX10_canBe_34 (by decide) ?_
    refine zs_iret C E dX10_canBe_35 rfl ?_ ?_ ?_
    · exact (zb_f (by omega)).symm
    · rfl
    · rfl
  · refine z_iload_n C dX10_canBe_5 rfl ?_
    refine z_bipush (v := 20) C dX10_canBe_6 (by decide) ?_
    refine zt_icmp_gt (tgt := 34) C dX10_canBe_8 rfl (show (20 : Int32).toInt = 20 by decide) (by decide) (fun q8 => ?_) (fun q8 => ?_)
    · refine z_iconst (v := 0) C dX10_canBe_34 (by decide) ?_
      refine zs_iret C E dX10_canBe_35 rfl ?_ ?_ ?_
      · exact (zb_f (by omega)).symm
      · rfl
      · rfl
    · refine z_iload_n C dX10_canBe_11 rfl ?_
      refine zt_if_lt (tgt := 34) C dX10_canBe_12 rfl (by decide) (fun q12 => ?_) (fun q12 => ?_)
      · refine z_iconst (v := 0) C dX10_canBe_34 (by decide) ?_
        refine zs_iret C E dX10_canBe_35 rfl ?_ ?_ ?_
        · exact (zb_f (by omega)).symm
        · rfl
        · rfl
      · refine z_iload_n C dX10_canBe_15 rfl ?_
        refine z_bipush (v := 9) C dX10_canBe_16 (by decide) ?_
        refine zt_icmp_gt (tgt := 34) C dX10_canBe_18 rfl (show (9 : Int32).toInt = 9 by decide) (by decide) (fun q18 => ?_) (fun q18 => ?_)
        · refine z_iconst (v := 0) C dX10_canBe_34 (by decide) ?_
          refine zs_iret C E dX10_canBe_35 rfl ?_ ?_ ?_
          · exact (zb_f (by omega)).symm
          · rfl
          · rfl
        · refine z_iload_n C dX10_canBe_21 rfl ?_
          refine zt_if_lt (tgt := 34) C dX10_canBe_22 rfl (by decide) (fun q22 => ?_) (fun q22 => ?_)
          · refine z_iconst (v := 0) C dX10_canBe_34 (by decide) ?_
            refine zs_iret C E dX10_canBe_35 rfl ?_ ?_ ?_
            · exact (zb_f (by omega)).symm
            · rfl
            · rfl
          · refine z_iload_n C dX10_canBe_25 rfl ?_
            refine z_iconst (v := 3) C dX10_canBe_26 (by decide) ?_
            refine zt_icmp_gt (tgt := 34) C dX10_canBe_27 rfl (show (3 : Int32).toInt = 3 by decide) (by decide) (fun q27 => ?_) (fun q27 => ?_)
            · refine z_iconst (v := 0) C dX10_canBe_34 (by decide) ?_
              refine zs_iret C E dX10_canBe_35 rfl ?_ ?_ ?_
              · exact (zb_f (by omega)).symm
              · rfl
              · rfl
            · refine z_iconst (v := 1) C dX10_canBe_30 (by decide) ?_
              refine z_goto (tgt := 35) C dX10_canBe_31 (by decide) ?_
              refine zs_iret C E dX10_canBe_35 rfl ?_ ?_ ?_
              · exact (zb_t (by omega)).symm
              · rfl
              · rfl

def zmlay (iv : zI) (k : Nat) (mi cl ma : Int32) : zI := zu (zu (zu iv 42 k mi) 43 k cl) 45 k ma

set_option maxRecDepth 4000 in
theorem m_lay (n : Nat) (iv : zI) (lw : zG) (k mi cl ma : Int32) (hs : vp_in k 8) : zMv yX10_lay cX10_lay 5 none 0 [.ref 41, .int k, .int mi, .int cl, .int ma] n iv lw (zmlay iv k.toNatClampNeg mi cl ma) lw := by
  refine zM.of (by decide) (Nat.le_of_ble_eq_true rfl) (fun X C E => ?_)
  change zJs X n 5 0 [some (.ref 41), some (.int k), some (.int mi), some (.int cl), some (.int ma)] [] iv lw
  refine z_aload_n C dX10_lay_0 rfl ?_
  refine zs_getR C dX10_lay_1 zf_X10_13 zk_41 (by decide) (zr_41_2 n) ?_
  refine z_iload_n C dX10_lay_4 rfl ?_
  refine z_iload_n C dX10_lay_5 rfl ?_
  refine z_iast C dX10_lay_6 zk_42 (by decide) ?_ ?_
  · exact hs
  refine z_aload_n C dX10_lay_7 rfl ?_
  refine zs_getR C dX10_lay_8 zf_X10_17 zk_41 (by decide) (zr_41_3 n) ?_
  refine z_iload_n C dX10_lay_11 rfl ?_
  refine z_iload_n C dX10_lay_12 rfl ?_
  refine z_iast C dX10_lay_13 zk_43 (by decide) ?_ ?_
  · exact hs
  refine z_aload_n C dX10_lay_14 rfl ?_
  refine zs_getR C dX10_lay_15 zf_X10_23 zk_41 (by decide) (zr_41_5 n) ?_
  refine z_iload_n C dX10_lay_18 rfl ?_
  refine z_iload C dX10_lay_19 rfl ?_
  refine z_iast C dX10_lay_21 zk_45 (by decide) ?_ ?_
  · exact hs
  refine zs_vret C E dX10_lay_22 ?_ rfl
  rfl

set_option maxRecDepth 4000 in
theorem m_stage (n : Nat) (iv : zI) (lw : zG) (mi cl ma : Int32) (hI : 2 ≤ (iv 41 1).toInt ∧ (iv 41 1).toInt ≤ 8) : zMi yX10_stage cX10_stage 4 (some .int) 1 [.ref 41, .int mi, .int cl, .int ma] n iv lw (if (¬ iv 41 1 = 8 ∧ ¬ 0 < (iv 41 11).toInt ∧ (1 ≤ mi.toInt ∧ mi.toInt ≤ 20 ∧ 0 ≤ cl.toInt ∧ cl.toInt ≤ 9 ∧ 0 ≤ ma.toInt ∧ ma.toInt ≤ 3)) then iv 41 1 else -1) (if (¬ iv 41 1 = 8 ∧ ¬ 0 < (iv 41 11).toInt ∧ (1 ≤ mi.toInt ∧ mi.toInt ≤ 20 ∧ 0 ≤ cl.toInt ∧ cl.toInt ≤ 9 ∧ 0 ≤ ma.toInt ∧ ma.toInt ≤ 3)) then zu (zmlay iv (iv 41 1 - 1).toNatClampNeg mi cl ma) 41 1 (iv 41 1 + 1) else iv) lw := by
  refine zM.of (by decide) (Nat.le_of_ble_eq_true rfl) (fun X C E => ?_)
  change zJs X n 4 0 [some (.ref 41), some (.int mi), some (.int cl), some (.int ma)] [] iv lw
  refine z_aload_n C dX10_stage_0 rfl ?_
  refine z_getI C dX10_stage_1 zf_X10_7 zk_41 (by decide) ?_
  refine z_bipush (v := 8) C dX10_stage_4 (by decide) ?_
  refine z_icmp_eq (tgt := 25) C dX10_stage_6 (by decide) (fun q6 => ?_) (fun q6 => ?_)
  · refine z_iconst (v := (-1)) C dX10_stage_25 (by decide) ?_
    refine zs_iret C E dX10_stage_26 rfl ?_ ?_ ?_
    · exact (if_neg (fun z => by first | exact z.1 q6 | (have := z.2; omega))).symm
    · exact (if_neg (fun z => by first | exact z.1 q6 | (have := z.2; omega))).symm
    · rfl
  · refine z_aload_n C dX10_stage_9 rfl ?_
    refine z_getI C dX10_stage_10 zf_X10_165 zk_41 (by decide) ?_
    refine zt_if_gt (tgt := 25) C dX10_stage_13 rfl (by decide) (fun q13 => ?_) (fun q13 => ?_)
    · refine z_iconst (v := (-1)) C dX10_stage_25 (by decide) ?_
      refine zs_iret C E dX10_stage_26 rfl ?_ ?_ ?_
      · exact (if_neg (fun z => by first | exact z.1 q6 | (have := z.2; omega))).symm
      · exact (if_neg (fun z => by first | exact z.1 q6 | (have := z.2; omega))).symm
      · rfl
    · refine z_iload_n C dX10_stage_16 rfl ?_
      refine z_iload_n C dX10_stage_17 rfl ?_
      refine z_iload_n C dX10_stage_18 rfl ?_
      refine zs_callSi C dX10_stage_19 zm_X10_168 zyX10_canBe (m_canBe _ _ _ _ _ _) (by decide) rfl rfl (Nat.le_of_ble_eq_true rfl) (by decide) (by decide) ?_
      refine zb_if_ne (tgt := 27) C dX10_stage_22 (by decide) (fun q22 => ?_) (fun q22 => ?_)
      · refine z_aload_n C dX10_stage_27 rfl ?_
        refine z_aload_n C dX10_stage_28 rfl ?_
        refine z_getI C dX10_stage_29 zf_X10_7 zk_41 (by decide) ?_
        refine z_iconst (v := 1) C dX10_stage_32 (by decide) ?_
        refine z_isub C dX10_stage_33 ?_
        refine z_iload_n C dX10_stage_34 rfl ?_
        refine z_iload_n C dX10_stage_35 rfl ?_
        refine z_iload_n C dX10_stage_36 rfl ?_
        refine zs_callVv C dX10_stage_37 zm_X10_172 zyX10_lay (m_lay _ _ _ _ _ _ _ (vp_in_iff.mpr (by rw [zt_m1 (by omega)]; omega))) zc_10 rfl zk_41 (by decide) (by decide) rfl rfl (Nat.le_of_ble_eq_true rfl) (by decide) (by decide) ?_
        refine z_aload_n C dX10_stage_40 rfl ?_
        refine z_dup C dX10_stage_41 rfl ?_
        refine z_getI C dX10_stage_42 zf_X10_7 zk_41 (by decide) ?_
        refine z_iconst (v := 1) C dX10_stage_45 (by decide) ?_
        refine z_iadd C dX10_stage_46 ?_
        refine z_putI C dX10_stage_47 zf_X10_7 zk_41 (by decide) ?_
        refine z_aload_n C dX10_stage_50 rfl ?_
        refine z_getI C dX10_stage_51 zf_X10_7 zk_41 (by decide) ?_
        refine z_iconst (v := 1) C dX10_stage_54 (by decide) ?_
        refine z_isub C dX10_stage_55 ?_
        refine zs_iret C E dX10_stage_56 rfl ?_ ?_ ?_
        · rw [if_pos ⟨q6, by omega, by omega⟩]
          exact zpm _
        · rw [if_pos ⟨q6, by omega, by omega⟩]
          rfl
        · rfl
      · refine z_iconst (v := (-1)) C dX10_stage_25 (by decide) ?_
        refine zs_iret C E dX10_stage_26 rfl ?_ ?_ ?_
        · exact (if_neg (fun z => by first | exact z.1 q6 | (have := z.2; omega))).symm
        · exact (if_neg (fun z => by first | exact z.1 q6 | (have := z.2; omega))).symm
        · rfl

set_option maxRecDepth 4000 in
theorem m_first (n : Nat) (iv : zI) (lw : zG) (mi cl ma : Int32) : zMi yX10_first cX10_first 4 (some .boolean) 1 [.ref 41, .int mi, .int cl, .int ma] n iv lw (zb (¬ 0 < (iv 41 11).toInt ∧ (1 ≤ mi.toInt ∧ mi.toInt ≤ 20 ∧ 0 ≤ cl.toInt ∧ cl.toInt ≤ 9 ∧ 0 ≤ ma.toInt ∧ ma.toInt ≤ 3))) (if (¬ 0 < (iv 41 11).toInt ∧ (1 ≤ mi.toInt ∧ mi.toInt ≤ 20 ∧ 0 ≤ cl.toInt ∧ cl.toInt ≤ 9 ∧ 0 ≤ ma.toInt ∧ ma.toInt ≤ 3)) then zmlay iv 0 mi cl ma else iv) lw := by
  refine zM.of (by decide) (Nat.le_of_ble_eq_true rfl) (fun X C E => ?_)
  change zJs X n 4 0 [some (.ref 41), some (.int mi), some (.int cl), some (.int ma)] [] iv lw
  refine z_aload_n C dX10_first_0 rfl ?_
  refine z_getI C dX10_first_1 zf_X10_165 zk_41 (by decide) ?_
  refine zt_if_gt (tgt := 16) C dX10_first_4 rfl (by decide) (fun q4 => ?_) (fun q4 => ?_)
  · refine z_iconst (v := 0) C dX10_first_16 (by decide) ?_
    refine zs_iret C E dX10_first_17 rfl ?_ ?_ ?_
    · exact (zb_f (by omega)).symm
    · exact (if_neg (by omega)).symm
    · rfl
  · refine z_iload_n C dX10_first_7 rfl ?_
    refine z_iload_n C dX10_first_8 rfl ?_
    refine z_iload_n C dX10_first_9 rfl ?_
    refine zs_callSi C dX10_first_10 zm_X10_168 zyX10_canBe (m_canBe _ _ _ _ _ _) (by decide) rfl rfl (Nat.le_of_ble_eq_true rfl) (by decide) (by decide) ?_
    refine zb_if_ne (tgt := 18) C dX10_first_13 (by decide) (fun q13 => ?_) (fun q13 => ?_)
    · refine z_aload_n C dX10_first_18 rfl ?_
      refine z_iconst (v := 0) C dX10_first_19 (by decide) ?_
      refine z_iload_n C dX10_first_20 rfl ?_
      refine z_iload_n C dX10_first_21 rfl ?_
      refine z_iload_n C dX10_first_22 rfl ?_
      refine zs_callVv C dX10_first_23 zm_X10_172 zyX10_lay (m_lay _ _ _ 0 _ _ _ (vp_in_iff.mpr (by decide))) zc_10 rfl zk_41 (by decide) (by decide) rfl rfl (Nat.le_of_ble_eq_true rfl) (by decide) (by decide) ?_
      refine z_iconst (v := 1) C dX10_first_26 (by decide) ?_
      refine zs_iret C E dX10_first_27 rfl ?_ ?_ ?_
      · exact (zb_t (by omega)).symm
      · exact (if_pos (by omega)).symm
      · rfl
    · refine z_iconst (v := 0) C dX10_first_16 (by decide) ?_
      refine zs_iret C E dX10_first_17 rfl ?_ ?_ ?_
      · exact (zb_f (by omega)).symm
      · exact (if_neg (by omega)).symm
      · rfl

set_option maxRecDepth 4000 in
theorem m_mud (n : Nat) (iv : zI) (lw : zG) (sg de : Int32) (hI : 2 ≤ (iv 41 1).toInt ∧ (iv 41 1).toInt ≤ 8) : zMi yX10_mud cX10_mud 3 (some .boolean) 1 [.ref 41, .int sg, .int de] n iv lw (zb (0 ≤ sg.toInt ∧ sg.toInt < (iv 41 1).toInt - 1 ∧ 0 ≤ de.toInt ∧ de.toInt ≤ 9)) (if (0 ≤ sg.toInt ∧ sg.toInt < (iv 41 1).toInt - 1 ∧ 0 ≤ de.toInt ∧ de.toInt ≤ 9) then zu iv 44 sg.toNatClampNeg de else iv) lw := by
  refine zM.of (by decide) (Nat.le_of_ble_eq_true rfl) (fun X C E => ?_)
  change zJs X n 3 0 [some (.ref 41), some (.int sg), some (.int de)] [] iv lw
  refine z_aload_n C dX10_mud_0 rfl ?_
  refine z_iload_n C dX10_mud_1 rfl ?_
  refine zs_callVi C dX10_mud_2 zm_X10_176 zyX10_isStage (m_isStage _ _ _ _ hI) zc_10 rfl zk_41 (by decide) (by decide) rfl rfl (Nat.le_of_ble_eq_true rfl) (by decide) (by decide) ?_
  refine zb_if_eq (tgt := 18) C dX10_mud_5 (by decide) (fun q5 => ?_) (fun q5 => ?_)
  · refine z_iconst (v := 0) C dX10_mud_18 (by decide) ?_
    refine zs_iret C E dX10_mud_19 rfl ?_ ?_ ?_
    · exact (zb_f (by omega)).symm
    · exact (if_neg (by omega)).symm
    · rfl
  · refine z_iload_n C dX10_mud_8 rfl ?_
    refine zt_if_lt (tgt := 18) C dX10_mud_9 rfl (by decide) (fun q9 => ?_) (fun q9 => ?_)
    · refine z_iconst (v := 0) C dX10_mud_18 (by decide) ?_
      refine zs_iret C E dX10_mud_19 rfl ?_ ?_ ?_
      · exact (zb_f (by omega)).symm
      · exact (if_neg (by omega)).symm
      · rfl
    · refine z_iload_n C dX10_mud_12 rfl ?_
      refine z_bipush (v := 9) C dX10_mud_13 (by decide) ?_
      refine zt_icmp_le (tgt := 20) C dX10_mud_15 rfl (show (9 : Int32).toInt = 9 by decide) (by decide) (fun q15 => ?_) (fun q15 => ?_)
      · refine z_aload_n C dX10_mud_20 rfl ?_
        refine zs_getR C dX10_mud_21 zf_X10_20 zk_41 (by decide) (zr_41_4 n) ?_
        refine z_iload_n C dX10_mud_24 rfl ?_
        refine z_iload_n C dX10_mud_25 rfl ?_
        refine z_iast C dX10_mud_26 zk_44 (by decide) ?_ ?_
        · exact vp_in_iff.mpr (by omega)
        refine z_iconst (v := 1) C dX10_mud_27 (by decide) ?_
        refine zs_iret C E dX10_mud_28 rfl ?_ ?_ ?_
        · exact (zb_t (by omega)).symm
        · exact (if_pos (by omega)).symm
        · rfl
      · refine z_iconst (v := 0) C dX10_mud_18 (by decide) ?_
        refine zs_iret C E dX10_mud_19 rfl ?_ ?_ ?_
        · exact (zb_f (by omega)).symm
        · exact (if_neg (by omega)).symm
        · rfl

set_option maxRecDepth 4000 in
theorem m_oats (n : Nat) (iv : zI) (lw : zG) (inn am : Int32) (hI : 2 ≤ (iv 41 1).toInt ∧ (iv 41 1).toInt ≤ 8) (hO : ∀ k, k < 8 → 0 ≤ (iv 46 k).toInt ∧ (iv 46 k).toInt ≤ 100000) : zMi yX10_oats cX10_oats 3 (some .boolean) 1 [.ref 41, .int inn, .int am] n iv lw (zb (0 ≤ inn.toInt ∧ inn.toInt < (iv 41 1).toInt ∧ 0 ≤ am.toInt ∧ am.toInt ≤ 100000 - (iv 46 inn.toNatClampNeg).toInt)) (if (0 ≤ inn.toInt ∧ inn.toInt < (iv 41 1).toInt ∧ 0 ≤ am.toInt ∧ am.toInt ≤ 100000 - (iv 46 inn.toNatClampNeg).toInt) then zu iv 46 inn.toNatClampNeg (iv 46 inn.toNatClampNeg + am) else iv) lw := by
  refine zM.of (by decide) (Nat.le_of_ble_eq_true rfl) (fun X C E => ?_)
  change zJs X n 3 0 [some (.ref 41), some (.int inn), some (.int am)] [] iv lw
  refine z_aload_n C dX10_oats_0 rfl ?_
  refine z_iload_n C dX10_oats_1 rfl ?_
  refine zs_callVi C dX10_oats_2 zm_X10_180 zyX10_isInn (m_isInn _ _ _ _) zc_10 rfl zk_41 (by decide) (by decide) rfl rfl (Nat.le_of_ble_eq_true rfl) (by decide) (by decide) ?_
  refine zb_if_eq (tgt := 25) C dX10_oats_5 (by decide) (fun q5 => ?_) (fun q5 => ?_)
  · refine z_iconst (v := 0) C dX10_oats_25 (by decide) ?_
    refine zs_iret C E dX10_oats_26 rfl ?_ ?_ ?_
    · exact (zb_f (by omega)).symm
    · exact (if_neg (by omega)).symm
    · rfl
  · refine z_iload_n C dX10_oats_8 rfl ?_
    refine zt_if_lt (tgt := 25) C dX10_oats_9 rfl (by decide) (fun q9 => ?_) (fun q9 => ?_)
    · refine z_iconst (v := 0) C dX10_oats_25 (by decide) ?_
      refine zs_iret C E dX10_oats_26 rfl ?_ ?_ ?_
      · exact (zb_f (by omega)).symm
      · exact (if_neg (by omega)).symm
      · rfl
    · refine z_iload_n C dX10_oats_12 rfl ?_
      have hq := hO inn.toNatClampNeg (by have := zcl_int q5.1; omega)
      refine z_ldc C dX10_oats_13 zk_X10_183 ?_
      refine z_aload_n C dX10_oats_15 rfl ?_
      refine zs_getR C dX10_oats_16 zf_X10_26 zk_41 (by decide) (zr_41_6 n) ?_
      refine z_iload_n C dX10_oats_19 rfl ?_
      refine z_iald C dX10_oats_20 zk_46 (by decide) ?_ ?_
      · exact vp_in_iff.mpr (by omega)
      refine z_isub C dX10_oats_21 ?_
      refine zt_icmp_le (tgt := 27) C dX10_oats_22 rfl (zt_sub (by rw [show (100000 : Int32).toInt = 100000 by decide]; omega) (by rw [show (100000 : Int32).toInt = 100000 by decide]; omega)) (by decide) (fun q22 => ?_) (fun q22 => ?_)
      · rw [show (100000 : Int32).toInt = 100000 by decide] at q22
        refine z_aload_n C dX10_oats_27 rfl ?_
        refine zs_getR C dX10_oats_28 zf_X10_26 zk_41 (by decide) (zr_41_6 n) ?_
        refine z_iload_n C dX10_oats_31 rfl ?_
        refine z_dup2 C dX10_oats_32 rfl rfl ?_
        refine z_iald C dX10_oats_33 zk_46 (by decide) ?_ ?_
        · exact vp_in_iff.mpr (by omega)
        refine z_iload_n C dX10_oats_34 rfl ?_
        refine z_iadd C dX10_oats_35 ?_
        refine z_iast C dX10_oats_36 zk_46 (by decide) ?_ ?_
        · exact vp_in_iff.mpr (by omega)
        refine z_iconst (v := 1) C dX10_oats_37 (by decide) ?_
        refine zs_iret C E dX10_oats_38 rfl ?_ ?_ ?_
        · exact (zb_t (by omega)).symm
        · exact (if_pos (by omega)).symm
        · rfl
      · rw [show (100000 : Int32).toInt = 100000 by decide] at q22
        refine z_iconst (v := 0) C dX10_oats_25 (by decide) ?_
        refine zs_iret C E dX10_oats_26 rfl ?_ ?_ ?_
        · exact (zb_f (by omega)).symm
        · exact (if_neg (by omega)).symm
        · rfl

theorem zne_toInt {x y : Int32} (h : ¬ x = y) : ¬ x.toInt = y.toInt := fun z => h (Int32.toInt_inj.mp z)

set_option maxRecDepth 4000 in
theorem m_team (n : Nat) (iv : zI) (lw : zG) (inn st : Int32) (hT : 0 ≤ (iv 41 7).toInt ∧ (iv 41 7).toInt ≤ 20) : zMi yX10_team cX10_team 3 (some .int) 1 [.ref 41, .int inn, .int st] n iv lw (if (¬ iv 41 7 = 20 ∧ (0 ≤ inn.toInt ∧ inn.toInt < (iv 41 1).toInt) ∧ 0 ≤ st.toInt ∧ st.toInt ≤ 1000) then iv 41 7 else -1) (if (¬ iv 41 7 = 20 ∧ (0 ≤ inn.toInt ∧ inn.toInt < (iv 41 1).toInt) ∧ 0 ≤ st.toInt ∧ st.toInt ≤ 1000) then zu (zu (zu (zu iv 47 (iv 41 7).toNatClampNeg st) 48 (iv 41 7).toNatClampNeg inn) 49 (iv 41 7).toNatClampNeg (-1)) 41 7 (iv 41 7 + 1) else iv) lw := by
  refine zM.of (by decide) (Nat.le_of_ble_eq_true rfl) (fun X C E => ?_)
  change zJs X n 3 0 [some (.ref 41), some (.int inn), some (.int st)] [] iv lw
  refine z_aload_n C dX10_team_0 rfl ?_
  refine z_getI C dX10_team_1 zf_X10_184 zk_41 (by decide) ?_
  refine z_bipush (v := 20) C dX10_team_4 (by decide) ?_
  refine z_icmp_eq (tgt := 28) C dX10_team_6 (by decide) (fun q6 => ?_) (fun q6 => ?_)
  · refine z_iconst (v := (-1)) C dX10_team_28 (by decide) ?_
    refine zs_iret C E dX10_team_29 rfl ?_ ?_ ?_
    · exact (if_neg (fun z => by first | exact z.1 q6 | exact q14 z.2.1 | (have := z.2.2; omega))).symm
    · exact (if_neg (fun z => by first | exact z.1 q6 | exact q14 z.2.1 | (have := z.2.2; omega))).symm
    · rfl
  · refine z_aload_n C dX10_team_9 rfl ?_
    refine z_iload_n C dX10_team_10 rfl ?_
    refine zs_callVi C dX10_team_11 zm_X10_180 zyX10_isInn (m_isInn _ _ _ _) zc_10 rfl zk_41 (by decide) (by decide) rfl rfl (Nat.le_of_ble_eq_true rfl) (by decide) (by decide) ?_
    refine zb_if_eq (tgt := 28) C dX10_team_14 (by decide) (fun q14 => ?_) (fun q14 => ?_)
    · refine z_iconst (v := (-1)) C dX10_team_28 (by decide) ?_
      refine zs_iret C E dX10_team_29 rfl ?_ ?_ ?_
      · exact (if_neg (fun z => by first | exact z.1 q6 | exact q14 z.2.1 | (have := z.2.2; omega))).symm
      · exact (if_neg (fun z => by first | exact z.1 q6 | exact q14 z.2.1 | (have := z.2.2; omega))).symm
      · rfl
    · refine z_iload_n C dX10_team_17 rfl ?_
      refine zt_if_lt (tgt := 28) C dX10_team_18 rfl (by decide) (fun q18 => ?_) (fun q18 => ?_)
      · refine z_iconst (v := (-1)) C dX10_team_28 (by decide) ?_
        refine zs_iret C E dX10_team_29 rfl ?_ ?_ ?_
        · exact (if_neg (fun z => by first | exact z.1 q6 | exact q14 z.2.1 | (have := z.2.2; omega))).symm
        · exact (if_neg (fun z => by first | exact z.1 q6 | exact q14 z.2.1 | (have := z.2.2; omega))).symm
        · rfl
      · refine z_iload_n C dX10_team_21 rfl ?_
        refine z_sipush (v := 1000) C dX10_team_22 (by decide) ?_
        refine zt_icmp_le (tgt := 30) C dX10_team_25 rfl (show (1000 : Int32).toInt = 1000 by decide) (by decide) (fun q25 => ?_) (fun q25 => ?_)
        · refine z_aload_n C dX10_team_30 rfl ?_
          refine zs_getR C dX10_team_31 zf_X10_29 zk_41 (by decide) (zr_41_8 n) ?_
          refine z_aload_n C dX10_team_34 rfl ?_
          refine z_getI C dX10_team_35 zf_X10_184 zk_41 (by decide) ?_
          refine z_iload_n C dX10_team_38 rfl ?_
          refine z_iast C dX10_team_39 zk_47 (by decide) ?_ ?_
          · show vp_in (iv 41 7) 20
            exact vp_in_iff.mpr (by have := zne_toInt (y := 20) q6; rw [show (20 : Int32).toInt = 20 by decide] at this; omega)
          refine z_aload_n C dX10_team_40 rfl ?_
          refine zs_getR C dX10_team_41 zf_X10_32 zk_41 (by decide) (zr_41_9 n) ?_
          refine z_aload_n C dX10_team_44 rfl ?_
          refine z_getI C dX10_team_45 zf_X10_184 zk_41 (by decide) ?_
          refine z_iload_n C dX10_team_48 rfl ?_
          refine z_iast C dX10_team_49 zk_48 (by decide) ?_ ?_
          · show vp_in (iv 41 7) 20
            exact vp_in_iff.mpr (by have := zne_toInt (y := 20) q6; rw [show (20 : Int32).toInt = 20 by decide] at this; omega)
          refine z_aload_n C dX10_team_50 rfl ?_
          refine zs_getR C dX10_team_51 zf_X10_35 zk_41 (by decide) (zr_41_10 n) ?_
          refine z_aload_n C dX10_team_54 rfl ?_
          refine z_getI C dX10_team_55 zf_X10_184 zk_41 (by decide) ?_
          refine z_iconst (v := (-1)) C dX10_team_58 (by decide) ?_
          refine z_iast C dX10_team_59 zk_49 (by decide) ?_ ?_
          · show vp_in (iv 41 7) 20
            exact vp_in_iff.mpr (by have := zne_toInt (y := 20) q6; rw [show (20 : Int32).toInt = 20 by decide] at this; omega)
          refine z_aload_n C dX10_team_60 rfl ?_
          refine z_dup C dX10_team_61 rfl ?_
          refine z_getI C dX10_team_62 zf_X10_184 zk_41 (by decide) ?_
          refine z_iconst (v := 1) C dX10_team_65 (by decide) ?_
          refine z_iadd C dX10_team_66 ?_
          refine z_putI C dX10_team_67 zf_X10_184 zk_41 (by decide) ?_
          refine z_aload_n C dX10_team_70 rfl ?_
          refine z_getI C dX10_team_71 zf_X10_184 zk_41 (by decide) ?_
          refine z_iconst (v := 1) C dX10_team_74 (by decide) ?_
          refine z_isub C dX10_team_75 ?_
          refine zs_iret C E dX10_team_76 rfl ?_ ?_ ?_
          · rw [if_pos ⟨q6, q14, by omega, by omega⟩]
            exact zpm _
          · rw [if_pos ⟨q6, q14, by omega, by omega⟩]
            rfl
          · rfl
        · refine z_iconst (v := (-1)) C dX10_team_28 (by decide) ?_
          refine zs_iret C E dX10_team_29 rfl ?_ ?_ ?_
          · exact (if_neg (fun z => by first | exact z.1 q6 | exact q14 z.2.1 | (have := z.2.2; omega))).symm
          · exact (if_neg (fun z => by first | exact z.1 q6 | exact q14 z.2.1 | (have := z.2.2; omega))).symm
          · rfl

/-- the reference's strongest -/
def zmst (inn st : Nat → Int32) (a : Int32) : Nat → Int32
  | 0 => -1
  | m + 1 => if inn m = a ∧ ((zmst inn st a m).toInt < 0 ∨ (st (zmst inn st a m).toNatClampNeg).toInt < (st m).toInt) then nI m else zmst inn st a m
theorem zmst_s (inn st : Nat → Int32) (a : Int32) (m : Nat) : zmst inn st a (m + 1) = if inn m = a ∧ ((zmst inn st a m).toInt < 0 ∨ (st (zmst inn st a m).toNatClampNeg).toInt < (st m).toInt) then nI m else zmst inn st a m := rfl
theorem zmst_lt (inn st : Nat → Int32) (a : Int32) : ∀ m, m ≤ 1000 → (zmst inn st a m).toInt < m ∧ -1 ≤ (zmst inn st a m).toInt
  | 0, _ => by show (-1 : Int32).toInt < _ ∧ _ ≤ (-1 : Int32).toInt; rw [show (-1 : Int32).toInt = -1 by decide]; omega
  | m + 1, h => by
    have ih := zmst_lt inn st a m (by omega)
    rw [zmst_s]
    split
    · rw [nI_toInt (by omega)]; omega
    · omega

set_option maxRecDepth 4000 in
theorem lm_strongest (n : Nat) (iv : zI) (lw : zG) (ai : Int32) (t : Nat) (ht : iv 41 7 = nI t) (ht2 : t ≤ 20) {X : zX} (C : zC X cX10_strongest 4 RX10 (some .int) "strongest" 0 0 0) (E : zEnd X (91 + 3 * n) 0 0 (zQ n (zQi (zmst (iv 48) (iv 47) ai t) iv lw))) : ∀ (k : Nat) (i : Nat), i + k = t → zJs X n 4 4 [some (.ref 41), some (.int ai), some (.int (zmst (iv 48) (iv 47) ai i)), some (.int (nI i))] [] iv lw := by
  intro k
  induction k with
  | zero =>
    intro i hk
    have hlt := zmst_lt (iv 48) (iv 47) ai i (by omega)
    refine z_iload_n C dX10_strongest_4 rfl ?_
    refine z_aload_n C dX10_strongest_5 rfl ?_
    refine z_getI C dX10_strongest_6 zf_X10_184 zk_41 (by decide) ?_
    refine zt_icmp_ge (tgt := 49) C dX10_strongest_9 (nI_toInt (by omega)) (zt_nI ht (by omega)) (by decide) (fun q9 => ?_) (fun q9 => ?_)
    · refine z_iload_n C dX10_strongest_49 rfl ?_
      refine zs_iret C E dX10_strongest_50 rfl ?_ ?_ ?_
      · rw [show i = t by omega]
      · rfl
      · rfl
    · exfalso; omega
  | succ k ih =>
    intro i hk
    have hlt := zmst_lt (iv 48) (iv 47) ai i (by omega)
    refine z_iload_n C dX10_strongest_4 rfl ?_
    refine z_aload_n C dX10_strongest_5 rfl ?_
    refine z_getI C dX10_strongest_6 zf_X10_184 zk_41 (by decide) ?_
    refine zt_icmp_ge (tgt := 49) C dX10_strongest_9 (nI_toInt (by omega)) (zt_nI ht (by omega)) (by decide) (fun q9 => ?_) (fun q9 => ?_)
    · exfalso; omega
    · refine z_aload_n C dX10_strongest_12 rfl ?_
      refine zs_getR C dX10_strongest_13 zf_X10_32 zk_41 (by decide) (zr_41_9 n) ?_
      refine z_iload_n C dX10_strongest_16 rfl ?_
      refine z_iald C dX10_strongest_17 zk_48 (by decide) ?_ ?_
      · exact vp_in_nI (by omega) (by decide)
      refine z_iload_n C dX10_strongest_18 rfl ?_
      refine z_icmp_ne (tgt := 43) C dX10_strongest_19 (by decide) (fun q19 => ?_) (fun q19 => ?_)
      · rw [nI_clamp (by omega)] at q19
        refine z_iinc (y := 1) (lv' := [some (.ref 41), some (.int ai), some (.int _), some (.int _)]) C dX10_strongest_43 rfl (by decide) (by decide) rfl ?_
        refine z_goto (tgt := 4) C dX10_strongest_46 (by decide) ?_
        rw [nI_1 i]
        have ez := zmst_s (iv 48) (iv 47) ai i
        first
          | (have e9 : zmst (iv 48) (iv 47) ai (i + 1) = nI i := by
               rw [ez]; exact if_pos ⟨q19, by first | exact Or.inl q23 | exact Or.inr (by omega)⟩
             have e8 := ih (i + 1) (by omega)
             rw [e9] at e8; exact e8)
          | (have e9 : zmst (iv 48) (iv 47) ai (i + 1) = zmst (iv 48) (iv 47) ai i := by
               rw [ez]; exact if_neg (fun z => by first | exact q19 z.1 | (rcases z.2 with z2 | z2 <;> omega))
             have e8 := ih (i + 1) (by omega)
             rw [e9] at e8; exact e8)
      · rw [nI_clamp (by omega)] at q19
        refine z_iload_n C dX10_strongest_22 rfl ?_
        refine zt_if_lt (tgt := 41) C dX10_strongest_23 rfl (by decide) (fun q23 => ?_) (fun q23 => ?_)
        · refine z_iload_n C dX10_strongest_41 rfl ?_
          refine z_istore_n (lv' := [some (.ref 41), some (.int ai), some (.int _), some (.int _)]) C dX10_strongest_42 (by decide) rfl ?_
          refine z_iinc (y := 1) (lv' := [some (.ref 41), some (.int ai), some (.int _), some (.int _)]) C dX10_strongest_43 rfl (by decide) (by decide) rfl ?_
          refine z_goto (tgt := 4) C dX10_strongest_46 (by decide) ?_
          rw [nI_1 i]
          have ez := zmst_s (iv 48) (iv 47) ai i
          first
            | (have e9 : zmst (iv 48) (iv 47) ai (i + 1) = nI i := by
                 rw [ez]; exact if_pos ⟨q19, by first | exact Or.inl q23 | exact Or.inr (by omega)⟩
               have e8 := ih (i + 1) (by omega)
               rw [e9] at e8; exact e8)
            | (have e9 : zmst (iv 48) (iv 47) ai (i + 1) = zmst (iv 48) (iv 47) ai i := by
                 rw [ez]; exact if_neg (fun z => by first | exact q19 z.1 | (rcases z.2 with z2 | z2 <;> omega))
               have e8 := ih (i + 1) (by omega)
               rw [e9] at e8; exact e8)
        · refine z_aload_n C dX10_strongest_26 rfl ?_
          refine zs_getR C dX10_strongest_27 zf_X10_29 zk_41 (by decide) (zr_41_8 n) ?_
          refine z_iload_n C dX10_strongest_30 rfl ?_
          refine z_iald C dX10_strongest_31 zk_47 (by decide) ?_ ?_
          · exact vp_in_nI (by omega) (by decide)
          refine z_aload_n C dX10_strongest_32 rfl ?_
          refine zs_getR C dX10_strongest_33 zf_X10_29 zk_41 (by decide) (zr_41_8 n) ?_
          refine z_iload_n C dX10_strongest_36 rfl ?_
          refine z_iald C dX10_strongest_37 zk_47 (by decide) ?_ ?_
          · exact vp_in_iff.mpr (by omega)
          refine zt_icmp_le (tgt := 43) C dX10_strongest_38 rfl rfl (by decide) (fun q38 => ?_) (fun q38 => ?_)
          · rw [nI_clamp (by omega)] at q38
            refine z_iinc (y := 1) (lv' := [some (.ref 41), some (.int ai), some (.int _), some (.int _)]) C dX10_strongest_43 rfl (by decide) (by decide) rfl ?_
            refine z_goto (tgt := 4) C dX10_strongest_46 (by decide) ?_
            rw [nI_1 i]
            have ez := zmst_s (iv 48) (iv 47) ai i
            first
              | (have e9 : zmst (iv 48) (iv 47) ai (i + 1) = nI i := by
                   rw [ez]; exact if_pos ⟨q19, by first | exact Or.inl q23 | exact Or.inr (by omega)⟩
                 have e8 := ih (i + 1) (by omega)
                 rw [e9] at e8; exact e8)
              | (have e9 : zmst (iv 48) (iv 47) ai (i + 1) = zmst (iv 48) (iv 47) ai i := by
                   rw [ez]; exact if_neg (fun z => by first | exact q19 z.1 | (rcases z.2 with z2 | z2 <;> omega))
                 have e8 := ih (i + 1) (by omega)
                 rw [e9] at e8; exact e8)
          · rw [nI_clamp (by omega)] at q38
            refine z_iload_n C dX10_strongest_41 rfl ?_
            refine z_istore_n (lv' := [some (.ref 41), some (.int ai), some (.int _), some (.int _)]) C dX10_strongest_42 (by decide) rfl ?_
            refine z_iinc (y := 1) (lv' := [some (.ref 41), some (.int ai), some (.int _), some (.int _)]) C dX10_strongest_43 rfl (by decide) (by decide) rfl ?_
            refine z_goto (tgt := 4) C dX10_strongest_46 (by decide) ?_
            rw [nI_1 i]
            have ez := zmst_s (iv 48) (iv 47) ai i
            first
              | (have e9 : zmst (iv 48) (iv 47) ai (i + 1) = nI i := by
                   rw [ez]; exact if_pos ⟨q19, by first | exact Or.inl q23 | exact Or.inr (by omega)⟩
                 have e8 := ih (i + 1) (by omega)
                 rw [e9] at e8; exact e8)
              | (have e9 : zmst (iv 48) (iv 47) ai (i + 1) = zmst (iv 48) (iv 47) ai i := by
                   rw [ez]; exact if_neg (fun z => by first | exact q19 z.1 | (rcases z.2 with z2 | z2 <;> omega))
                 have e8 := ih (i + 1) (by omega)
                 rw [e9] at e8; exact e8)

set_option maxRecDepth 4000 in
theorem m_strongest (n : Nat) (iv : zI) (lw : zG) (ai : Int32) (t : Nat) (ht : iv 41 7 = nI t) (ht2 : t ≤ 20) : zMi yX10_strongest cX10_strongest 4 (some .int) 0 [.ref 41, .int ai] n iv lw (zmst (iv 48) (iv 47) ai t) iv lw := by
  refine zM.of (by decide) (Nat.le_of_ble_eq_true rfl) (fun X C E => ?_)
  change zJs X n 4 0 [some (.ref 41), some (.int ai), none, none] [] iv lw
  refine z_iconst (v := (-1)) C dX10_strongest_0 (by decide) ?_
  refine z_istore_n (lv' := [some (.ref 41), some (.int ai), some (.int _), none]) C dX10_strongest_1 (by decide) rfl ?_
  refine z_iconst (v := 0) C dX10_strongest_2 (by decide) ?_
  refine z_istore_n (lv' := [some (.ref 41), some (.int ai), some (.int _), some (.int _)]) C dX10_strongest_3 (by decide) rfl ?_
  exact lm_strongest n iv lw ai t ht ht2 C E t 0 (by omega)

set_option maxRecDepth 4000 in
theorem m_horses (n : Nat) (iv : zI) (lw : zG) (te wh : Int32) (hT : (iv 41 7).toInt ≤ 20) : zMi yX10_horses cX10_horses 3 (some .int) 0 [.ref 41, .int te, .int wh] n iv lw (zteam (iv 41 7).toInt (iv 47) (iv 48) (iv 49) te wh) iv lw := by
  refine zM.of (by decide) (Nat.le_of_ble_eq_true rfl) (fun X C E => ?_)
  change zJs X n 3 0 [some (.ref 41), some (.int te), some (.int wh)] [] iv lw
  refine z_iload_n C dX10_horses_0 rfl ?_
  refine zt_if_lt (tgt := 12) C dX10_horses_1 rfl (by decide) (fun q1 => ?_) (fun q1 => ?_)
  · refine z_iconst (v := (-1)) C dX10_horses_12 (by decide) ?_
    refine zs_iret C E dX10_horses_13 rfl ?_ ?_ ?_
    · unfold zteam
      first | exact (if_pos (by omega)).symm | (rw [if_neg (by omega)]; simp [*])
    · rfl
    · rfl
  · refine z_iload_n C dX10_horses_4 rfl ?_
    refine z_aload_n C dX10_horses_5 rfl ?_
    refine z_getI C dX10_horses_6 zf_X10_184 zk_41 (by decide) ?_
    refine zt_icmp_lt (tgt := 14) C dX10_horses_9 rfl rfl (by decide) (fun q9 => ?_) (fun q9 => ?_)
    · refine z_iload_n C dX10_horses_14 rfl ?_
      refine z_if_ne (tgt := 27) C dX10_horses_15 (by decide) (fun q15 => ?_) (fun q15 => ?_)
      · refine z_iload_n C dX10_horses_27 rfl ?_
        refine z_iconst (v := 1) C dX10_horses_28 (by decide) ?_
        refine z_icmp_ne (tgt := 41) C dX10_horses_29 (by decide) (fun q29 => ?_) (fun q29 => ?_)
        · refine z_iload_n C dX10_horses_41 rfl ?_
          refine z_iconst (v := 2) C dX10_horses_42 (by decide) ?_
          refine z_icmp_ne (tgt := 55) C dX10_horses_43 (by decide) (fun q43 => ?_) (fun q43 => ?_)
          · refine z_iconst (v := (-1)) C dX10_horses_55 (by decide) ?_
            refine zs_iret C E dX10_horses_56 rfl ?_ ?_ ?_
            · unfold zteam
              first | exact (if_pos (by omega)).symm | (rw [if_neg (by omega)]; simp [*])
            · rfl
            · rfl
          · refine z_aload_n C dX10_horses_46 rfl ?_
            refine zs_getR C dX10_horses_47 zf_X10_35 zk_41 (by decide) (zr_41_10 n) ?_
            refine z_iload_n C dX10_horses_50 rfl ?_
            refine z_iald C dX10_horses_51 zk_49 (by decide) ?_ ?_
            · exact vp_in_iff.mpr (by omega)
            refine z_goto (tgt := 56) C dX10_horses_52 (by decide) ?_
            refine zs_iret C E dX10_horses_56 rfl ?_ ?_ ?_
            · unfold zteam
              first | exact (if_pos (by omega)).symm | (rw [if_neg (by omega)]; simp [*])
            · rfl
            · rfl
        · refine z_aload_n C dX10_horses_32 rfl ?_
          refine zs_getR C dX10_horses_33 zf_X10_32 zk_41 (by decide) (zr_41_9 n) ?_
          refine z_iload_n C dX10_horses_36 rfl ?_
          refine z_iald C dX10_horses_37 zk_48 (by decide) ?_ ?_
          · exact vp_in_iff.mpr (by omega)
          refine z_goto (tgt := 56) C dX10_horses_38 (by decide) ?_
          refine zs_iret C E dX10_horses_56 rfl ?_ ?_ ?_
          · unfold zteam
            first | exact (if_pos (by omega)).symm | (rw [if_neg (by omega)]; simp [*])
          · rfl
          · rfl
      · refine z_aload_n C dX10_horses_18 rfl ?_
        refine zs_getR C dX10_horses_19 zf_X10_29 zk_41 (by decide) (zr_41_8 n) ?_
        refine z_iload_n C dX10_horses_22 rfl ?_
        refine z_iald C dX10_horses_23 zk_47 (by decide) ?_ ?_
        · exact vp_in_iff.mpr (by omega)
        refine z_goto (tgt := 56) C dX10_horses_24 (by decide) ?_
        refine zs_iret C E dX10_horses_56 rfl ?_ ?_ ?_
        · unfold zteam
          first | exact (if_pos (by omega)).symm | (rw [if_neg (by omega)]; simp [*])
        · rfl
        · rfl
    · refine z_iconst (v := (-1)) C dX10_horses_12 (by decide) ?_
      refine zs_iret C E dX10_horses_13 rfl ?_ ?_ ?_
      · unfold zteam
        first | exact (if_pos (by omega)).symm | (rw [if_neg (by omega)]; simp [*])
      · rfl
      · rfl

set_option maxRecDepth 4000 in
theorem m_isCoach (n : Nat) (iv : zI) (lw : zG) (co : Int32) : zMi yX10_isCoach cX10_isCoach 2 (some .boolean) 0 [.ref 41, .int co] n iv lw (zb (0 ≤ co.toInt ∧ co.toInt < (iv 41 11).toInt)) iv lw := by
  refine zM.of (by decide) (Nat.le_of_ble_eq_true rfl) (fun X C E => ?_)
  change zJs X n 2 0 [some (.ref 41), some (.int co)] [] iv lw
  refine z_iload_n C dX10_isCoach_0 rfl ?_
  refine zt_if_lt (tgt := 16) C dX10_isCoach_1 rfl (by decide) (fun q1 => ?_) (fun q1 => ?_)
  · refine z_iconst (v := 0) C dX10_isCoach_16 (by decide) ?_
    refine zs_iret C E dX10_isCoach_17 rfl ?_ ?_ ?_
    · exact (zb_f (by omega)).symm
    · rfl
    · rfl
  · refine z_iload_n C dX10_isCoach_4 rfl ?_
    refine z_aload_n C dX10_isCoach_5 rfl ?_
    refine z_getI C dX10_isCoach_6 zf_X10_165 zk_41 (by decide) ?_
    refine zt_icmp_ge (tgt := 16) C dX10_isCoach_9 rfl rfl (by decide) (fun q9 => ?_) (fun q9 => ?_)
    · refine z_iconst (v := 0) C dX10_isCoach_16 (by decide) ?_
      refine zs_iret C E dX10_isCoach_17 rfl ?_ ?_ ?_
      · exact (zb_f (by omega)).symm
      · rfl
      · rfl
    · refine z_iconst (v := 1) C dX10_isCoach_12 (by decide) ?_
      refine z_goto (tgt := 17) C dX10_isCoach_13 (by decide) ?_
      refine zs_iret C E dX10_isCoach_17 rfl ?_ ?_ ?_
      · exact (zb_t (by omega)).symm
      · rfl
      · rfl

set_option maxRecDepth 4000 in
theorem m_wayOf (n : Nat) (iv : zI) (lw : zG) (i : Nat) (hi : i < 8) : zMi yX10_wayOf cX10_wayOf 2 (some .int) 0 [.ref 41, .int (nI i)] n iv lw (zstep (iv 52 i) (iv 53 i)) iv lw := by
  refine zM.of (by decide) (Nat.le_of_ble_eq_true rfl) (fun X C E => ?_)
  change zJs X n 2 0 [some (.ref 41), some (.int (nI i))] [] iv lw
  refine z_aload_n C dX10_wayOf_0 rfl ?_
  refine zs_getR C dX10_wayOf_1 zf_X10_47 zk_41 (by decide) (zr_41_15 n) ?_
  refine z_iload_n C dX10_wayOf_4 rfl ?_
  refine z_iald C dX10_wayOf_5 zk_53 (by decide) ?_ ?_
  · exact vp_in_nI (by omega) (by decide)
  refine z_aload_n C dX10_wayOf_6 rfl ?_
  refine zs_getR C dX10_wayOf_7 zf_X10_44 zk_41 (by decide) (zr_41_14 n) ?_
  refine z_iload_n C dX10_wayOf_10 rfl ?_
  refine z_iald C dX10_wayOf_11 zk_52 (by decide) ?_ ?_
  · exact vp_in_nI (by omega) (by decide)
  refine zt_icmp_le (tgt := 19) C dX10_wayOf_12 rfl rfl (by decide) (fun q12 => ?_) (fun q12 => ?_)
  · refine z_iconst (v := (-1)) C dX10_wayOf_19 (by decide) ?_
    refine zs_iret C E dX10_wayOf_20 rfl ?_ ?_ ?_
    · rw [nI_clamp (by omega)] at q12
      unfold zstep
      first | exact (if_pos (by omega)).symm | exact (if_neg (by omega)).symm
    · rfl
    · rfl
  · refine z_iconst (v := 1) C dX10_wayOf_15 (by decide) ?_
    refine z_goto (tgt := 20) C dX10_wayOf_16 (by decide) ?_
    refine zs_iret C E dX10_wayOf_20 rfl ?_ ?_ ?_
    · rw [nI_clamp (by omega)] at q12
      unfold zstep
      first | exact (if_pos (by omega)).symm | exact (if_neg (by omega)).symm
    · rfl
    · rfl

theorem zstep_p {f t : Int32} (h : ¬ (zstep f t).toInt ≤ 0) : f.toInt < t.toInt := by
  unfold zstep at h
  by_cases hh : f.toInt < t.toInt
  · exact hh
  · rw [if_neg hh] at h; exact absurd (by decide) h
theorem zstep_n {f t : Int32} (h : (zstep f t).toInt ≤ 0) : ¬ f.toInt < t.toInt := by
  unfold zstep at h
  intro hh
  rw [if_pos hh] at h; exact absurd h (by decide)

set_option maxRecDepth 4000 in
theorem m_stageFrom (n : Nat) (iv : zI) (lw : zG) (i : Nat) (hi : i < 8) (k : Int32) : zMi yX10_stageFrom cX10_stageFrom 3 (some .int) 1 [.ref 41, .int (nI i), .int k] n iv lw (znext (iv 52 i) (iv 53 i) k) iv lw := by
  refine zM.of (by decide) (Nat.le_of_ble_eq_true rfl) (fun X C E => ?_)
  change zJs X n 3 0 [some (.ref 41), some (.int (nI i)), some (.int k)] [] iv lw
  refine z_aload_n C dX10_stageFrom_0 rfl ?_
  refine z_iload_n C dX10_stageFrom_1 rfl ?_
  refine zs_callVi C dX10_stageFrom_2 zm_X10_191 zyX10_wayOf (m_wayOf _ _ _ i hi) zc_10 rfl zk_41 (by decide) (by decide) rfl rfl (Nat.le_of_ble_eq_true rfl) (by decide) (by decide) ?_
  refine zt_if_le (tgt := 12) C dX10_stageFrom_5 rfl (by decide) (fun q5 => ?_) (fun q5 => ?_)
  · refine z_iload_n C dX10_stageFrom_12 rfl ?_
    refine z_iconst (v := 1) C dX10_stageFrom_13 (by decide) ?_
    refine z_isub C dX10_stageFrom_14 ?_
    refine zs_iret C E dX10_stageFrom_15 rfl ?_ ?_ ?_
    · unfold znext
      first | exact (if_pos (zstep_p q5)).symm | exact (if_neg (zstep_n q5)).symm
    · rfl
    · rfl
  · refine z_iload_n C dX10_stageFrom_8 rfl ?_
    refine z_goto (tgt := 15) C dX10_stageFrom_9 (by decide) ?_
    refine zs_iret C E dX10_stageFrom_15 rfl ?_ ?_ ?_
    · unfold znext
      first | exact (if_pos (zstep_p q5)).symm | exact (if_neg (zstep_n q5)).symm
    · rfl
    · rfl

set_option maxRecDepth 4000 in
theorem m_isOnWay (n : Nat) (iv : zI) (lw : zG) (i : Nat) (hi : i < 8) (k : Int32) : zMi yX10_isOnWay cX10_isOnWay 3 (some .boolean) 1 [.ref 41, .int (nI i), .int k] n iv lw (zb (((iv 52 i).toInt < (iv 53 i).toInt ∧ (iv 52 i).toInt ≤ k.toInt ∧ k.toInt ≤ (iv 53 i).toInt) ∨ (¬ (iv 52 i).toInt < (iv 53 i).toInt ∧ k.toInt ≤ (iv 52 i).toInt ∧ (iv 53 i).toInt ≤ k.toInt))) iv lw := by
  refine zM.of (by decide) (Nat.le_of_ble_eq_true rfl) (fun X C E => ?_)
  change zJs X n 3 0 [some (.ref 41), some (.int (nI i)), some (.int k)] [] iv lw
  refine z_aload_n C dX10_isOnWay_0 rfl ?_
  refine z_iload_n C dX10_isOnWay_1 rfl ?_
  refine zs_callVi C dX10_isOnWay_2 zm_X10_191 zyX10_wayOf (m_wayOf _ _ _ i hi) zc_10 rfl zk_41 (by decide) (by decide) rfl rfl (Nat.le_of_ble_eq_true rfl) (by decide) (by decide) ?_
  refine zt_if_le (tgt := 36) C dX10_isOnWay_5 rfl (by decide) (fun q5 => ?_) (fun q5 => ?_)
  · have q5 := zstep_n q5
    refine z_iload_n C dX10_isOnWay_36 rfl ?_
    refine z_aload_n C dX10_isOnWay_37 rfl ?_
    refine zs_getR C dX10_isOnWay_38 zf_X10_44 zk_41 (by decide) (zr_41_14 n) ?_
    refine z_iload_n C dX10_isOnWay_41 rfl ?_
    refine z_iald C dX10_isOnWay_42 zk_52 (by decide) ?_ ?_
    · exact vp_in_nI (by omega) (by decide)
    refine zt_icmp_gt (tgt := 60) C dX10_isOnWay_43 rfl rfl (by decide) (fun q43 => ?_) (fun q43 => ?_)
    · rw [nI_clamp (by omega)] at q43
      refine z_iconst (v := 0) C dX10_isOnWay_60 (by decide) ?_
      refine zs_iret C E dX10_isOnWay_61 rfl ?_ ?_ ?_
      · exact (zb_f (by omega)).symm
      · rfl
      · rfl
    · rw [nI_clamp (by omega)] at q43
      refine z_iload_n C dX10_isOnWay_46 rfl ?_
      refine z_aload_n C dX10_isOnWay_47 rfl ?_
      refine zs_getR C dX10_isOnWay_48 zf_X10_47 zk_41 (by decide) (zr_41_15 n) ?_
      refine z_iload_n C dX10_isOnWay_51 rfl ?_
      refine z_iald C dX10_isOnWay_52 zk_53 (by decide) ?_ ?_
      · exact vp_in_nI (by omega) (by decide)
      refine zt_icmp_lt (tgt := 60) C dX10_isOnWay_53 rfl rfl (by decide) (fun q53 => ?_) (fun q53 => ?_)
      · rw [nI_clamp (by omega)] at q53
        refine z_iconst (v := 0) C dX10_isOnWay_60 (by decide) ?_
        refine zs_iret C E dX10_isOnWay_61 rfl ?_ ?_ ?_
        · exact (zb_f (by omega)).symm
        · rfl
        · rfl
      · rw [nI_clamp (by omega)] at q53
        refine z_iconst (v := 1) C dX10_isOnWay_56 (by decide) ?_
        refine z_goto (tgt := 61) C dX10_isOnWay_57 (by decide) ?_
        refine zs_iret C E dX10_isOnWay_61 rfl ?_ ?_ ?_
        · exact (zb_t (by omega)).symm
        · rfl
        · rfl
  · have q5 := zstep_p q5
    refine z_iload_n C dX10_isOnWay_8 rfl ?_
    refine z_aload_n C dX10_isOnWay_9 rfl ?_
    refine zs_getR C dX10_isOnWay_10 zf_X10_44 zk_41 (by decide) (zr_41_14 n) ?_
    refine z_iload_n C dX10_isOnWay_13 rfl ?_
    refine z_iald C dX10_isOnWay_14 zk_52 (by decide) ?_ ?_
    · exact vp_in_nI (by omega) (by decide)
    refine zt_icmp_lt (tgt := 32) C dX10_isOnWay_15 rfl rfl (by decide) (fun q15 => ?_) (fun q15 => ?_)
    · rw [nI_clamp (by omega)] at q15
      refine z_iconst (v := 0) C dX10_isOnWay_32 (by decide) ?_
      refine z_goto (tgt := 61) C dX10_isOnWay_33 (by decide) ?_
      refine zs_iret C E dX10_isOnWay_61 rfl ?_ ?_ ?_
      · exact (zb_f (by omega)).symm
      · rfl
      · rfl
    · rw [nI_clamp (by omega)] at q15
      refine z_iload_n C dX10_isOnWay_18 rfl ?_
      refine z_aload_n C dX10_isOnWay_19 rfl ?_
      refine zs_getR C dX10_isOnWay_20 zf_X10_47 zk_41 (by decide) (zr_41_15 n) ?_
      refine z_iload_n C dX10_isOnWay_23 rfl ?_
      refine z_iald C dX10_isOnWay_24 zk_53 (by decide) ?_ ?_
      · exact vp_in_nI (by omega) (by decide)
      refine zt_icmp_gt (tgt := 32) C dX10_isOnWay_25 rfl rfl (by decide) (fun q25 => ?_) (fun q25 => ?_)
      · rw [nI_clamp (by omega)] at q25
        refine z_iconst (v := 0) C dX10_isOnWay_32 (by decide) ?_
        refine z_goto (tgt := 61) C dX10_isOnWay_33 (by decide) ?_
        refine zs_iret C E dX10_isOnWay_61 rfl ?_ ?_ ?_
        · exact (zb_f (by omega)).symm
        · rfl
        · rfl
      · rw [nI_clamp (by omega)] at q25
        refine z_iconst (v := 1) C dX10_isOnWay_28 (by decide) ?_
        refine z_goto (tgt := 61) C dX10_isOnWay_29 (by decide) ?_
        refine zs_iret C E dX10_isOnWay_61 rfl ?_ ?_ ?_
        · exact (zb_t (by omega)).symm
        · rfl
        · rfl

set_option maxRecDepth 4000 in
theorem m_plainly (n : Nat) (iv : zI) (lw : zG) (i : Nat) (hi : i < 8) (k : Int32) (hs : vp_in k 8) : zMi yX10_plainly cX10_plainly 3 (some .int) 0 [.ref 41, .int (nI i), .int k] n iv lw (iv 42 k.toNatClampNeg * zpace (iv 50 i) + 2 * iv 43 k.toNatClampNeg) iv lw := by
  refine zM.of (by decide) (Nat.le_of_ble_eq_true rfl) (fun X C E => ?_)
  change zJs X n 3 0 [some (.ref 41), some (.int (nI i)), some (.int k)] [] iv lw
  refine z_aload_n C dX10_plainly_0 rfl ?_
  refine zs_getR C dX10_plainly_1 zf_X10_13 zk_41 (by decide) (zr_41_2 n) ?_
  refine z_iload_n C dX10_plainly_4 rfl ?_
  refine z_iald C dX10_plainly_5 zk_42 (by decide) ?_ ?_
  · exact hs
  refine z_aload_n C dX10_plainly_6 rfl ?_
  refine zs_getR C dX10_plainly_7 zf_X10_38 zk_41 (by decide) (zr_41_12 n) ?_
  refine z_iload_n C dX10_plainly_10 rfl ?_
  refine z_iald C dX10_plainly_11 zk_50 (by decide) ?_ ?_
  · exact vp_in_nI (by omega) (by decide)
  refine z_iconst (v := 1) C dX10_plainly_12 (by decide) ?_
  refine z_icmp_ne (tgt := 21) C dX10_plainly_13 (by decide) (fun q13 => ?_) (fun q13 => ?_)
  · refine z_aload_n C dX10_plainly_21 rfl ?_
    refine zs_getR C dX10_plainly_22 zf_X10_38 zk_41 (by decide) (zr_41_12 n) ?_
    refine z_iload_n C dX10_plainly_25 rfl ?_
    refine z_iald C dX10_plainly_26 zk_50 (by decide) ?_ ?_
    · exact vp_in_nI (by omega) (by decide)
    refine z_iconst (v := 2) C dX10_plainly_27 (by decide) ?_
    refine z_icmp_ne (tgt := 36) C dX10_plainly_28 (by decide) (fun q28 => ?_) (fun q28 => ?_)
    · refine z_bipush (v := 7) C dX10_plainly_36 (by decide) ?_
      refine z_imul C dX10_plainly_38 ?_
      refine z_iconst (v := 2) C dX10_plainly_39 (by decide) ?_
      refine z_aload_n C dX10_plainly_40 rfl ?_
      refine zs_getR C dX10_plainly_41 zf_X10_17 zk_41 (by decide) (zr_41_3 n) ?_
      refine z_iload_n C dX10_plainly_44 rfl ?_
      refine z_iald C dX10_plainly_45 zk_43 (by decide) ?_ ?_
      · exact hs
      refine z_imul C dX10_plainly_46 ?_
      refine z_iadd C dX10_plainly_47 ?_
      refine zs_iret C E dX10_plainly_48 rfl ?_ ?_ ?_
      · unfold zpace
        first
          | (rw [nI_clamp (by omega)] at q13; rw [if_pos q13])
          | (rw [nI_clamp (by omega)] at q13 q28; rw [if_neg q13, if_pos q28])
          | (rw [nI_clamp (by omega)] at q13 q28; rw [if_neg q13, if_neg q28])
      · rfl
      · rfl
    · refine z_bipush (v := 9) C dX10_plainly_31 (by decide) ?_
      refine z_goto (tgt := 38) C dX10_plainly_33 (by decide) ?_
      refine z_imul C dX10_plainly_38 ?_
      refine z_iconst (v := 2) C dX10_plainly_39 (by decide) ?_
      refine z_aload_n C dX10_plainly_40 rfl ?_
      refine zs_getR C dX10_plainly_41 zf_X10_17 zk_41 (by decide) (zr_41_3 n) ?_
      refine z_iload_n C dX10_plainly_44 rfl ?_
      refine z_iald C dX10_plainly_45 zk_43 (by decide) ?_ ?_
      · exact hs
      refine z_imul C dX10_plainly_46 ?_
      refine z_iadd C dX10_plainly_47 ?_
      refine zs_iret C E dX10_plainly_48 rfl ?_ ?_ ?_
      · unfold zpace
        first
          | (rw [nI_clamp (by omega)] at q13; rw [if_pos q13])
          | (rw [nI_clamp (by omega)] at q13 q28; rw [if_neg q13, if_pos q28])
          | (rw [nI_clamp (by omega)] at q13 q28; rw [if_neg q13, if_neg q28])
      · rfl
      · rfl
  · refine z_bipush (v := 6) C dX10_plainly_16 (by decide) ?_
    refine z_goto (tgt := 38) C dX10_plainly_18 (by decide) ?_
    refine z_imul C dX10_plainly_38 ?_
    refine z_iconst (v := 2) C dX10_plainly_39 (by decide) ?_
    refine z_aload_n C dX10_plainly_40 rfl ?_
    refine zs_getR C dX10_plainly_41 zf_X10_17 zk_41 (by decide) (zr_41_3 n) ?_
    refine z_iload_n C dX10_plainly_44 rfl ?_
    refine z_iald C dX10_plainly_45 zk_43 (by decide) ?_ ?_
    · exact hs
    refine z_imul C dX10_plainly_46 ?_
    refine z_iadd C dX10_plainly_47 ?_
    refine zs_iret C E dX10_plainly_48 rfl ?_ ?_ ?_
    · unfold zpace
      first
        | (rw [nI_clamp (by omega)] at q13; rw [if_pos q13])
        | (rw [nI_clamp (by omega)] at q13 q28; rw [if_neg q13, if_pos q28])
        | (rw [nI_clamp (by omega)] at q13 q28; rw [if_neg q13, if_neg q28])
    · rfl
    · rfl

set_option maxRecDepth 4000 in
theorem m_harness (n : Nat) (iv : zI) (lw : zG) (i : Nat) (hi : i < 8) (te : Int32) (ht : vp_in te 20) : zMv yX10_harness cX10_harness 3 none 0 [.ref 41, .int (nI i), .int te] n iv lw (zu (zu (zu iv 57 i te) 48 te.toNatClampNeg (-1)) 49 te.toNatClampNeg (nI i)) lw := by
  refine zM.of (by decide) (Nat.le_of_ble_eq_true rfl) (fun X C E => ?_)
  change zJs X n 3 0 [some (.ref 41), some (.int (nI i)), some (.int te)] [] iv lw
  refine z_aload_n C dX10_harness_0 rfl ?_
  refine zs_getR C dX10_harness_1 zf_X10_59 zk_41 (by decide) (zr_41_19 n) ?_
  refine z_iload_n C dX10_harness_4 rfl ?_
  refine z_iload_n C dX10_harness_5 rfl ?_
  refine z_iast C dX10_harness_6 zk_57 (by decide) ?_ ?_
  · exact vp_in_nI (by omega) (by decide)
  refine z_aload_n C dX10_harness_7 rfl ?_
  refine zs_getR C dX10_harness_8 zf_X10_32 zk_41 (by decide) (zr_41_9 n) ?_
  refine z_iload_n C dX10_harness_11 rfl ?_
  refine z_iconst (v := (-1)) C dX10_harness_12 (by decide) ?_
  refine z_iast C dX10_harness_13 zk_48 (by decide) ?_ ?_
  · exact ht
  refine z_aload_n C dX10_harness_14 rfl ?_
  refine zs_getR C dX10_harness_15 zf_X10_35 zk_41 (by decide) (zr_41_10 n) ?_
  refine z_iload_n C dX10_harness_18 rfl ?_
  refine z_iload_n C dX10_harness_19 rfl ?_
  refine z_iast C dX10_harness_20 zk_49 (by decide) ?_ ?_
  · exact ht
  refine zs_vret C E dX10_harness_21 ?_ rfl
  rw [nI_clamp (by omega)]

set_option maxRecDepth 4000 in
theorem m_unharness (n : Nat) (iv : zI) (lw : zG) (i : Nat) (hi : i < 8) (ht : vp_in (iv 57 i) 20) : zMv yX10_unharness cX10_unharness 2 none 0 [.ref 41, .int (nI i)] n iv lw (zu (zu (zu iv 48 (iv 57 i).toNatClampNeg (iv 56 i)) 49 (iv 57 i).toNatClampNeg (-1)) 57 i (-1)) lw := by
  refine zM.of (by decide) (Nat.le_of_ble_eq_true rfl) (fun X C E => ?_)
  change zJs X n 2 0 [some (.ref 41), some (.int (nI i))] [] iv lw
  refine z_aload_n C dX10_unharness_0 rfl ?_
  refine zs_getR C dX10_unharness_1 zf_X10_32 zk_41 (by decide) (zr_41_9 n) ?_
  refine z_aload_n C dX10_unharness_4 rfl ?_
  refine zs_getR C dX10_unharness_5 zf_X10_59 zk_41 (by decide) (zr_41_19 n) ?_
  refine z_iload_n C dX10_unharness_8 rfl ?_
  refine z_iald C dX10_unharness_9 zk_57 (by decide) ?_ ?_
  · exact vp_in_nI (by omega) (by decide)
  refine z_aload_n C dX10_unharness_10 rfl ?_
  refine zs_getR C dX10_unharness_11 zf_X10_56 zk_41 (by decide) (zr_41_18 n) ?_
  refine z_iload_n C dX10_unharness_14 rfl ?_
  refine z_iald C dX10_unharness_15 zk_56 (by decide) ?_ ?_
  · exact vp_in_nI (by omega) (by decide)
  refine z_iast C dX10_unharness_16 zk_48 (by decide) ?_ ?_
  · rw [nI_clamp (by omega)]; exact ht
  refine z_aload_n C dX10_unharness_17 rfl ?_
  refine zs_getR C dX10_unharness_18 zf_X10_35 zk_41 (by decide) (zr_41_10 n) ?_
  refine z_aload_n C dX10_unharness_21 rfl ?_
  refine zs_getR C dX10_unharness_22 zf_X10_59 zk_41 (by decide) (zr_41_19 n) ?_
  refine z_iload_n C dX10_unharness_25 rfl ?_
  refine z_iald C dX10_unharness_26 zk_57 (by decide) ?_ ?_
  · exact vp_in_nI (by omega) (by decide)
  refine z_iconst (v := (-1)) C dX10_unharness_27 (by decide) ?_
  refine z_iast C dX10_unharness_28 zk_49 (by decide) ?_ ?_
  · rw [nI_clamp (by omega)]; exact ht
  refine z_aload_n C dX10_unharness_29 rfl ?_
  refine zs_getR C dX10_unharness_30 zf_X10_59 zk_41 (by decide) (zr_41_19 n) ?_
  refine z_iload_n C dX10_unharness_33 rfl ?_
  refine z_iconst (v := (-1)) C dX10_unharness_34 (by decide) ?_
  refine z_iast C dX10_unharness_35 zk_57 (by decide) ?_ ?_
  · exact vp_in_nI (by omega) (by decide)
  refine zs_vret C E dX10_unharness_36 ?_ rfl
  rw [nI_clamp (by omega)]
  rfl
