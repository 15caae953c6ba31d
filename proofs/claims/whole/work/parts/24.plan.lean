set_option maxRecDepth 4000 in
theorem c_phas (n : Nat) (iv : zI) (lw : zG) (a : Int32) : zMi yX4_has cX4_has 2 (some .boolean) 0 [.ref 29, .int a] n iv lw (zb (0 ≤ a.toInt ∧ a.toInt < (iv 29 0).toInt)) iv lw := by
  refine zM.of (by decide) (Nat.le_of_ble_eq_true rfl) (fun X C E => ?_)
  change zJs X n 2 0 [some (.ref 29), some (.int a)] [] iv lw
  refine z_iload_n C dX4_has_0 rfl ?_
  refine zt_if_lt (tgt := 16) C dX4_has_1 rfl (by decide) (fun q1 => ?_) (fun q1 => ?_)
  · refine z_iconst (v := 0) C dX4_has_16 (by decide) ?_
    refine zs_iret C E dX4_has_17 rfl ?_ ?_ ?_
    · exact (zb_f (by omega)).symm
    · rfl
    · rfl
  · refine z_iload_n C dX4_has_4 rfl ?_
    refine z_aload_n C dX4_has_5 rfl ?_
    refine z_getI C dX4_has_6 zf_X4_28 zk_29 (by decide) ?_
    refine zt_icmp_ge (tgt := 16) C dX4_has_9 rfl rfl (by decide) (fun q9 => ?_) (fun q9 => ?_)
    · refine z_iconst (v := 0) C dX4_has_16 (by decide) ?_
      refine zs_iret C E dX4_has_17 rfl ?_ ?_ ?_
      · exact (zb_f (by omega)).symm
      · rfl
      · rfl
    · refine z_iconst (v := 1) C dX4_has_12 (by decide) ?_
      refine z_goto (tgt := 17) C dX4_has_13 (by decide) ?_
      refine zs_iret C E dX4_has_17 rfl ?_ ?_ ?_
      · exact (zb_t (by omega)).symm
      · rfl
      · rfl

set_option maxRecDepth 4000 in
theorem c_canRest (n : Nat) (iv : zI) (lw : zG) (r : Int32) : zMi yX4_canRest cX4_canRest 1 (some .boolean) 0 [.int r] n iv lw (zb (0 ≤ r.toInt ∧ r.toInt ≤ 10000)) iv lw := by
  refine zM.of (by decide) (Nat.le_of_ble_eq_true rfl) (fun X C E => ?_)
  change zJs X n 1 0 [some (.int r)] [] iv lw
  refine z_iload_n C dX4_canRest_0 rfl ?_
  refine zt_if_lt (tgt := 15) C dX4_canRest_1 rfl (by decide) (fun q1 => ?_) (fun q1 => ?_)
  · refine z_iconst (v := 0) C dX4_canRest_15 (by decide) ?_
    refine zs_iret C E dX4_canRest_16 rfl ?_ ?_ ?_
    · exact (zb_f (by omega)).symm
    · rfl
    · rfl
  · refine z_iload_n C dX4_canRest_4 rfl ?_
    refine z_sipush (v := 10000) C dX4_canRest_5 (by decide) ?_
    refine zt_icmp_gt (tgt := 15) C dX4_canRest_8 rfl (show (10000 : Int32).toInt = 10000 by decide) (by decide) (fun q8 => ?_) (fun q8 => ?_)
    · refine z_iconst (v := 0) C dX4_canRest_15 (by decide) ?_
      refine zs_iret C E dX4_canRest_16 rfl ?_ ?_ ?_
      · exact (zb_f (by omega)).symm
      · rfl
      · rfl
    · refine z_iconst (v := 1) C dX4_canRest_11 (by decide) ?_
      refine z_goto (tgt := 16) C dX4_canRest_12 (by decide) ?_
      refine zs_iret C E dX4_canRest_16 rfl ?_ ?_ ?_
      · exact (zb_t (by omega)).symm
      · rfl
      · rfl

def ztrip (iv : zI) (sg dn mi : Int32) : zI := zu (zu (zu (zu iv 30 (iv 29 0).toNatClampNeg sg) 32 (iv 29 0).toNatClampNeg (vp_nar .boolean dn)) 31 (iv 29 0).toNatClampNeg mi) 29 0 (iv 29 0 + 1)

set_option maxRecDepth 4000 in
theorem c_penter (n : Nat) (iv : zI) (lw : zG) (sg dn mi : Int32) (hT : 0 ≤ (iv 29 0).toInt) : zMi yX4_enter cX4_enter 4 (some .int) 0 [.ref 29, .int sg, .int dn, .int mi] n iv lw (if ((iv 29 0).toInt < 24 ∧ 0 ≤ mi.toInt ∧ mi.toInt ≤ 10000) then iv 29 0 + 1 else -1) (if ((iv 29 0).toInt < 24 ∧ 0 ≤ mi.toInt ∧ mi.toInt ≤ 10000) then ztrip iv sg dn mi else iv) lw := by
  refine zM.of (by decide) (Nat.le_of_ble_eq_true rfl) (fun X C E => ?_)
  change zJs X n 4 0 [some (.ref 29), some (.int sg), some (.int dn), some (.int mi)] [] iv lw
  refine z_aload_n C dX4_enter_0 rfl ?_
  refine z_getI C dX4_enter_1 zf_X4_28 zk_29 (by decide) ?_
  refine z_bipush (v := 24) C dX4_enter_4 (by decide) ?_
  refine zt_icmp_ge (tgt := 20) C dX4_enter_6 rfl (show (24 : Int32).toInt = 24 by decide) (by decide) (fun q6 => ?_) (fun q6 => ?_)
  · refine z_iconst (v := (-1)) C dX4_enter_20 (by decide) ?_
    refine zs_iret C E dX4_enter_21 rfl ?_ ?_ ?_
    · exact (if_neg (by omega)).symm
    · exact (if_neg (by omega)).symm
    · rfl
  · refine z_iload_n C dX4_enter_9 rfl ?_
    refine zt_if_lt (tgt := 20) C dX4_enter_10 rfl (by decide) (fun q10 => ?_) (fun q10 => ?_)
    · refine z_iconst (v := (-1)) C dX4_enter_20 (by decide) ?_
      refine zs_iret C E dX4_enter_21 rfl ?_ ?_ ?_
      · exact (if_neg (by omega)).symm
      · exact (if_neg (by omega)).symm
      · rfl
    · refine z_iload_n C dX4_enter_13 rfl ?_
      refine z_sipush (v := 10000) C dX4_enter_14 (by decide) ?_
      refine zt_icmp_le (tgt := 22) C dX4_enter_17 rfl (show (10000 : Int32).toInt = 10000 by decide) (by decide) (fun q17 => ?_) (fun q17 => ?_)
      · refine z_aload_n C dX4_enter_22 rfl ?_
        refine zs_getR C dX4_enter_23 zf_X4_11 zk_29 (by decide) (zr_29_1 n) ?_
        refine z_aload_n C dX4_enter_26 rfl ?_
        refine z_getI C dX4_enter_27 zf_X4_28 zk_29 (by decide) ?_
        refine z_iload_n C dX4_enter_30 rfl ?_
        refine z_iast C dX4_enter_31 zk_30 (by decide) ?_ ?_
        · show vp_in (iv 29 0) 24
          exact vp_in_iff.mpr (by omega)
        refine z_aload_n C dX4_enter_32 rfl ?_
        refine zs_getR C dX4_enter_33 zf_X4_18 zk_29 (by decide) (zr_29_3 n) ?_
        refine z_aload_n C dX4_enter_36 rfl ?_
        refine z_getI C dX4_enter_37 zf_X4_28 zk_29 (by decide) ?_
        refine z_iload_n C dX4_enter_40 rfl ?_
        refine z_zast C dX4_enter_41 zk_32 (by decide) ?_ ?_
        · show vp_in (iv 29 0) 24
          exact vp_in_iff.mpr (by omega)
        refine z_aload_n C dX4_enter_42 rfl ?_
        refine zs_getR C dX4_enter_43 zf_X4_15 zk_29 (by decide) (zr_29_2 n) ?_
        refine z_aload_n C dX4_enter_46 rfl ?_
        refine z_getI C dX4_enter_47 zf_X4_28 zk_29 (by decide) ?_
        refine z_iload_n C dX4_enter_50 rfl ?_
        refine z_iast C dX4_enter_51 zk_31 (by decide) ?_ ?_
        · show vp_in (iv 29 0) 24
          exact vp_in_iff.mpr (by omega)
        refine z_aload_n C dX4_enter_52 rfl ?_
        refine z_dup C dX4_enter_53 rfl ?_
        refine z_getI C dX4_enter_54 zf_X4_28 zk_29 (by decide) ?_
        refine z_iconst (v := 1) C dX4_enter_57 (by decide) ?_
        refine z_iadd C dX4_enter_58 ?_
        refine z_putI C dX4_enter_59 zf_X4_28 zk_29 (by decide) ?_
        refine z_aload_n C dX4_enter_62 rfl ?_
        refine z_getI C dX4_enter_63 zf_X4_28 zk_29 (by decide) ?_
        refine zs_iret C E dX4_enter_66 rfl ?_ ?_ ?_
        · rw [if_pos (by omega)]
          rfl
        · rw [if_pos (by omega)]
          rfl
        · rfl
      · refine z_iconst (v := (-1)) C dX4_enter_20 (by decide) ?_
        refine zs_iret C E dX4_enter_21 rfl ?_ ?_ ?_
        · exact (if_neg (by omega)).symm
        · exact (if_neg (by omega)).symm
        · rfl

/-- where a trip ends, where it begins, when its team is ready again -/
def zend (iv : zI) (a : Nat) : Int32 := if iv 32 a = 0 then iv 30 a else iv 30 a + 1
def zbeg (iv : zI) (b : Nat) : Int32 := if iv 32 b = 0 then iv 30 b + 1 else iv 30 b
def zrdy (iv : zI) (a : Nat) (rest : Int32) : Int32 := iv 31 a + (iv 2 (iv 30 a).toNatClampNeg * 7 + 2 * iv 3 (iv 30 a).toNatClampNeg) + rest
abbrev zfol (iv : zI) (a b rest : Int32) : Prop := (0 ≤ a.toInt ∧ a.toInt < (iv 29 0).toInt) ∧ (0 ≤ b.toInt ∧ b.toInt < (iv 29 0).toInt) ∧ (0 ≤ rest.toInt ∧ rest.toInt ≤ 10000) ∧ zend iv a.toNatClampNeg = zbeg iv b.toNatClampNeg ∧ (zrdy iv a.toNatClampNeg rest).toInt ≤ (iv 31 b.toNatClampNeg).toInt

theorem zend_c (iv : zI) (a : Nat) : zend iv a = if iv 32 a = 0 then iv 30 a else iv 30 a + 1 := rfl
theorem zbeg_c (iv : zI) (b : Nat) : zbeg iv b = if iv 32 b = 0 then iv 30 b + 1 else iv 30 b := rfl

set_option maxRecDepth 4000 in
theorem c_follows (n : Nat) (iv : zI) (lw : zG) (a b rest : Int32) (hT : (iv 29 0).toInt ≤ 24) (hI : 2 ≤ (iv 1 0).toInt ∧ (iv 1 0).toInt ≤ 8) (hS : ∀ k, ((k : Nat) : Int) < (iv 29 0).toInt → 0 ≤ (iv 30 k).toInt ∧ (iv 30 k).toInt < (iv 1 0).toInt - 1) : zMi yX4_follows cX4_follows 8 (some .boolean) 2 [.ref 29, .int a, .int b, .int rest, .ref 1] n iv lw (zb (zfol iv a b rest)) iv lw := by
  refine zM.of (by decide) (Nat.le_of_ble_eq_true rfl) (fun X C E => ?_)
  change zJs X n 8 0 [some (.ref 29), some (.int a), some (.int b), some (.int rest), some (.ref 1), none, none, none] [] iv lw
  refine z_aload_n C dX4_follows_0 rfl ?_
  refine z_iload_n C dX4_follows_1 rfl ?_
  refine zs_callVi C dX4_follows_2 zm_X4_32 zyX4_has (c_phas _ _ _ _) zc_4 rfl zk_29 (by decide) (by decide) rfl rfl (Nat.le_of_ble_eq_true rfl) (by decide) (by decide) ?_
  refine zb_if_eq (tgt := 23) C dX4_follows_5 (by decide) (fun q5 => ?_) (fun q5 => ?_)
  · refine z_iconst (v := 0) C dX4_follows_23 (by decide) ?_
    refine zs_iret C E dX4_follows_24 rfl ?_ ?_ ?_
    · exact (zb_f (fun z => by first | exact q5 z.1 | exact q13 z.2.1 | exact q20 z.2.2.1)).symm
    · rfl
    · rfl
  · refine z_aload_n C dX4_follows_8 rfl ?_
    refine z_iload_n C dX4_follows_9 rfl ?_
    refine zs_callVi C dX4_follows_10 zm_X4_32 zyX4_has (c_phas _ _ _ _) zc_4 rfl zk_29 (by decide) (by decide) rfl rfl (Nat.le_of_ble_eq_true rfl) (by decide) (by decide) ?_
    refine zb_if_eq (tgt := 23) C dX4_follows_13 (by decide) (fun q13 => ?_) (fun q13 => ?_)
    · refine z_iconst (v := 0) C dX4_follows_23 (by decide) ?_
      refine zs_iret C E dX4_follows_24 rfl ?_ ?_ ?_
      · exact (zb_f (fun z => by first | exact q5 z.1 | exact q13 z.2.1 | exact q20 z.2.2.1)).symm
      · rfl
      · rfl
    · refine z_iload_n C dX4_follows_16 rfl ?_
      refine zs_callSi C dX4_follows_17 zm_X4_36 zyX4_canRest (c_canRest _ _ _ _) (by decide) rfl rfl (Nat.le_of_ble_eq_true rfl) (by decide) (by decide) ?_
      refine zb_if_ne (tgt := 25) C dX4_follows_20 (by decide) (fun q20 => ?_) (fun q20 => ?_)
      · refine z_aload_n C dX4_follows_25 rfl ?_
        refine zs_getR C dX4_follows_26 zf_X4_18 zk_29 (by decide) (zr_29_3 n) ?_
        refine z_iload_n C dX4_follows_29 rfl ?_
        refine z_zald C dX4_follows_30 zk_32 (by decide) ?_ ?_
        · exact vp_in_iff.mpr (by omega)
        refine z_if_eq (tgt := 45) C dX4_follows_31 (by decide) (fun q31 => ?_) (fun q31 => ?_)
        · refine z_aload_n C dX4_follows_45 rfl ?_
          refine zs_getR C dX4_follows_46 zf_X4_11 zk_29 (by decide) (zr_29_1 n) ?_
          refine z_iload_n C dX4_follows_49 rfl ?_
          refine z_iald C dX4_follows_50 zk_30 (by decide) ?_ ?_
          · exact vp_in_iff.mpr (by omega)
          refine z_istore (lv' := [some (.ref 29), some (.int a), some (.int b), some (.int rest), some (.ref 1), some (.int _), none, none]) C dX4_follows_51 (by decide) rfl ?_
          refine z_aload_n C dX4_follows_53 rfl ?_
          refine zs_getR C dX4_follows_54 zf_X4_18 zk_29 (by decide) (zr_29_3 n) ?_
          refine z_iload_n C dX4_follows_57 rfl ?_
          refine z_zald C dX4_follows_58 zk_32 (by decide) ?_ ?_
          · exact vp_in_iff.mpr (by omega)
          refine z_if_eq (tgt := 71) C dX4_follows_59 (by decide) (fun q59 => ?_) (fun q59 => ?_)
          · refine z_aload_n C dX4_follows_71 rfl ?_
            refine zs_getR C dX4_follows_72 zf_X4_11 zk_29 (by decide) (zr_29_1 n) ?_
            refine z_iload_n C dX4_follows_75 rfl ?_
            refine z_iald C dX4_follows_76 zk_30 (by decide) ?_ ?_
            · exact vp_in_iff.mpr (by omega)
            refine z_iconst (v := 1) C dX4_follows_77 (by decide) ?_
            refine z_iadd C dX4_follows_78 ?_
            refine z_istore (lv' := [some (.ref 29), some (.int a), some (.int b), some (.int rest), some (.ref 1), some (.int _), some (.int _), none]) C dX4_follows_79 (by decide) rfl ?_
            refine z_aload_n C dX4_follows_81 rfl ?_
            refine zs_getR C dX4_follows_82 zf_X4_15 zk_29 (by decide) (zr_29_2 n) ?_
            refine z_iload_n C dX4_follows_85 rfl ?_
            refine z_iald C dX4_follows_86 zk_31 (by decide) ?_ ?_
            · exact vp_in_iff.mpr (by omega)
            refine z_aload C dX4_follows_87 rfl ?_
            refine z_aload_n C dX4_follows_89 rfl ?_
            refine zs_getR C dX4_follows_90 zf_X4_11 zk_29 (by decide) (zr_29_1 n) ?_
            refine z_iload_n C dX4_follows_93 rfl ?_
            refine z_iald C dX4_follows_94 zk_30 (by decide) ?_ ?_
            · exact vp_in_iff.mpr (by omega)
            refine z_bipush (v := 7) C dX4_follows_95 (by decide) ?_
            refine zs_callVi C dX4_follows_97 zm_X4_39 zyX2_plainMinutes (c_plainMinutes _ _ _ _ _ hI (hS a.toNatClampNeg (by rw [zcl_int q5.1]; omega))) zc_2 rfl zk_1 (by decide) (by decide) rfl rfl (Nat.le_of_ble_eq_true rfl) (by decide) (by decide) ?_
            refine z_iadd C dX4_follows_100 ?_
            refine z_iload_n C dX4_follows_101 rfl ?_
            refine z_iadd C dX4_follows_102 ?_
            refine z_istore (lv' := [some (.ref 29), some (.int a), some (.int b), some (.int rest), some (.ref 1), some (.int _), some (.int _), some (.int _)]) C dX4_follows_103 (by decide) rfl ?_
            refine z_iload C dX4_follows_105 rfl ?_
            refine z_iload C dX4_follows_107 rfl ?_
            refine z_icmp_ne (tgt := 127) C dX4_follows_109 (by decide) (fun q109 => ?_) (fun q109 => ?_)
            · refine z_iconst (v := 0) C dX4_follows_127 (by decide) ?_
              refine zs_iret C E dX4_follows_128 rfl ?_ ?_ ?_
              · have e1 := zend_c iv a.toNatClampNeg
                have e2 := zbeg_c iv b.toNatClampNeg
                first
                  | exact (zb_t ⟨q5, q13, q20, by unfold zend zbeg; simp [q31, q59]; simpa using q109, by unfold zrdy; omega⟩).symm
                  | exact (zb_f (fun z => by
                      obtain ⟨-, -, -, z4, z5⟩ := z
                      first
                        | (unfold zrdy at z5; omega)
                        | (apply q109; unfold zend zbeg at z4; simp [q31, q59] at z4; simpa using z4))).symm
              · rfl
              · rfl
            · refine z_aload_n C dX4_follows_112 rfl ?_
              refine zs_getR C dX4_follows_113 zf_X4_15 zk_29 (by decide) (zr_29_2 n) ?_
              refine z_iload_n C dX4_follows_116 rfl ?_
              refine z_iald C dX4_follows_117 zk_31 (by decide) ?_ ?_
              · exact vp_in_iff.mpr (by omega)
              refine z_iload C dX4_follows_118 rfl ?_
              refine zt_icmp_lt (tgt := 127) C dX4_follows_120 rfl rfl (by decide) (fun q120 => ?_) (fun q120 => ?_)
              · refine z_iconst (v := 0) C dX4_follows_127 (by decide) ?_
                refine zs_iret C E dX4_follows_128 rfl ?_ ?_ ?_
                · have e1 := zend_c iv a.toNatClampNeg
                  have e2 := zbeg_c iv b.toNatClampNeg
                  first
                    | exact (zb_t ⟨q5, q13, q20, by unfold zend zbeg; simp [q31, q59]; simpa using q109, by unfold zrdy; omega⟩).symm
                    | exact (zb_f (fun z => by
                        obtain ⟨-, -, -, z4, z5⟩ := z
                        first
                          | (unfold zrdy at z5; omega)
                          | (apply q109; unfold zend zbeg at z4; simp [q31, q59] at z4; simpa using z4))).symm
                · rfl
                · rfl
              · refine z_iconst (v := 1) C dX4_follows_123 (by decide) ?_
                refine z_goto (tgt := 128) C dX4_follows_124 (by decide) ?_
                refine zs_iret C E dX4_follows_128 rfl ?_ ?_ ?_
                · have e1 := zend_c iv a.toNatClampNeg
                  have e2 := zbeg_c iv b.toNatClampNeg
                  first
                    | exact (zb_t ⟨q5, q13, q20, by unfold zend zbeg; simp [q31, q59]; simpa using q109, by unfold zrdy; omega⟩).symm
                    | exact (zb_f (fun z => by
                        obtain ⟨-, -, -, z4, z5⟩ := z
                        first
                          | (unfold zrdy at z5; omega)
                          | (apply q109; unfold zend zbeg at z4; simp [q31, q59] at z4; simpa using z4))).symm
                · rfl
                · rfl
          · refine z_aload_n C dX4_follows_62 rfl ?_
            refine zs_getR C dX4_follows_63 zf_X4_11 zk_29 (by decide) (zr_29_1 n) ?_
            refine z_iload_n C dX4_follows_66 rfl ?_
            refine z_iald C dX4_follows_67 zk_30 (by decide) ?_ ?_
            · exact vp_in_iff.mpr (by omega)
            refine z_goto (tgt := 79) C dX4_follows_68 (by decide) ?_
            refine z_istore (lv' := [some (.ref 29), some (.int a), some (.int b), some (.int rest), some (.ref 1), some (.int _), some (.int _), none]) C dX4_follows_79 (by decide) rfl ?_
            refine z_aload_n C dX4_follows_81 rfl ?_
            refine zs_getR C dX4_follows_82 zf_X4_15 zk_29 (by decide) (zr_29_2 n) ?_
            refine z_iload_n C dX4_follows_85 rfl ?_
            refine z_iald C dX4_follows_86 zk_31 (by decide) ?_ ?_
            · exact vp_in_iff.mpr (by omega)
            refine z_aload C dX4_follows_87 rfl ?_
            refine z_aload_n C dX4_follows_89 rfl ?_
            refine zs_getR C dX4_follows_90 zf_X4_11 zk_29 (by decide) (zr_29_1 n) ?_
            refine z_iload_n C dX4_follows_93 rfl ?_
            refine z_iald C dX4_follows_94 zk_30 (by decide) ?_ ?_
            · exact vp_in_iff.mpr (by omega)
            refine z_bipush (v := 7) C dX4_follows_95 (by decide) ?_
            refine zs_callVi C dX4_follows_97 zm_X4_39 zyX2_plainMinutes (c_plainMinutes _ _ _ _ _ hI (hS a.toNatClampNeg (by rw [zcl_int q5.1]; omega))) zc_2 rfl zk_1 (by decide) (by decide) rfl rfl (Nat.le_of_ble_eq_true rfl) (by decide) (by decide) ?_
            refine z_iadd C dX4_follows_100 ?_
            refine z_iload_n C dX4_follows_101 rfl ?_
            refine z_iadd C dX4_follows_102 ?_
            refine z_istore (lv' := [some (.ref 29), some (.int a), some (.int b), some (.int rest), some (.ref 1), some (.int _), some (.int _), some (.int _)]) C dX4_follows_103 (by decide) rfl ?_
            refine z_iload C dX4_follows_105 rfl ?_
            refine z_iload C dX4_follows_107 rfl ?_
            refine z_icmp_ne (tgt := 127) C dX4_follows_109 (by decide) (fun q109 => ?_) (fun q109 => ?_)
            · refine z_iconst (v := 0) C dX4_follows_127 (by decide) ?_
              refine zs_iret C E dX4_follows_128 rfl ?_ ?_ ?_
              · have e1 := zend_c iv a.toNatClampNeg
                have e2 := zbeg_c iv b.toNatClampNeg
                first
                  | exact (zb_t ⟨q5, q13, q20, by unfold zend zbeg; simp [q31, q59]; simpa using q109, by unfold zrdy; omega⟩).symm
                  | exact (zb_f (fun z => by
                      obtain ⟨-, -, -, z4, z5⟩ := z
                      first
                        | (unfold zrdy at z5; omega)
                        | (apply q109; unfold zend zbeg at z4; simp [q31, q59] at z4; simpa using z4))).symm
              · rfl
              · rfl
            · refine z_aload_n C dX4_follows_112 rfl ?_
              refine zs_getR C dX4_follows_113 zf_X4_15 zk_29 (by decide) (zr_29_2 n) ?_
              refine z_iload_n C dX4_follows_116 rfl ?_
              refine z_iald C dX4_follows_117 zk_31 (by decide) ?_ ?_
              · exact vp_in_iff.mpr (by omega)
              refine z_iload C dX4_follows_118 rfl ?_
              refine zt_icmp_lt (tgt := 127) C dX4_follows_120 rfl rfl (by decide) (fun q120 => ?_) (fun q120 => ?_)
              · refine z_iconst (v := 0) C dX4_follows_127 (by decide) ?_
                refine zs_iret C E dX4_follows_128 rfl ?_ ?_ ?_
                · have e1 := zend_c iv a.toNatClampNeg
                  have e2 := zbeg_c iv b.toNatClampNeg
                  first
                    | exact (zb_t ⟨q5, q13, q20, by unfold zend zbeg; simp [q31, q59]; simpa using q109, by unfold zrdy; omega⟩).symm
                    | exact (zb_f (fun z => by
                        obtain ⟨-, -, -, z4, z5⟩ := z
                        first
                          | (unfold zrdy at z5; omega)
                          | (apply q109; unfold zend zbeg at z4; simp [q31, q59] at z4; simpa using z4))).symm
                · rfl
                · rfl
              · refine z_iconst (v := 1) C dX4_follows_123 (by decide) ?_
                refine z_goto (tgt := 128) C dX4_follows_124 (by decide) ?_
                refine zs_iret C E dX4_follows_128 rfl ?_ ?_ ?_
                · have e1 := zend_c iv a.toNatClampNeg
                  have e2 := zbeg_c iv b.toNatClampNeg
                  first
                    | exact (zb_t ⟨q5, q13, q20, by unfold zend zbeg; simp [q31, q59]; simpa using q109, by unfold zrdy; omega⟩).symm
                    | exact (zb_f (fun z => by
                        obtain ⟨-, -, -, z4, z5⟩ := z
                        first
                          | (unfold zrdy at z5; omega)
                          | (apply q109; unfold zend zbeg at z4; simp [q31, q59] at z4; simpa using z4))).symm
                · rfl
                · rfl
        · refine z_aload_n C dX4_follows_34 rfl ?_
          refine zs_getR C dX4_follows_35 zf_X4_11 zk_29 (by decide) (zr_29_1 n) ?_
          refine z_iload_n C dX4_follows_38 rfl ?_
          refine z_iald C dX4_follows_39 zk_30 (by decide) ?_ ?_
          · exact vp_in_iff.mpr (by omega)
          refine z_iconst (v := 1) C dX4_follows_40 (by decide) ?_
          refine z_iadd C dX4_follows_41 ?_
          refine z_goto (tgt := 51) C dX4_follows_42 (by decide) ?_
          refine z_istore (lv' := [some (.ref 29), some (.int a), some (.int b), some (.int rest), some (.ref 1), some (.int _), none, none]) C dX4_follows_51 (by decide) rfl ?_
          refine z_aload_n C dX4_follows_53 rfl ?_
          refine zs_getR C dX4_follows_54 zf_X4_18 zk_29 (by decide) (zr_29_3 n) ?_
          refine z_iload_n C dX4_follows_57 rfl ?_
          refine z_zald C dX4_follows_58 zk_32 (by decide) ?_ ?_
          · exact vp_in_iff.mpr (by omega)
          refine z_if_eq (tgt := 71) C dX4_follows_59 (by decide) (fun q59 => ?_) (fun q59 => ?_)
          · refine z_aload_n C dX4_follows_71 rfl ?_
            refine zs_getR C dX4_follows_72 zf_X4_11 zk_29 (by decide) (zr_29_1 n) ?_
            refine z_iload_n C dX4_follows_75 rfl ?_
            refine z_iald C dX4_follows_76 zk_30 (by decide) ?_ ?_
            · exact vp_in_iff.mpr (by omega)
            refine z_iconst (v := 1) C dX4_follows_77 (by decide) ?_
            refine z_iadd C dX4_follows_78 ?_
            refine z_istore (lv' := [some (.ref 29), some (.int a), some (.int b), some (.int rest), some (.ref 1), some (.int _), some (.int _), none]) C dX4_follows_79 (by decide) rfl ?_
            refine z_aload_n C dX4_follows_81 rfl ?_
            refine zs_getR C dX4_follows_82 zf_X4_15 zk_29 (by decide) (zr_29_2 n) ?_
            refine z_iload_n C dX4_follows_85 rfl ?_
            refine z_iald C dX4_follows_86 zk_31 (by decide) ?_ ?_
            · exact vp_in_iff.mpr (by omega)
            refine z_aload C dX4_follows_87 rfl ?_
            refine z_aload_n C dX4_follows_89 rfl ?_
            refine zs_getR C dX4_follows_90 zf_X4_11 zk_29 (by decide) (zr_29_1 n) ?_
            refine z_iload_n C dX4_follows_93 rfl ?_
            refine z_iald C dX4_follows_94 zk_30 (by decide) ?_ ?_
            · exact vp_in_iff.mpr (by omega)
            refine z_bipush (v := 7) C dX4_follows_95 (by decide) ?_
            refine zs_callVi C dX4_follows_97 zm_X4_39 zyX2_plainMinutes (c_plainMinutes _ _ _ _ _ hI (hS a.toNatClampNeg (by rw [zcl_int q5.1]; omega))) zc_2 rfl zk_1 (by decide) (by decide) rfl rfl (Nat.le_of_ble_eq_true rfl) (by decide) (by decide) ?_
            refine z_iadd C dX4_follows_100 ?_
            refine z_iload_n C dX4_follows_101 rfl ?_
            refine z_iadd C dX4_follows_102 ?_
            refine z_istore (lv' := [some (.ref 29), some (.int a), some (.int b), some (.int rest), some (.ref 1), some (.int _), some (.int _), some (.int _)]) C dX4_follows_103 (by decide) rfl ?_
            refine z_iload C dX4_follows_105 rfl ?_
            refine z_iload C dX4_follows_107 rfl ?_
            refine z_icmp_ne (tgt := 127) C dX4_follows_109 (by decide) (fun q109 => ?_) (fun q109 => ?_)
            · refine z_iconst (v := 0) C dX4_follows_127 (by decide) ?_
              refine zs_iret C E dX4_follows_128 rfl ?_ ?_ ?_
              · have e1 := zend_c iv a.toNatClampNeg
                have e2 := zbeg_c iv b.toNatClampNeg
                first
                  | exact (zb_t ⟨q5, q13, q20, by unfold zend zbeg; simp [q31, q59]; simpa using q109, by unfold zrdy; omega⟩).symm
                  | exact (zb_f (fun z => by
                      obtain ⟨-, -, -, z4, z5⟩ := z
                      first
                        | (unfold zrdy at z5; omega)
                        | (apply q109; unfold zend zbeg at z4; simp [q31, q59] at z4; simpa using z4))).symm
              · rfl
              · rfl
            · refine z_aload_n C dX4_follows_112 rfl ?_
              refine zs_getR C dX4_follows_113 zf_X4_15 zk_29 (by decide) (zr_29_2 n) ?_
              refine z_iload_n C dX4_follows_116 rfl ?_
              refine z_iald C dX4_follows_117 zk_31 (by decide) ?_ ?_
              · exact vp_in_iff.mpr (by omega)
              refine z_iload C dX4_follows_118 rfl ?_
              refine zt_icmp_lt (tgt := 127) C dX4_follows_120 rfl rfl (by decide) (fun q120 => ?_) (fun q120 => ?_)
              · refine z_iconst (v := 0) C dX4_follows_127 (by decide) ?_
                refine zs_iret C E dX4_follows_128 rfl ?_ ?_ ?_
                · have e1 := zend_c iv a.toNatClampNeg
                  have e2 := zbeg_c iv b.toNatClampNeg
                  first
                    | exact (zb_t ⟨q5, q13, q20, by unfold zend zbeg; simp [q31, q59]; simpa using q109, by unfold zrdy; omega⟩).symm
                    | exact (zb_f (fun z => by
                        obtain ⟨-, -, -, z4, z5⟩ := z
                        first
                          | (unfold zrdy at z5; omega)
                          | (apply q109; unfold zend zbeg at z4; simp [q31, q59] at z4; simpa using z4))).symm
                · rfl
                · rfl
              · refine z_iconst (v := 1) C dX4_follows_123 (by decide) ?_
                refine z_goto (tgt := 128) C dX4_follows_124 (by decide) ?_
                refine zs_iret C E dX4_follows_128 rfl ?_ ?_ ?_
                · have e1 := zend_c iv a.toNatClampNeg
                  have e2 := zbeg_c iv b.toNatClampNeg
                  first
                    | exact (zb_t ⟨q5, q13, q20, by unfold zend zbeg; simp [q31, q59]; simpa using q109, by unfold zrdy; omega⟩).symm
                    | exact (zb_f (fun z => by
                        obtain ⟨-, -, -, z4, z5⟩ := z
                        first
                          | (unfold zrdy at z5; omega)
                          | (apply q109; unfold zend zbeg at z4; simp [q31, q59] at z4; simpa using z4))).symm
                · rfl
                · rfl
          · refine z_aload_n C dX4_follows_62 rfl ?_
            refine zs_getR C dX4_follows_63 zf_X4_11 zk_29 (by decide) (zr_29_1 n) ?_
            refine z_iload_n C dX4_follows_66 rfl ?_
            refine z_iald C dX4_follows_67 zk_30 (by decide) ?_ ?_
            · exact vp_in_iff.mpr (by omega)
            refine z_goto (tgt := 79) C dX4_follows_68 (by decide) ?_
            refine z_istore (lv' := [some (.ref 29), some (.int a), some (.int b), some (.int rest), some (.ref 1), some (.int _), some (.int _), none]) C dX4_follows_79 (by decide) rfl ?_
            refine z_aload_n C dX4_follows_81 rfl ?_
            refine zs_getR C dX4_follows_82 zf_X4_15 zk_29 (by decide) (zr_29_2 n) ?_
            refine z_iload_n C dX4_follows_85 rfl ?_
            refine z_iald C dX4_follows_86 zk_31 (by decide) ?_ ?_
            · exact vp_in_iff.mpr (by omega)
            refine z_aload C dX4_follows_87 rfl ?_
            refine z_aload_n C dX4_follows_89 rfl ?_
            refine zs_getR C dX4_follows_90 zf_X4_11 zk_29 (by decide) (zr_29_1 n) ?_
            refine z_iload_n C dX4_follows_93 rfl ?_
            refine z_iald C dX4_follows_94 zk_30 (by decide) ?_ ?_
            · exact vp_in_iff.mpr (by omega)
            refine z_bipush (v := 7) C dX4_follows_95 (by decide) ?_
            refine zs_callVi C dX4_follows_97 zm_X4_39 zyX2_plainMinutes (c_plainMinutes _ _ _ _ _ hI (hS a.toNatClampNeg (by rw [zcl_int q5.1]; omega))) zc_2 rfl zk_1 (by decide) (by decide) rfl rfl (Nat.le_of_ble_eq_true rfl) (by decide) (by decide) ?_
            refine z_iadd C dX4_follows_100 ?_
            refine z_iload_n C dX4_follows_101 rfl ?_
            refine z_iadd C dX4_follows_102 ?_
            refine z_istore (lv' := [some (.ref 29), some (.int a), some (.int b), some (.int rest), some (.ref 1), some (.int _), some (.int _), some (.int _)]) C dX4_follows_103 (by decide) rfl ?_
            refine z_iload C dX4_follows_105 rfl ?_
            refine z_iload C dX4_follows_107 rfl ?_
            refine z_icmp_ne (tgt := 127) C dX4_follows_109 (by decide) (fun q109 => ?_) (fun q109 => ?_)
            · refine z_iconst (v := 0) C dX4_follows_127 (by decide) ?_
              refine zs_iret C E dX4_follows_128 rfl ?_ ?_ ?_
              · have e1 := zend_c iv a.toNatClampNeg
                have e2 := zbeg_c iv b.toNatClampNeg
                first
                  | exact (zb_t ⟨q5, q13, q20, by unfold zend zbeg; simp [q31, q59]; simpa using q109, by unfold zrdy; omega⟩).symm
                  | exact (zb_f (fun z => by
                      obtain ⟨-, -, -, z4, z5⟩ := z
                      first
                        | (unfold zrdy at z5; omega)
                        | (apply q109; unfold zend zbeg at z4; simp [q31, q59] at z4; simpa using z4))).symm
              · rfl
              · rfl
            · refine z_aload_n C dX4_follows_112 rfl ?_
              refine zs_getR C dX4_follows_113 zf_X4_15 zk_29 (by decide) (zr_29_2 n) ?_
              refine z_iload_n C dX4_follows_116 rfl ?_
              refine z_iald C dX4_follows_117 zk_31 (by decide) ?_ ?_
              · exact vp_in_iff.mpr (by omega)
              refine z_iload C dX4_follows_118 rfl ?_
              refine zt_icmp_lt (tgt := 127) C dX4_follows_120 rfl rfl (by decide) (fun q120 => ?_) (fun q120 => ?_)
              · refine z_iconst (v := 0) C dX4_follows_127 (by decide) ?_
                refine zs_iret C E dX4_follows_128 rfl ?_ ?_ ?_
                · have e1 := zend_c iv a.toNatClampNeg
                  have e2 := zbeg_c iv b.toNatClampNeg
                  first
                    | exact (zb_t ⟨q5, q13, q20, by unfold zend zbeg; simp [q31, q59]; simpa using q109, by unfold zrdy; omega⟩).symm
                    | exact (zb_f (fun z => by
                        obtain ⟨-, -, -, z4, z5⟩ := z
                        first
                          | (unfold zrdy at z5; omega)
                          | (apply q109; unfold zend zbeg at z4; simp [q31, q59] at z4; simpa using z4))).symm
                · rfl
                · rfl
              · refine z_iconst (v := 1) C dX4_follows_123 (by decide) ?_
                refine z_goto (tgt := 128) C dX4_follows_124 (by decide) ?_
                refine zs_iret C E dX4_follows_128 rfl ?_ ?_ ?_
                · have e1 := zend_c iv a.toNatClampNeg
                  have e2 := zbeg_c iv b.toNatClampNeg
                  first
                    | exact (zb_t ⟨q5, q13, q20, by unfold zend zbeg; simp [q31, q59]; simpa using q109, by unfold zrdy; omega⟩).symm
                    | exact (zb_f (fun z => by
                        obtain ⟨-, -, -, z4, z5⟩ := z
                        first
                          | (unfold zrdy at z5; omega)
                          | (apply q109; unfold zend zbeg at z4; simp [q31, q59] at z4; simpa using z4))).symm
                · rfl
                · rfl
      · refine z_iconst (v := 0) C dX4_follows_23 (by decide) ?_
        refine zs_iret C E dX4_follows_24 rfl ?_ ?_ ?_
        · exact (zb_f (fun z => by first | exact q5 z.1 | exact q13 z.2.1 | exact q20 z.2.2.1)).symm
        · rfl
        · rfl

/-- the earliest trip that is not met, among the first m; NONE if there is none -/
def zearl (met beg : Nat → Int32) (t : Int) : Nat → Int32
  | 0 => -1
  | m + 1 => if met m = 0 ∧ (¬ (0 ≤ (zearl met beg t m).toInt ∧ (zearl met beg t m).toInt < t) ∨ (beg m).toInt < (beg (zearl met beg t m).toNatClampNeg).toInt) then nI m else zearl met beg t m
theorem zearl_s (met beg : Nat → Int32) (t : Int) (m : Nat) : zearl met beg t (m + 1) = if met m = 0 ∧ (¬ (0 ≤ (zearl met beg t m).toInt ∧ (zearl met beg t m).toInt < t) ∨ (beg m).toInt < (beg (zearl met beg t m).toNatClampNeg).toInt) then nI m else zearl met beg t m := rfl
def zmeet (iv : zI) (t : Nat) : zI := if 0 ≤ (zearl (iv 33) (iv 31) t t).toInt ∧ (zearl (iv 33) (iv 31) t t).toInt < t then zu iv 33 (zearl (iv 33) (iv 31) t t).toNatClampNeg 1 else iv

set_option maxRecDepth 4000 in
theorem lp_meet (n : Nat) (iv : zI) (lw : zG) (t : Nat) (ht : iv 29 0 = nI t) (ht2 : t ≤ 24) {X : zX} (C : zC X cX4_meetEarliest 3 RX4 (some .int) "meetEarliest" 1 0 0) (E : zEnd X (91 + 3 * n) 0 0 (zQ n (zQi (zearl (iv 33) (iv 31) t t) (zmeet iv t) lw))) : ∀ (k : Nat) (i : Nat), i + k = t → zJs X n 3 4 [some (.ref 29), some (.int (zearl (iv 33) (iv 31) t i)), some (.int (nI i))] [] iv lw := by
  intro k
  induction k with
  | zero =>
    intro i hk
    have e0 : (iv 29 0).toInt = t := zt_nI ht (by omega)
    refine z_iload_n C dX4_meetEarliest_4 rfl ?_
    refine z_aload_n C dX4_meetEarliest_5 rfl ?_
    refine z_getI C dX4_meetEarliest_6 zf_X4_28 zk_29 (by decide) ?_
    refine zt_icmp_ge (tgt := 52) C dX4_meetEarliest_9 (nI_toInt (by omega)) (zt_nI ht (by omega)) (by decide) (fun q9 => ?_) (fun q9 => ?_)
    · refine z_aload_n C dX4_meetEarliest_52 rfl ?_
      refine z_iload_n C dX4_meetEarliest_53 rfl ?_
      refine zs_callVi C dX4_meetEarliest_54 zm_X4_32 zyX4_has (c_phas _ _ _ _) zc_4 rfl zk_29 (by decide) (by decide) rfl rfl (Nat.le_of_ble_eq_true rfl) (by decide) (by decide) ?_
      refine zb_if_eq (tgt := 67) C dX4_meetEarliest_57 (by decide) (fun q57 => ?_) (fun q57 => ?_)
      · rw [e0] at q57
        refine z_iload_n C dX4_meetEarliest_67 rfl ?_
        refine zs_iret C E dX4_meetEarliest_68 rfl ?_ ?_ ?_
        · rw [show i = t by omega]
        · unfold zmeet
          have ei : i = t := by omega
          subst ei
          first | exact (if_pos q57).symm | exact (if_neg q57).symm
        · rfl
      · rw [e0] at q57
        refine z_aload_n C dX4_meetEarliest_60 rfl ?_
        refine zs_getR C dX4_meetEarliest_61 zf_X4_22 zk_29 (by decide) (zr_29_4 n) ?_
        refine z_iload_n C dX4_meetEarliest_64 rfl ?_
        refine z_iconst (v := 1) C dX4_meetEarliest_65 (by decide) ?_
        refine z_zast C dX4_meetEarliest_66 zk_33 (by decide) ?_ ?_
        · exact vp_in_iff.mpr (by omega)
        refine z_iload_n C dX4_meetEarliest_67 rfl ?_
        refine zs_iret C E dX4_meetEarliest_68 rfl ?_ ?_ ?_
        · rw [show i = t by omega]
        · unfold zmeet
          have ei : i = t := by omega
          subst ei
          first | exact (if_pos q57).symm | exact (if_neg q57).symm
        · rfl
    · exfalso; omega
  | succ k ih =>
    intro i hk
    have e0 : (iv 29 0).toInt = t := zt_nI ht (by omega)
    refine z_iload_n C dX4_meetEarliest_4 rfl ?_
    refine z_aload_n C dX4_meetEarliest_5 rfl ?_
    refine z_getI C dX4_meetEarliest_6 zf_X4_28 zk_29 (by decide) ?_
    refine zt_icmp_ge (tgt := 52) C dX4_meetEarliest_9 (nI_toInt (by omega)) (zt_nI ht (by omega)) (by decide) (fun q9 => ?_) (fun q9 => ?_)
    · exfalso; omega
    · refine z_aload_n C dX4_meetEarliest_12 rfl ?_
      refine zs_getR C dX4_meetEarliest_13 zf_X4_22 zk_29 (by decide) (zr_29_4 n) ?_
      refine z_iload_n C dX4_meetEarliest_16 rfl ?_
      refine z_zald C dX4_meetEarliest_17 zk_33 (by decide) ?_ ?_
      · exact vp_in_nI (by omega) (by decide)
      refine z_if_ne (tgt := 46) C dX4_meetEarliest_18 (by decide) (fun q18 => ?_) (fun q18 => ?_)
      · rw [nI_clamp (by omega)] at q18
        refine z_iinc (y := 1) (lv' := [some (.ref 29), some (.int _), some (.int _)]) C dX4_meetEarliest_46 rfl (by decide) (by decide) rfl ?_
        refine z_goto (tgt := 4) C dX4_meetEarliest_49 (by decide) ?_
        rw [nI_1 i]
        have ez := zearl_s (iv 33) (iv 31) t i
        first
          | (have e9 : zearl (iv 33) (iv 31) t (i + 1) = nI i := by
               rw [ez]; exact if_pos ⟨q18, by first | exact Or.inl q26 | exact Or.inr (by omega)⟩
             have e8 := ih (i + 1) (by omega)
             rw [e9] at e8; exact e8)
          | (have e9 : zearl (iv 33) (iv 31) t (i + 1) = zearl (iv 33) (iv 31) t i := by
               rw [ez]; exact if_neg (fun z => by first | exact q18 z.1 | (rcases z.2 with z2 | z2 <;> first | exact z2 q26 | omega))
             have e8 := ih (i + 1) (by omega)
             rw [e9] at e8; exact e8)
      · rw [nI_clamp (by omega)] at q18
        refine z_aload_n C dX4_meetEarliest_21 rfl ?_
        refine z_iload_n C dX4_meetEarliest_22 rfl ?_
        refine zs_callVi C dX4_meetEarliest_23 zm_X4_32 zyX4_has (c_phas _ _ _ _) zc_4 rfl zk_29 (by decide) (by decide) rfl rfl (Nat.le_of_ble_eq_true rfl) (by decide) (by decide) ?_
        refine zb_if_eq (tgt := 44) C dX4_meetEarliest_26 (by decide) (fun q26 => ?_) (fun q26 => ?_)
        · rw [e0] at q26
          refine z_iload_n C dX4_meetEarliest_44 rfl ?_
          refine z_istore_n (lv' := [some (.ref 29), some (.int _), some (.int _)]) C dX4_meetEarliest_45 (by decide) rfl ?_
          refine z_iinc (y := 1) (lv' := [some (.ref 29), some (.int _), some (.int _)]) C dX4_meetEarliest_46 rfl (by decide) (by decide) rfl ?_
          refine z_goto (tgt := 4) C dX4_meetEarliest_49 (by decide) ?_
          rw [nI_1 i]
          have ez := zearl_s (iv 33) (iv 31) t i
          first
            | (have e9 : zearl (iv 33) (iv 31) t (i + 1) = nI i := by
                 rw [ez]; exact if_pos ⟨q18, by first | exact Or.inl q26 | exact Or.inr (by omega)⟩
               have e8 := ih (i + 1) (by omega)
               rw [e9] at e8; exact e8)
            | (have e9 : zearl (iv 33) (iv 31) t (i + 1) = zearl (iv 33) (iv 31) t i := by
                 rw [ez]; exact if_neg (fun z => by first | exact q18 z.1 | (rcases z.2 with z2 | z2 <;> first | exact z2 q26 | omega))
               have e8 := ih (i + 1) (by omega)
               rw [e9] at e8; exact e8)
        · rw [e0] at q26
          refine z_aload_n C dX4_meetEarliest_29 rfl ?_
          refine zs_getR C dX4_meetEarliest_30 zf_X4_15 zk_29 (by decide) (zr_29_2 n) ?_
          refine z_iload_n C dX4_meetEarliest_33 rfl ?_
          refine z_iald C dX4_meetEarliest_34 zk_31 (by decide) ?_ ?_
          · exact vp_in_nI (by omega) (by decide)
          refine z_aload_n C dX4_meetEarliest_35 rfl ?_
          refine zs_getR C dX4_meetEarliest_36 zf_X4_15 zk_29 (by decide) (zr_29_2 n) ?_
          refine z_iload_n C dX4_meetEarliest_39 rfl ?_
          refine z_iald C dX4_meetEarliest_40 zk_31 (by decide) ?_ ?_
          · exact vp_in_iff.mpr (by omega)
          refine zt_icmp_ge (tgt := 46) C dX4_meetEarliest_41 rfl rfl (by decide) (fun q41 => ?_) (fun q41 => ?_)
          · rw [nI_clamp (by omega)] at q41
            refine z_iinc (y := 1) (lv' := [some (.ref 29), some (.int _), some (.int _)]) C dX4_meetEarliest_46 rfl (by decide) (by decide) rfl ?_
            refine z_goto (tgt := 4) C dX4_meetEarliest_49 (by decide) ?_
            rw [nI_1 i]
            have ez := zearl_s (iv 33) (iv 31) t i
            first
              | (have e9 : zearl (iv 33) (iv 31) t (i + 1) = nI i := by
                   rw [ez]; exact if_pos ⟨q18, by first | exact Or.inl q26 | exact Or.inr (by omega)⟩
                 have e8 := ih (i + 1) (by omega)
                 rw [e9] at e8; exact e8)
              | (have e9 : zearl (iv 33) (iv 31) t (i + 1) = zearl (iv 33) (iv 31) t i := by
                   rw [ez]; exact if_neg (fun z => by first | exact q18 z.1 | (rcases z.2 with z2 | z2 <;> first | exact z2 q26 | omega))
                 have e8 := ih (i + 1) (by omega)
                 rw [e9] at e8; exact e8)
          · rw [nI_clamp (by omega)] at q41
            refine z_iload_n C dX4_meetEarliest_44 rfl ?_
            refine z_istore_n (lv' := [some (.ref 29), some (.int _), some (.int _)]) C dX4_meetEarliest_45 (by decide) rfl ?_
            refine z_iinc (y := 1) (lv' := [some (.ref 29), some (.int _), some (.int _)]) C dX4_meetEarliest_46 rfl (by decide) (by decide) rfl ?_
            refine z_goto (tgt := 4) C dX4_meetEarliest_49 (by decide) ?_
            rw [nI_1 i]
            have ez := zearl_s (iv 33) (iv 31) t i
            first
              | (have e9 : zearl (iv 33) (iv 31) t (i + 1) = nI i := by
                   rw [ez]; exact if_pos ⟨q18, by first | exact Or.inl q26 | exact Or.inr (by omega)⟩
                 have e8 := ih (i + 1) (by omega)
                 rw [e9] at e8; exact e8)
              | (have e9 : zearl (iv 33) (iv 31) t (i + 1) = zearl (iv 33) (iv 31) t i := by
                   rw [ez]; exact if_neg (fun z => by first | exact q18 z.1 | (rcases z.2 with z2 | z2 <;> first | exact z2 q26 | omega))
                 have e8 := ih (i + 1) (by omega)
                 rw [e9] at e8; exact e8)

set_option maxRecDepth 4000 in
theorem c_meet (n : Nat) (iv : zI) (lw : zG) (t : Nat) (ht : iv 29 0 = nI t) (ht2 : t ≤ 24) : zMi yX4_meetEarliest cX4_meetEarliest 3 (some .int) 1 [.ref 29] n iv lw (zearl (iv 33) (iv 31) t t) (zmeet iv t) lw := by
  refine zM.of (by decide) (Nat.le_of_ble_eq_true rfl) (fun X C E => ?_)
  change zJs X n 3 0 [some (.ref 29), none, none] [] iv lw
  refine z_iconst (v := (-1)) C dX4_meetEarliest_0 (by decide) ?_
  refine z_istore_n (lv' := [some (.ref 29), some (.int _), none]) C dX4_meetEarliest_1 (by decide) rfl ?_
  refine z_iconst (v := 0) C dX4_meetEarliest_2 (by decide) ?_
  refine z_istore_n (lv' := [some (.ref 29), some (.int _), some (.int _)]) C dX4_meetEarliest_3 (by decide) rfl ?_
  exact lp_meet n iv lw t ht ht2 (zC_le (by decide) C) E t 0 (by omega)

/-- the first i from i0 on, of k, of which p holds; NONE if there is none -/
def zfst (p : Nat → Bool) : Nat → Nat → Int32
  | _, 0 => -1
  | i, k + 1 => if p i then nI i else zfst p (i + 1) k
def zrf (iv : zI) (tr rest : Int32) (i : Nat) : Bool := decide (iv 34 i = 0 ∧ zfol iv (nI i) tr rest)

set_option maxRecDepth 4000 in
theorem lp_ready (n : Nat) (iv : zI) (lw : zG) (tr rest : Int32) (t : Nat) (ht : iv 29 0 = nI t) (ht2 : t ≤ 24) (hI : 2 ≤ (iv 1 0).toInt ∧ (iv 1 0).toInt ≤ 8) (hS : ∀ k, ((k : Nat) : Int) < (iv 29 0).toInt → 0 ≤ (iv 30 k).toInt ∧ (iv 30 k).toInt < (iv 1 0).toInt - 1) (r0 : Int32) {X : zX} (C : zC X cX4_readyFor 5 RX4 (some .int) "readyFor" 3 0 0) (E : zEnd X (91 + 3 * n) 0 0 (zQ n (zQi r0 iv lw))) : ∀ (k : Nat) (i : Nat), i + k = t → zfst (zrf iv tr rest) i k = r0 → zJs X n 5 3 [some (.ref 29), some (.int tr), some (.int rest), some (.ref 1), some (.int (nI i))] [] iv lw := by
  intro k
  induction k with
  | zero =>
    intro i hk hr
    have e0 : (iv 29 0).toInt = t := zt_nI ht (by omega)
    refine z_iload C dX4_readyFor_3 rfl ?_
    refine z_aload_n C dX4_readyFor_5 rfl ?_
    refine z_getI C dX4_readyFor_6 zf_X4_28 zk_29 (by decide) ?_
    refine zt_icmp_ge (tgt := 43) C dX4_readyFor_9 (nI_toInt (by omega)) (zt_nI ht (by omega)) (by decide) (fun q9 => ?_) (fun q9 => ?_)
    · refine z_iconst (v := (-1)) C dX4_readyFor_43 (by decide) ?_
      refine zs_iret C E dX4_readyFor_44 rfl ?_ ?_ ?_
      · exact hr
      · rfl
      · rfl
    · exfalso; omega
  | succ k ih =>
    intro i hk hr
    have e0 : (iv 29 0).toInt = t := zt_nI ht (by omega)
    refine z_iload C dX4_readyFor_3 rfl ?_
    refine z_aload_n C dX4_readyFor_5 rfl ?_
    refine z_getI C dX4_readyFor_6 zf_X4_28 zk_29 (by decide) ?_
    refine zt_icmp_ge (tgt := 43) C dX4_readyFor_9 (nI_toInt (by omega)) (zt_nI ht (by omega)) (by decide) (fun q9 => ?_) (fun q9 => ?_)
    · exfalso; omega
    · refine z_aload_n C dX4_readyFor_12 rfl ?_
      refine zs_getR C dX4_readyFor_13 zf_X4_25 zk_29 (by decide) (zr_29_5 n) ?_
      refine z_iload C dX4_readyFor_16 rfl ?_
      refine z_zald C dX4_readyFor_18 zk_34 (by decide) ?_ ?_
      · exact vp_in_nI (by omega) (by decide)
      refine z_if_ne (tgt := 37) C dX4_readyFor_19 (by decide) (fun q19 => ?_) (fun q19 => ?_)
      · rw [nI_clamp (by omega)] at q19
        refine z_iinc (y := 1) (lv' := [some (.ref 29), some (.int tr), some (.int rest), some (.ref 1), some (.int _)]) C dX4_readyFor_37 rfl (by decide) (by decide) rfl ?_
        refine z_goto (tgt := 3) C dX4_readyFor_40 (by decide) ?_
        rw [nI_1 i]
        refine ih (i + 1) (by omega) ?_
        rw [← hr, zfst, if_neg (by
          intro z
          have z' := of_decide_eq_true z
          first | exact q19 z'.1 | exact q31 z'.2)]
      · rw [nI_clamp (by omega)] at q19
        refine z_aload_n C dX4_readyFor_22 rfl ?_
        refine z_iload C dX4_readyFor_23 rfl ?_
        refine z_iload_n C dX4_readyFor_25 rfl ?_
        refine z_iload_n C dX4_readyFor_26 rfl ?_
        refine z_aload_n C dX4_readyFor_27 rfl ?_
        refine zs_callVi C dX4_readyFor_28 zm_X4_53 zyX4_follows (c_follows _ _ _ _ _ _ (by rw [e0]; omega) hI hS) zc_4 rfl zk_29 (by decide) (by decide) rfl rfl (Nat.le_of_ble_eq_true rfl) (by decide) (by decide) ?_
        refine zb_if_eq (tgt := 37) C dX4_readyFor_31 (by decide) (fun q31 => ?_) (fun q31 => ?_)
        · refine z_iinc (y := 1) (lv' := [some (.ref 29), some (.int tr), some (.int rest), some (.ref 1), some (.int _)]) C dX4_readyFor_37 rfl (by decide) (by decide) rfl ?_
          refine z_goto (tgt := 3) C dX4_readyFor_40 (by decide) ?_
          rw [nI_1 i]
          refine ih (i + 1) (by omega) ?_
          rw [← hr, zfst, if_neg (by
            intro z
            have z' := of_decide_eq_true z
            first | exact q19 z'.1 | exact q31 z'.2)]
        · refine z_iload C dX4_readyFor_34 rfl ?_
          refine zs_iret C E dX4_readyFor_36 rfl ?_ ?_ ?_
          · rw [← hr, zfst, if_pos (show zrf iv tr rest i = true from decide_eq_true ⟨q19, q31⟩)]
          · rfl
          · rfl

set_option maxRecDepth 4000 in
theorem c_ready (n : Nat) (iv : zI) (lw : zG) (tr rest : Int32) (t : Nat) (ht : iv 29 0 = nI t) (ht2 : t ≤ 24) (hI : 2 ≤ (iv 1 0).toInt ∧ (iv 1 0).toInt ≤ 8) (hS : ∀ k, ((k : Nat) : Int) < (iv 29 0).toInt → 0 ≤ (iv 30 k).toInt ∧ (iv 30 k).toInt < (iv 1 0).toInt - 1) : zMi yX4_readyFor cX4_readyFor 5 (some .int) 3 [.ref 29, .int tr, .int rest, .ref 1] n iv lw (zfst (zrf iv tr rest) 0 t) iv lw := by
  refine zM.of (by decide) (Nat.le_of_ble_eq_true rfl) (fun X C E => ?_)
  change zJs X n 5 0 [some (.ref 29), some (.int tr), some (.int rest), some (.ref 1), none] [] iv lw
  refine z_iconst (v := 0) C dX4_readyFor_0 (by decide) ?_
  refine z_istore (lv' := [some (.ref 29), some (.int tr), some (.int rest), some (.ref 1), some (.int _)]) C dX4_readyFor_1 (by decide) rfl ?_
  exact lp_ready n iv lw tr rest t ht ht2 hI hS _ C E t 0 (by omega) rfl
