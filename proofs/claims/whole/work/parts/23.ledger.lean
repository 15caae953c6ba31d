set_option maxRecDepth 4000 in
theorem c_tapeRoom (n : Nat) (iv : zI) (lw : zG) : zMi yX8_hasRoom cX8_hasRoom 1 (some .boolean) 0 [.ref 12] n iv lw (zb ((iv 12 1).toInt ≤ 780)) iv lw := by
  refine zM.of (by decide) (Nat.le_of_ble_eq_true rfl) (fun X C E => ?_)
  change zJs X n 1 0 [some (.ref 12)] [] iv lw
  refine z_aload_n C dX8_hasRoom_0 rfl ?_
  refine z_getI C dX8_hasRoom_1 zf_X8_13 zk_12 (by decide) ?_
  refine z_sipush (v := 780) C dX8_hasRoom_4 (by decide) ?_
  refine zt_icmp_gt (tgt := 14) C dX8_hasRoom_7 rfl (show (780 : Int32).toInt = 780 by decide) (by decide) (fun q7 => ?_) (fun q7 => ?_)
  · refine z_iconst (v := 0) C dX8_hasRoom_14 (by decide) ?_
    refine zs_iret C E dX8_hasRoom_15 rfl ?_ ?_ ?_
    · exact (zb_f (by omega)).symm
    · rfl
    · rfl
  · refine z_iconst (v := 1) C dX8_hasRoom_10 (by decide) ?_
    refine z_goto (tgt := 15) C dX8_hasRoom_11 (by decide) ?_
    refine zs_iret C E dX8_hasRoom_15 rfl ?_ ?_ ?_
    · exact (zb_t (by omega)).symm
    · rfl
    · rfl

/-- the shift for the byte of number j -/
def zsh : Nat → Int32
  | 0 => 24
  | j + 1 => zsh j + (-8)
theorem zsh_s (j : Nat) : zsh j + (-8) = zsh (j + 1) := rfl
theorem zsh_lt : ∀ j, j < 4 → 0 ≤ (zsh j).toInt := by decide
theorem zsh_4 : (zsh 4).toInt < 0 := by decide
/-- j bytes of v come on the tape -/
def zwr (iv : zI) (v : Int32) : Nat → zI
  | 0 => iv
  | j + 1 => zu (zu (zwr iv v j) 13 (zwr iv v j 12 1).toNatClampNeg (v >>> (zsh j &&& 31)).toInt8.toInt32) 12 1 (zwr iv v j 12 1 + 1)
theorem zwr_len (iv : zI) (v : Int32) : ∀ j, zwr iv v j 12 1 = iv 12 1 + nI j
  | 0 => by show iv 12 1 = iv 12 1 + nI 0; rw [nI_0, Int32.add_zero]
  | j + 1 => by
    show zwr iv v j 12 1 + 1 = _
    rw [zwr_len iv v j, nI_succ, Int32.add_assoc]

set_option maxRecDepth 4000 in
theorem lp_write (n : Nat) (iv : zI) (lw : zG) (v : Int32) (hT : 0 ≤ (iv 12 1).toInt ∧ (iv 12 1).toInt ≤ 796) {X : zX} (C : zC X cX8_write 3 RX8 none "write" 0 0 0) (E : zEnd X (91 + 3 * n) 0 0 (zQ n (zQv (zwr iv v 4) lw))) : ∀ (k : Nat) (j : Nat), j + k = 4 → zJs X n 3 3 [some (.ref 12), some (.int v), some (.int (zsh j))] [] (zwr iv v j) lw := by
  intro k
  induction k with
  | zero =>
    intro j hk
    have e1 := zwr_len iv v j
    have e2 : (zwr iv v j 12 1).toInt = (iv 12 1).toInt + j := by
      rw [e1, zt_add (by rw [nI_toInt (by omega)]; omega) (by rw [nI_toInt (by omega)]; omega), nI_toInt (by omega)]
    refine z_iload_n C dX8_write_3 rfl ?_
    refine zt_if_lt (tgt := 55) C dX8_write_4 rfl (by decide) (fun q4 => ?_) (fun q4 => ?_)
    · refine zs_vret C E dX8_write_55 ?_ rfl
      rw [show j = 4 by omega]
    · exfalso; rw [show j = 4 by omega] at q4; exact q4 zsh_4
  | succ k ih =>
    intro j hk
    have e1 := zwr_len iv v j
    have e2 : (zwr iv v j 12 1).toInt = (iv 12 1).toInt + j := by
      rw [e1, zt_add (by rw [nI_toInt (by omega)]; omega) (by rw [nI_toInt (by omega)]; omega), nI_toInt (by omega)]
    refine z_iload_n C dX8_write_3 rfl ?_
    refine zt_if_lt (tgt := 55) C dX8_write_4 rfl (by decide) (fun q4 => ?_) (fun q4 => ?_)
    · exfalso; have := zsh_lt j (by omega); omega
    · refine z_aload_n C dX8_write_7 rfl ?_
      refine z_getI C dX8_write_8 zf_X8_13 zk_12 (by decide) ?_
      refine zt_if_lt (tgt := 49) C dX8_write_11 rfl (by decide) (fun q11 => ?_) (fun q11 => ?_)
      · exfalso; omega
      · refine z_aload_n C dX8_write_14 rfl ?_
        refine z_getI C dX8_write_15 zf_X8_13 zk_12 (by decide) ?_
        refine z_aload_n C dX8_write_18 rfl ?_
        refine zs_getR C dX8_write_19 zf_X8_9 zk_12 (by decide) (zr_12_0 n) ?_
        refine z_alenB (v := 800) C dX8_write_22 zk_13 (by decide) (by decide) ?_
        refine zt_icmp_ge (tgt := 49) C dX8_write_23 rfl (show (800 : Int32).toInt = 800 by decide) (by decide) (fun q23 => ?_) (fun q23 => ?_)
        · exfalso; omega
        · refine z_aload_n C dX8_write_26 rfl ?_
          refine zs_getR C dX8_write_27 zf_X8_9 zk_12 (by decide) (zr_12_0 n) ?_
          refine z_aload_n C dX8_write_30 rfl ?_
          refine z_getI C dX8_write_31 zf_X8_13 zk_12 (by decide) ?_
          refine z_iload_n C dX8_write_34 rfl ?_
          refine z_iload_n C dX8_write_35 rfl ?_
          refine z_ishr C dX8_write_36 ?_
          refine z_i2b C dX8_write_37 ?_
          refine z_bast C dX8_write_38 zk_13 (by decide) ?_ ?_
          · exact vp_in_iff.mpr (by omega)
          refine z_aload_n C dX8_write_39 rfl ?_
          refine z_dup C dX8_write_40 rfl ?_
          refine z_getI C dX8_write_41 zf_X8_13 zk_12 (by decide) ?_
          refine z_iconst (v := 1) C dX8_write_44 (by decide) ?_
          refine z_iadd C dX8_write_45 ?_
          refine z_putI C dX8_write_46 zf_X8_13 zk_12 (by decide) ?_
          refine z_iinc (y := (-8)) (lv' := [some (.ref 12), some (.int v), some (.int _)]) C dX8_write_49 rfl (by decide) (by decide) rfl ?_
          refine z_goto (tgt := 3) C dX8_write_52 (by decide) ?_
          rw [zsh_s j, pk_vb]
          exact ih (j + 1) (by omega)

set_option maxRecDepth 4000 in
theorem c_write (n : Nat) (iv : zI) (lw : zG) (v : Int32) (hT : 0 ≤ (iv 12 1).toInt ∧ (iv 12 1).toInt ≤ 796) : zMv yX8_write cX8_write 3 none 0 [.ref 12, .int v] n iv lw (zwr iv v 4) lw := by
  refine zM.of (by decide) (Nat.le_of_ble_eq_true rfl) (fun X C E => ?_)
  change zJs X n 3 0 [some (.ref 12), some (.int v), none] [] iv lw
  refine z_bipush (v := 24) C dX8_write_0 (by decide) ?_
  refine z_istore_n (lv' := [some (.ref 12), some (.int v), some (.int _)]) C dX8_write_2 (by decide) rfl ?_
  exact lp_write n iv lw v hT C E 4 0 (by omega)

def zbook (iv : zI) (co lo hi mi : Int32) : zI := zu (zu (zu (zu (zu (zu iv 36 (iv 35 0).toNatClampNeg co) 37 (iv 35 0).toNatClampNeg lo) 38 (iv 35 0).toNatClampNeg hi) 39 (iv 35 0).toNatClampNeg mi) 40 (iv 35 0).toNatClampNeg (-1)) 35 0 (iv 35 0 + 1)

set_option maxRecDepth 4000 in
theorem c_lenter (n : Nat) (iv : zI) (lw : zG) (co lo hi mi : Int32) (hT : 0 ≤ (iv 35 0).toInt) : zMi yX3_enter cX3_enter 5 (some .int) 0 [.ref 35, .int co, .int lo, .int hi, .int mi] n iv lw (if ((iv 35 0).toInt < 100) then iv 35 0 else -1) (if ((iv 35 0).toInt < 100) then zbook iv co lo hi mi else iv) lw := by
  refine zM.of (by decide) (Nat.le_of_ble_eq_true rfl) (fun X C E => ?_)
  change zJs X n 5 0 [some (.ref 35), some (.int co), some (.int lo), some (.int hi), some (.int mi)] [] iv lw
  refine z_aload_n C dX3_enter_0 rfl ?_
  refine z_getI C dX3_enter_1 zf_X3_27 zk_35 (by decide) ?_
  refine z_bipush (v := 100) C dX3_enter_4 (by decide) ?_
  refine zt_icmp_lt (tgt := 11) C dX3_enter_6 rfl (show (100 : Int32).toInt = 100 by decide) (by decide) (fun q6 => ?_) (fun q6 => ?_)
  · refine z_aload_n C dX3_enter_11 rfl ?_
    refine zs_getR C dX3_enter_12 zf_X3_11 zk_35 (by decide) (zr_35_1 n) ?_
    refine z_aload_n C dX3_enter_15 rfl ?_
    refine z_getI C dX3_enter_16 zf_X3_27 zk_35 (by decide) ?_
    refine z_iload_n C dX3_enter_19 rfl ?_
    refine z_iast C dX3_enter_20 zk_36 (by decide) ?_ ?_
    · show vp_in (iv 35 0) 100
      exact vp_in_iff.mpr (by omega)
    refine z_aload_n C dX3_enter_21 rfl ?_
    refine zs_getR C dX3_enter_22 zf_X3_15 zk_35 (by decide) (zr_35_2 n) ?_
    refine z_aload_n C dX3_enter_25 rfl ?_
    refine z_getI C dX3_enter_26 zf_X3_27 zk_35 (by decide) ?_
    refine z_iload_n C dX3_enter_29 rfl ?_
    refine z_iast C dX3_enter_30 zk_37 (by decide) ?_ ?_
    · show vp_in (iv 35 0) 100
      exact vp_in_iff.mpr (by omega)
    refine z_aload_n C dX3_enter_31 rfl ?_
    refine zs_getR C dX3_enter_32 zf_X3_18 zk_35 (by decide) (zr_35_3 n) ?_
    refine z_aload_n C dX3_enter_35 rfl ?_
    refine z_getI C dX3_enter_36 zf_X3_27 zk_35 (by decide) ?_
    refine z_iload_n C dX3_enter_39 rfl ?_
    refine z_iast C dX3_enter_40 zk_38 (by decide) ?_ ?_
    · show vp_in (iv 35 0) 100
      exact vp_in_iff.mpr (by omega)
    refine z_aload_n C dX3_enter_41 rfl ?_
    refine zs_getR C dX3_enter_42 zf_X3_21 zk_35 (by decide) (zr_35_4 n) ?_
    refine z_aload_n C dX3_enter_45 rfl ?_
    refine z_getI C dX3_enter_46 zf_X3_27 zk_35 (by decide) ?_
    refine z_iload C dX3_enter_49 rfl ?_
    refine z_iast C dX3_enter_51 zk_39 (by decide) ?_ ?_
    · show vp_in (iv 35 0) 100
      exact vp_in_iff.mpr (by omega)
    refine z_aload_n C dX3_enter_52 rfl ?_
    refine zs_getR C dX3_enter_53 zf_X3_24 zk_35 (by decide) (zr_35_5 n) ?_
    refine z_aload_n C dX3_enter_56 rfl ?_
    refine z_getI C dX3_enter_57 zf_X3_27 zk_35 (by decide) ?_
    refine z_iconst (v := (-1)) C dX3_enter_60 (by decide) ?_
    refine z_iast C dX3_enter_61 zk_40 (by decide) ?_ ?_
    · show vp_in (iv 35 0) 100
      exact vp_in_iff.mpr (by omega)
    refine z_aload_n C dX3_enter_62 rfl ?_
    refine z_dup C dX3_enter_63 rfl ?_
    refine z_getI C dX3_enter_64 zf_X3_27 zk_35 (by decide) ?_
    refine z_iconst (v := 1) C dX3_enter_67 (by decide) ?_
    refine z_iadd C dX3_enter_68 ?_
    refine z_putI C dX3_enter_69 zf_X3_27 zk_35 (by decide) ?_
    refine z_aload_n C dX3_enter_72 rfl ?_
    refine z_getI C dX3_enter_73 zf_X3_27 zk_35 (by decide) ?_
    refine z_iconst (v := 1) C dX3_enter_76 (by decide) ?_
    refine z_isub C dX3_enter_77 ?_
    refine zs_iret C E dX3_enter_78 rfl ?_ ?_ ?_
    · rw [if_pos (by omega)]
      exact zpm _
    · rw [if_pos (by omega)]
      rfl
    · rfl
  · refine z_iconst (v := (-1)) C dX3_enter_9 (by decide) ?_
    refine zs_iret C E dX3_enter_10 rfl ?_ ?_ ?_
    · exact (if_neg (by omega)).symm
    · exact (if_neg (by omega)).symm
    · rfl

set_option maxRecDepth 4000 in
theorem c_strike (n : Nat) (iv : zI) (lw : zG) (bo mi : Int32) (hT : (iv 35 0).toInt ≤ 100) : zMi yX3_strike cX3_strike 3 (some .boolean) 0 [.ref 35, .int bo, .int mi] n iv lw (zb (0 ≤ bo.toInt ∧ bo.toInt < (iv 35 0).toInt ∧ iv 40 bo.toNatClampNeg = -1)) (if (0 ≤ bo.toInt ∧ bo.toInt < (iv 35 0).toInt ∧ iv 40 bo.toNatClampNeg = -1) then zu iv 40 bo.toNatClampNeg mi else iv) lw := by
  refine zM.of (by decide) (Nat.le_of_ble_eq_true rfl) (fun X C E => ?_)
  change zJs X n 3 0 [some (.ref 35), some (.int bo), some (.int mi)] [] iv lw
  refine z_iload_n C dX3_strike_0 rfl ?_
  refine zt_if_lt (tgt := 22) C dX3_strike_1 rfl (by decide) (fun q1 => ?_) (fun q1 => ?_)
  · refine z_iconst (v := 0) C dX3_strike_22 (by decide) ?_
    refine zs_iret C E dX3_strike_23 rfl ?_ ?_ ?_
    · exact (zb_f (fun z => by first | exact q19 z.2.2 | (have := z.1; have := z.2.1; omega))).symm
    · exact (if_neg (fun z => by first | exact q19 z.2.2 | (have := z.1; have := z.2.1; omega))).symm
    · rfl
  · refine z_iload_n C dX3_strike_4 rfl ?_
    refine z_aload_n C dX3_strike_5 rfl ?_
    refine z_getI C dX3_strike_6 zf_X3_27 zk_35 (by decide) ?_
    refine zt_icmp_ge (tgt := 22) C dX3_strike_9 rfl rfl (by decide) (fun q9 => ?_) (fun q9 => ?_)
    · refine z_iconst (v := 0) C dX3_strike_22 (by decide) ?_
      refine zs_iret C E dX3_strike_23 rfl ?_ ?_ ?_
      · exact (zb_f (fun z => by first | exact q19 z.2.2 | (have := z.1; have := z.2.1; omega))).symm
      · exact (if_neg (fun z => by first | exact q19 z.2.2 | (have := z.1; have := z.2.1; omega))).symm
      · rfl
    · refine z_aload_n C dX3_strike_12 rfl ?_
      refine zs_getR C dX3_strike_13 zf_X3_24 zk_35 (by decide) (zr_35_5 n) ?_
      refine z_iload_n C dX3_strike_16 rfl ?_
      refine z_iald C dX3_strike_17 zk_40 (by decide) ?_ ?_
      · exact vp_in_iff.mpr (by omega)
      refine z_iconst (v := (-1)) C dX3_strike_18 (by decide) ?_
      refine z_icmp_eq (tgt := 24) C dX3_strike_19 (by decide) (fun q19 => ?_) (fun q19 => ?_)
      · refine z_aload_n C dX3_strike_24 rfl ?_
        refine zs_getR C dX3_strike_25 zf_X3_24 zk_35 (by decide) (zr_35_5 n) ?_
        refine z_iload_n C dX3_strike_28 rfl ?_
        refine z_iload_n C dX3_strike_29 rfl ?_
        refine z_iast C dX3_strike_30 zk_40 (by decide) ?_ ?_
        · exact vp_in_iff.mpr (by omega)
        refine z_iconst (v := 1) C dX3_strike_31 (by decide) ?_
        refine zs_iret C E dX3_strike_32 rfl ?_ ?_ ?_
        · exact (zb_t ⟨by omega, by omega, q19⟩).symm
        · exact (if_pos ⟨by omega, by omega, q19⟩).symm
        · rfl
      · refine z_iconst (v := 0) C dX3_strike_22 (by decide) ?_
        refine zs_iret C E dX3_strike_23 rfl ?_ ?_ ?_
        · exact (zb_f (fun z => by first | exact q19 z.2.2 | (have := z.1; have := z.2.1; omega))).symm
        · exact (if_neg (fun z => by first | exact q19 z.2.2 | (have := z.1; have := z.2.1; omega))).symm
        · rfl

/-- whether booking b is over the stage s of coach c as known at m -/
def ztk (co lo hi to un : Nat → Int32) (c s m : Int32) (b : Nat) : Int32 := zb (co b = c ∧ (lo b).toInt ≤ s.toInt ∧ s.toInt < (hi b).toInt ∧ (to b).toInt ≤ m.toInt ∧ (un b = -1 ∨ m.toInt < (un b).toInt))

theorem z_drop67 {a b c d e f g h : Option Value} : ∀ (i : Nat) (v : Value), [a, b, c, d, e, f, none, none][i]? = some (some v) → [a, b, c, d, e, f, g, h][i]? = some (some v) := by
  intro i v hv
  match i, hv with
  | 0, hv => exact hv
  | 1, hv => exact hv
  | 2, hv => exact hv
  | 3, hv => exact hv
  | 4, hv => exact hv
  | 5, hv => exact hv
  | 6, hv => simp at hv
  | 7, hv => simp at hv
  | i + 8, hv => simp at hv

set_option maxHeartbeats 1000000 in
set_option maxRecDepth 4000 in
theorem lp_taken (n : Nat) (iv : zI) (lw : zG) (co sg mi : Int32) (t : Nat) (ht : iv 35 0 = nI t) (ht2 : t ≤ 100) {X : zX} (C : zC X cX3_taken 8 RX3 (some .int) "taken" 0 0 0) (E : zEnd X (91 + 3 * n) 0 0 (zQ n (zQi (zsum (ztk (iv 36) (iv 37) (iv 38) (iv 39) (iv 40) co sg mi) t) iv lw))) : ∀ (k : Nat) (i : Nat), i + k = t → zJs X n 8 6 [some (.ref 35), some (.int co), some (.int sg), some (.int mi), some (.int (zsum (ztk (iv 36) (iv 37) (iv 38) (iv 39) (iv 40) co sg mi) i)), some (.int (nI i)), none, none] [] iv lw := by
  intro k
  induction k with
  | zero =>
    intro i hk
    refine z_iload C dX3_taken_6 rfl ?_
    refine z_aload_n C dX3_taken_8 rfl ?_
    refine z_getI C dX3_taken_9 zf_X3_27 zk_35 (by decide) ?_
    refine zt_icmp_ge (tgt := 121) C dX3_taken_12 (nI_toInt (by omega)) (zt_nI ht (by omega)) (by decide) (fun q12 => ?_) (fun q12 => ?_)
    · refine z_iload C dX3_taken_121 rfl ?_
      refine zs_iret C E dX3_taken_123 rfl ?_ ?_ ?_
      · rw [show i = t by omega]
      · rfl
      · rfl
    · exfalso; omega
  | succ k ih =>
    intro i hk
    refine z_iload C dX3_taken_6 rfl ?_
    refine z_aload_n C dX3_taken_8 rfl ?_
    refine z_getI C dX3_taken_9 zf_X3_27 zk_35 (by decide) ?_
    refine zt_icmp_ge (tgt := 121) C dX3_taken_12 (nI_toInt (by omega)) (zt_nI ht (by omega)) (by decide) (fun q12 => ?_) (fun q12 => ?_)
    · exfalso; omega
    · refine z_aload_n C dX3_taken_15 rfl ?_
      refine zs_getR C dX3_taken_16 zf_X3_11 zk_35 (by decide) (zr_35_1 n) ?_
      refine z_iload C dX3_taken_19 rfl ?_
      refine z_iald C dX3_taken_21 zk_36 (by decide) ?_ ?_
      · exact vp_in_nI (by omega) (by decide)
      refine z_iload_n C dX3_taken_22 rfl ?_
      refine z_icmp_ne (tgt := 52) C dX3_taken_23 (by decide) (fun q23 => ?_) (fun q23 => ?_)
      · rw [nI_clamp (by omega)] at q23
        refine z_iconst (v := 0) C dX3_taken_52 (by decide) ?_
        refine z_istore (lv' := [some (.ref 35), some (.int co), some (.int sg), some (.int mi), some (.int _), some (.int _), some (.int _), none]) C dX3_taken_53 (by decide) rfl ?_
        refine z_aload_n C dX3_taken_55 rfl ?_
        refine zs_getR C dX3_taken_56 zf_X3_21 zk_35 (by decide) (zr_35_4 n) ?_
        refine z_iload C dX3_taken_59 rfl ?_
        refine z_iald C dX3_taken_61 zk_39 (by decide) ?_ ?_
        · exact vp_in_nI (by omega) (by decide)
        refine z_iload_n C dX3_taken_62 rfl ?_
        refine zt_icmp_gt (tgt := 92) C dX3_taken_63 rfl rfl (by decide) (fun q63 => ?_) (fun q63 => ?_)
        · rw [nI_clamp (by omega)] at q63
          refine z_iconst (v := 0) C dX3_taken_92 (by decide) ?_
          refine z_istore (lv' := [some (.ref 35), some (.int co), some (.int sg), some (.int mi), some (.int _), some (.int _), some (.int _), some (.int _)]) C dX3_taken_93 (by decide) rfl ?_
          refine z_iload C dX3_taken_95 rfl ?_
          refine z_iload C dX3_taken_97 rfl ?_
          refine z_if_eq (tgt := 111) C dX3_taken_99 (by decide) (fun q99 => ?_) (fun q99 => ?_)
          · refine z_iconst (v := 0) C dX3_taken_111 (by decide) ?_
            refine z_iadd C dX3_taken_112 ?_
            refine z_istore (lv' := [some (.ref 35), some (.int co), some (.int sg), some (.int mi), some (.int _), some (.int _), some (.int _), some (.int _)]) C dX3_taken_113 (by decide) rfl ?_
            refine z_iinc (y := 1) (lv' := [some (.ref 35), some (.int co), some (.int sg), some (.int mi), some (.int _), some (.int _), some (.int _), some (.int _)]) C dX3_taken_115 rfl (by decide) (by decide) rfl ?_
            refine z_goto (tgt := 6) C dX3_taken_118 (by decide) ?_
            refine z_sub (lv2 := [some (.ref 35), some (.int co), some (.int sg), some (.int mi), some (.int _), some (.int _), none, none]) z_drop67 ?_
            rw [nI_1 i]
            first
              | (rw [show zsum (ztk (iv 36) (iv 37) (iv 38) (iv 39) (iv 40) co sg mi) i + 0 = zsum (ztk (iv 36) (iv 37) (iv 38) (iv 39) (iv 40) co sg mi) (i + 1) by
                   rw [zsum, show (ztk (iv 36) (iv 37) (iv 38) (iv 39) (iv 40) co sg mi) i = 0 from zb_f (by
                     rintro ⟨z1, z2, z3, z4, z5⟩
                     first | exact absurd z1 q23 | omega | (rcases z5 with z5 | z5 <;> first | exact absurd z5 q74 | omega))]]
                 exact ih (i + 1) (by omega))
              | (rw [show zsum (ztk (iv 36) (iv 37) (iv 38) (iv 39) (iv 40) co sg mi) i + 1 = zsum (ztk (iv 36) (iv 37) (iv 38) (iv 39) (iv 40) co sg mi) (i + 1) by
                   rw [zsum, show (ztk (iv 36) (iv 37) (iv 38) (iv 39) (iv 40) co sg mi) i = 1 from zb_t ⟨q23, by omega, by omega, by omega, by first | exact Or.inl q74 | exact Or.inr (by omega)⟩]]
                 exact ih (i + 1) (by omega))
          · exact absurd q99 (by decide)
        · rw [nI_clamp (by omega)] at q63
          refine z_aload_n C dX3_taken_66 rfl ?_
          refine zs_getR C dX3_taken_67 zf_X3_24 zk_35 (by decide) (zr_35_5 n) ?_
          refine z_iload C dX3_taken_70 rfl ?_
          refine z_iald C dX3_taken_72 zk_40 (by decide) ?_ ?_
          · exact vp_in_nI (by omega) (by decide)
          refine z_iconst (v := (-1)) C dX3_taken_73 (by decide) ?_
          refine z_icmp_eq (tgt := 88) C dX3_taken_74 (by decide) (fun q74 => ?_) (fun q74 => ?_)
          · rw [nI_clamp (by omega)] at q74
            refine z_iconst (v := 1) C dX3_taken_88 (by decide) ?_
            refine z_goto (tgt := 93) C dX3_taken_89 (by decide) ?_
            refine z_istore (lv' := [some (.ref 35), some (.int co), some (.int sg), some (.int mi), some (.int _), some (.int _), some (.int _), some (.int _)]) C dX3_taken_93 (by decide) rfl ?_
            refine z_iload C dX3_taken_95 rfl ?_
            refine z_iload C dX3_taken_97 rfl ?_
            refine z_if_eq (tgt := 111) C dX3_taken_99 (by decide) (fun q99 => ?_) (fun q99 => ?_)
            · refine z_iconst (v := 0) C dX3_taken_111 (by decide) ?_
              refine z_iadd C dX3_taken_112 ?_
              refine z_istore (lv' := [some (.ref 35), some (.int co), some (.int sg), some (.int mi), some (.int _), some (.int _), some (.int _), some (.int _)]) C dX3_taken_113 (by decide) rfl ?_
              refine z_iinc (y := 1) (lv' := [some (.ref 35), some (.int co), some (.int sg), some (.int mi), some (.int _), some (.int _), some (.int _), some (.int _)]) C dX3_taken_115 rfl (by decide) (by decide) rfl ?_
              refine z_goto (tgt := 6) C dX3_taken_118 (by decide) ?_
              refine z_sub (lv2 := [some (.ref 35), some (.int co), some (.int sg), some (.int mi), some (.int _), some (.int _), none, none]) z_drop67 ?_
              rw [nI_1 i]
              first
                | (rw [show zsum (ztk (iv 36) (iv 37) (iv 38) (iv 39) (iv 40) co sg mi) i + 0 = zsum (ztk (iv 36) (iv 37) (iv 38) (iv 39) (iv 40) co sg mi) (i + 1) by
                     rw [zsum, show (ztk (iv 36) (iv 37) (iv 38) (iv 39) (iv 40) co sg mi) i = 0 from zb_f (by
                       rintro ⟨z1, z2, z3, z4, z5⟩
                       first | exact absurd z1 q23 | omega | (rcases z5 with z5 | z5 <;> first | exact absurd z5 q74 | omega))]]
                   exact ih (i + 1) (by omega))
                | (rw [show zsum (ztk (iv 36) (iv 37) (iv 38) (iv 39) (iv 40) co sg mi) i + 1 = zsum (ztk (iv 36) (iv 37) (iv 38) (iv 39) (iv 40) co sg mi) (i + 1) by
                     rw [zsum, show (ztk (iv 36) (iv 37) (iv 38) (iv 39) (iv 40) co sg mi) i = 1 from zb_t ⟨q23, by omega, by omega, by omega, by first | exact Or.inl q74 | exact Or.inr (by omega)⟩]]
                   exact ih (i + 1) (by omega))
            · exact absurd q99 (by decide)
          · rw [nI_clamp (by omega)] at q74
            refine z_aload_n C dX3_taken_77 rfl ?_
            refine zs_getR C dX3_taken_78 zf_X3_24 zk_35 (by decide) (zr_35_5 n) ?_
            refine z_iload C dX3_taken_81 rfl ?_
            refine z_iald C dX3_taken_83 zk_40 (by decide) ?_ ?_
            · exact vp_in_nI (by omega) (by decide)
            refine z_iload_n C dX3_taken_84 rfl ?_
            refine zt_icmp_le (tgt := 92) C dX3_taken_85 rfl rfl (by decide) (fun q85 => ?_) (fun q85 => ?_)
            · rw [nI_clamp (by omega)] at q85
              refine z_iconst (v := 0) C dX3_taken_92 (by decide) ?_
              refine z_istore (lv' := [some (.ref 35), some (.int co), some (.int sg), some (.int mi), some (.int _), some (.int _), some (.int _), some (.int _)]) C dX3_taken_93 (by decide) rfl ?_
              refine z_iload C dX3_taken_95 rfl ?_
              refine z_iload C dX3_taken_97 rfl ?_
              refine z_if_eq (tgt := 111) C dX3_taken_99 (by decide) (fun q99 => ?_) (fun q99 => ?_)
              · refine z_iconst (v := 0) C dX3_taken_111 (by decide) ?_
                refine z_iadd C dX3_taken_112 ?_
                refine z_istore (lv' := [some (.ref 35), some (.int co), some (.int sg), some (.int mi), some (.int _), some (.int _), some (.int _), some (.int _)]) C dX3_taken_113 (by decide) rfl ?_
                refine z_iinc (y := 1) (lv' := [some (.ref 35), some (.int co), some (.int sg), some (.int mi), some (.int _), some (.int _), some (.int _), some (.int _)]) C dX3_taken_115 rfl (by decide) (by decide) rfl ?_
                refine z_goto (tgt := 6) C dX3_taken_118 (by decide) ?_
                refine z_sub (lv2 := [some (.ref 35), some (.int co), some (.int sg), some (.int mi), some (.int _), some (.int _), none, none]) z_drop67 ?_
                rw [nI_1 i]
                first
                  | (rw [show zsum (ztk (iv 36) (iv 37) (iv 38) (iv 39) (iv 40) co sg mi) i + 0 = zsum (ztk (iv 36) (iv 37) (iv 38) (iv 39) (iv 40) co sg mi) (i + 1) by
                       rw [zsum, show (ztk (iv 36) (iv 37) (iv 38) (iv 39) (iv 40) co sg mi) i = 0 from zb_f (by
                         rintro ⟨z1, z2, z3, z4, z5⟩
                         first | exact absurd z1 q23 | omega | (rcases z5 with z5 | z5 <;> first | exact absurd z5 q74 | omega))]]
                     exact ih (i + 1) (by omega))
                  | (rw [show zsum (ztk (iv 36) (iv 37) (iv 38) (iv 39) (iv 40) co sg mi) i + 1 = zsum (ztk (iv 36) (iv 37) (iv 38) (iv 39) (iv 40) co sg mi) (i + 1) by
                       rw [zsum, show (ztk (iv 36) (iv 37) (iv 38) (iv 39) (iv 40) co sg mi) i = 1 from zb_t ⟨q23, by omega, by omega, by omega, by first | exact Or.inl q74 | exact Or.inr (by omega)⟩]]
                     exact ih (i + 1) (by omega))
              · exact absurd q99 (by decide)
            · rw [nI_clamp (by omega)] at q85
              refine z_iconst (v := 1) C dX3_taken_88 (by decide) ?_
              refine z_goto (tgt := 93) C dX3_taken_89 (by decide) ?_
              refine z_istore (lv' := [some (.ref 35), some (.int co), some (.int sg), some (.int mi), some (.int _), some (.int _), some (.int _), some (.int _)]) C dX3_taken_93 (by decide) rfl ?_
              refine z_iload C dX3_taken_95 rfl ?_
              refine z_iload C dX3_taken_97 rfl ?_
              refine z_if_eq (tgt := 111) C dX3_taken_99 (by decide) (fun q99 => ?_) (fun q99 => ?_)
              · refine z_iconst (v := 0) C dX3_taken_111 (by decide) ?_
                refine z_iadd C dX3_taken_112 ?_
                refine z_istore (lv' := [some (.ref 35), some (.int co), some (.int sg), some (.int mi), some (.int _), some (.int _), some (.int _), some (.int _)]) C dX3_taken_113 (by decide) rfl ?_
                refine z_iinc (y := 1) (lv' := [some (.ref 35), some (.int co), some (.int sg), some (.int mi), some (.int _), some (.int _), some (.int _), some (.int _)]) C dX3_taken_115 rfl (by decide) (by decide) rfl ?_
                refine z_goto (tgt := 6) C dX3_taken_118 (by decide) ?_
                refine z_sub (lv2 := [some (.ref 35), some (.int co), some (.int sg), some (.int mi), some (.int _), some (.int _), none, none]) z_drop67 ?_
                rw [nI_1 i]
                first
                  | (rw [show zsum (ztk (iv 36) (iv 37) (iv 38) (iv 39) (iv 40) co sg mi) i + 0 = zsum (ztk (iv 36) (iv 37) (iv 38) (iv 39) (iv 40) co sg mi) (i + 1) by
                       rw [zsum, show (ztk (iv 36) (iv 37) (iv 38) (iv 39) (iv 40) co sg mi) i = 0 from zb_f (by
                         rintro ⟨z1, z2, z3, z4, z5⟩
                         first | exact absurd z1 q23 | omega | (rcases z5 with z5 | z5 <;> first | exact absurd z5 q74 | omega))]]
                     exact ih (i + 1) (by omega))
                  | (rw [show zsum (ztk (iv 36) (iv 37) (iv 38) (iv 39) (iv 40) co sg mi) i + 1 = zsum (ztk (iv 36) (iv 37) (iv 38) (iv 39) (iv 40) co sg mi) (i + 1) by
                       rw [zsum, show (ztk (iv 36) (iv 37) (iv 38) (iv 39) (iv 40) co sg mi) i = 1 from zb_t ⟨q23, by omega, by omega, by omega, by first | exact Or.inl q74 | exact Or.inr (by omega)⟩]]
                     exact ih (i + 1) (by omega))
              · exact absurd q99 (by decide)
      · rw [nI_clamp (by omega)] at q23
        refine z_aload_n C dX3_taken_26 rfl ?_
        refine zs_getR C dX3_taken_27 zf_X3_15 zk_35 (by decide) (zr_35_2 n) ?_
        refine z_iload C dX3_taken_30 rfl ?_
        refine z_iald C dX3_taken_32 zk_37 (by decide) ?_ ?_
        · exact vp_in_nI (by omega) (by decide)
        refine z_iload_n C dX3_taken_33 rfl ?_
        refine zt_icmp_gt (tgt := 52) C dX3_taken_34 rfl rfl (by decide) (fun q34 => ?_) (fun q34 => ?_)
        · rw [nI_clamp (by omega)] at q34
          refine z_iconst (v := 0) C dX3_taken_52 (by decide) ?_
          refine z_istore (lv' := [some (.ref 35), some (.int co), some (.int sg), some (.int mi), some (.int _), some (.int _), some (.int _), none]) C dX3_taken_53 (by decide) rfl ?_
          refine z_aload_n C dX3_taken_55 rfl ?_
          refine zs_getR C dX3_taken_56 zf_X3_21 zk_35 (by decide) (zr_35_4 n) ?_
          refine z_iload C dX3_taken_59 rfl ?_
          refine z_iald C dX3_taken_61 zk_39 (by decide) ?_ ?_
          · exact vp_in_nI (by omega) (by decide)
          refine z_iload_n C dX3_taken_62 rfl ?_
          refine zt_icmp_gt (tgt := 92) C dX3_taken_63 rfl rfl (by decide) (fun q63 => ?_) (fun q63 => ?_)
          · rw [nI_clamp (by omega)] at q63
            refine z_iconst (v := 0) C dX3_taken_92 (by decide) ?_
            refine z_istore (lv' := [some (.ref 35), some (.int co), some (.int sg), some (.int mi), some (.int _), some (.int _), some (.int _), some (.int _)]) C dX3_taken_93 (by decide) rfl ?_
            refine z_iload C dX3_taken_95 rfl ?_
            refine z_iload C dX3_taken_97 rfl ?_
            refine z_if_eq (tgt := 111) C dX3_taken_99 (by decide) (fun q99 => ?_) (fun q99 => ?_)
            · refine z_iconst (v := 0) C dX3_taken_111 (by decide) ?_
              refine z_iadd C dX3_taken_112 ?_
              refine z_istore (lv' := [some (.ref 35), some (.int co), some (.int sg), some (.int mi), some (.int _), some (.int _), some (.int _), some (.int _)]) C dX3_taken_113 (by decide) rfl ?_
              refine z_iinc (y := 1) (lv' := [some (.ref 35), some (.int co), some (.int sg), some (.int mi), some (.int _), some (.int _), some (.int _), some (.int _)]) C dX3_taken_115 rfl (by decide) (by decide) rfl ?_
              refine z_goto (tgt := 6) C dX3_taken_118 (by decide) ?_
              refine z_sub (lv2 := [some (.ref 35), some (.int co), some (.int sg), some (.int mi), some (.int _), some (.int _), none, none]) z_drop67 ?_
              rw [nI_1 i]
              first
                | (rw [show zsum (ztk (iv 36) (iv 37) (iv 38) (iv 39) (iv 40) co sg mi) i + 0 = zsum (ztk (iv 36) (iv 37) (iv 38) (iv 39) (iv 40) co sg mi) (i + 1) by
                     rw [zsum, show (ztk (iv 36) (iv 37) (iv 38) (iv 39) (iv 40) co sg mi) i = 0 from zb_f (by
                       rintro ⟨z1, z2, z3, z4, z5⟩
                       first | exact absurd z1 q23 | omega | (rcases z5 with z5 | z5 <;> first | exact absurd z5 q74 | omega))]]
                   exact ih (i + 1) (by omega))
                | (rw [show zsum (ztk (iv 36) (iv 37) (iv 38) (iv 39) (iv 40) co sg mi) i + 1 = zsum (ztk (iv 36) (iv 37) (iv 38) (iv 39) (iv 40) co sg mi) (i + 1) by
                     rw [zsum, show (ztk (iv 36) (iv 37) (iv 38) (iv 39) (iv 40) co sg mi) i = 1 from zb_t ⟨q23, by omega, by omega, by omega, by first | exact Or.inl q74 | exact Or.inr (by omega)⟩]]
                   exact ih (i + 1) (by omega))
            · exact absurd q99 (by decide)
          · rw [nI_clamp (by omega)] at q63
            refine z_aload_n C dX3_taken_66 rfl ?_
            refine zs_getR C dX3_taken_67 zf_X3_24 zk_35 (by decide) (zr_35_5 n) ?_
            refine z_iload C dX3_taken_70 rfl ?_
            refine z_iald C dX3_taken_72 zk_40 (by decide) ?_ ?_
            · exact vp_in_nI (by omega) (by decide)
            refine z_iconst (v := (-1)) C dX3_taken_73 (by decide) ?_
            refine z_icmp_eq (tgt := 88) C dX3_taken_74 (by decide) (fun q74 => ?_) (fun q74 => ?_)
            · rw [nI_clamp (by omega)] at q74
              refine z_iconst (v := 1) C dX3_taken_88 (by decide) ?_
              refine z_goto (tgt := 93) C dX3_taken_89 (by decide) ?_
              refine z_istore (lv' := [some (.ref 35), some (.int co), some (.int sg), some (.int mi), some (.int _), some (.int _), some (.int _), some (.int _)]) C dX3_taken_93 (by decide) rfl ?_
              refine z_iload C dX3_taken_95 rfl ?_
              refine z_iload C dX3_taken_97 rfl ?_
              refine z_if_eq (tgt := 111) C dX3_taken_99 (by decide) (fun q99 => ?_) (fun q99 => ?_)
              · refine z_iconst (v := 0) C dX3_taken_111 (by decide) ?_
                refine z_iadd C dX3_taken_112 ?_
                refine z_istore (lv' := [some (.ref 35), some (.int co), some (.int sg), some (.int mi), some (.int _), some (.int _), some (.int _), some (.int _)]) C dX3_taken_113 (by decide) rfl ?_
                refine z_iinc (y := 1) (lv' := [some (.ref 35), some (.int co), some (.int sg), some (.int mi), some (.int _), some (.int _), some (.int _), some (.int _)]) C dX3_taken_115 rfl (by decide) (by decide) rfl ?_
                refine z_goto (tgt := 6) C dX3_taken_118 (by decide) ?_
                refine z_sub (lv2 := [some (.ref 35), some (.int co), some (.int sg), some (.int mi), some (.int _), some (.int _), none, none]) z_drop67 ?_
                rw [nI_1 i]
                first
                  | (rw [show zsum (ztk (iv 36) (iv 37) (iv 38) (iv 39) (iv 40) co sg mi) i + 0 = zsum (ztk (iv 36) (iv 37) (iv 38) (iv 39) (iv 40) co sg mi) (i + 1) by
                       rw [zsum, show (ztk (iv 36) (iv 37) (iv 38) (iv 39) (iv 40) co sg mi) i = 0 from zb_f (by
                         rintro ⟨z1, z2, z3, z4, z5⟩
                         first | exact absurd z1 q23 | omega | (rcases z5 with z5 | z5 <;> first | exact absurd z5 q74 | omega))]]
                     exact ih (i + 1) (by omega))
                  | (rw [show zsum (ztk (iv 36) (iv 37) (iv 38) (iv 39) (iv 40) co sg mi) i + 1 = zsum (ztk (iv 36) (iv 37) (iv 38) (iv 39) (iv 40) co sg mi) (i + 1) by
                       rw [zsum, show (ztk (iv 36) (iv 37) (iv 38) (iv 39) (iv 40) co sg mi) i = 1 from zb_t ⟨q23, by omega, by omega, by omega, by first | exact Or.inl q74 | exact Or.inr (by omega)⟩]]
                     exact ih (i + 1) (by omega))
              · exact absurd q99 (by decide)
            · rw [nI_clamp (by omega)] at q74
              refine z_aload_n C dX3_taken_77 rfl ?_
              refine zs_getR C dX3_taken_78 zf_X3_24 zk_35 (by decide) (zr_35_5 n) ?_
              refine z_iload C dX3_taken_81 rfl ?_
              refine z_iald C dX3_taken_83 zk_40 (by decide) ?_ ?_
              · exact vp_in_nI (by omega) (by decide)
              refine z_iload_n C dX3_taken_84 rfl ?_
              refine zt_icmp_le (tgt := 92) C dX3_taken_85 rfl rfl (by decide) (fun q85 => ?_) (fun q85 => ?_)
              · rw [nI_clamp (by omega)] at q85
                refine z_iconst (v := 0) C dX3_taken_92 (by decide) ?_
                refine z_istore (lv' := [some (.ref 35), some (.int co), some (.int sg), some (.int mi), some (.int _), some (.int _), some (.int _), some (.int _)]) C dX3_taken_93 (by decide) rfl ?_
                refine z_iload C dX3_taken_95 rfl ?_
                refine z_iload C dX3_taken_97 rfl ?_
                refine z_if_eq (tgt := 111) C dX3_taken_99 (by decide) (fun q99 => ?_) (fun q99 => ?_)
                · refine z_iconst (v := 0) C dX3_taken_111 (by decide) ?_
                  refine z_iadd C dX3_taken_112 ?_
                  refine z_istore (lv' := [some (.ref 35), some (.int co), some (.int sg), some (.int mi), some (.int _), some (.int _), some (.int _), some (.int _)]) C dX3_taken_113 (by decide) rfl ?_
                  refine z_iinc (y := 1) (lv' := [some (.ref 35), some (.int co), some (.int sg), some (.int mi), some (.int _), some (.int _), some (.int _), some (.int _)]) C dX3_taken_115 rfl (by decide) (by decide) rfl ?_
                  refine z_goto (tgt := 6) C dX3_taken_118 (by decide) ?_
                  refine z_sub (lv2 := [some (.ref 35), some (.int co), some (.int sg), some (.int mi), some (.int _), some (.int _), none, none]) z_drop67 ?_
                  rw [nI_1 i]
                  first
                    | (rw [show zsum (ztk (iv 36) (iv 37) (iv 38) (iv 39) (iv 40) co sg mi) i + 0 = zsum (ztk (iv 36) (iv 37) (iv 38) (iv 39) (iv 40) co sg mi) (i + 1) by
                         rw [zsum, show (ztk (iv 36) (iv 37) (iv 38) (iv 39) (iv 40) co sg mi) i = 0 from zb_f (by
                           rintro ⟨z1, z2, z3, z4, z5⟩
                           first | exact absurd z1 q23 | omega | (rcases z5 with z5 | z5 <;> first | exact absurd z5 q74 | omega))]]
                       exact ih (i + 1) (by omega))
                    | (rw [show zsum (ztk (iv 36) (iv 37) (iv 38) (iv 39) (iv 40) co sg mi) i + 1 = zsum (ztk (iv 36) (iv 37) (iv 38) (iv 39) (iv 40) co sg mi) (i + 1) by
                         rw [zsum, show (ztk (iv 36) (iv 37) (iv 38) (iv 39) (iv 40) co sg mi) i = 1 from zb_t ⟨q23, by omega, by omega, by omega, by first | exact Or.inl q74 | exact Or.inr (by omega)⟩]]
                       exact ih (i + 1) (by omega))
                · exact absurd q99 (by decide)
              · rw [nI_clamp (by omega)] at q85
                refine z_iconst (v := 1) C dX3_taken_88 (by decide) ?_
                refine z_goto (tgt := 93) C dX3_taken_89 (by decide) ?_
                refine z_istore (lv' := [some (.ref 35), some (.int co), some (.int sg), some (.int mi), some (.int _), some (.int _), some (.int _), some (.int _)]) C dX3_taken_93 (by decide) rfl ?_
                refine z_iload C dX3_taken_95 rfl ?_
                refine z_iload C dX3_taken_97 rfl ?_
                refine z_if_eq (tgt := 111) C dX3_taken_99 (by decide) (fun q99 => ?_) (fun q99 => ?_)
                · refine z_iconst (v := 0) C dX3_taken_111 (by decide) ?_
                  refine z_iadd C dX3_taken_112 ?_
                  refine z_istore (lv' := [some (.ref 35), some (.int co), some (.int sg), some (.int mi), some (.int _), some (.int _), some (.int _), some (.int _)]) C dX3_taken_113 (by decide) rfl ?_
                  refine z_iinc (y := 1) (lv' := [some (.ref 35), some (.int co), some (.int sg), some (.int mi), some (.int _), some (.int _), some (.int _), some (.int _)]) C dX3_taken_115 rfl (by decide) (by decide) rfl ?_
                  refine z_goto (tgt := 6) C dX3_taken_118 (by decide) ?_
                  refine z_sub (lv2 := [some (.ref 35), some (.int co), some (.int sg), some (.int mi), some (.int _), some (.int _), none, none]) z_drop67 ?_
                  rw [nI_1 i]
                  first
                    | (rw [show zsum (ztk (iv 36) (iv 37) (iv 38) (iv 39) (iv 40) co sg mi) i + 0 = zsum (ztk (iv 36) (iv 37) (iv 38) (iv 39) (iv 40) co sg mi) (i + 1) by
                         rw [zsum, show (ztk (iv 36) (iv 37) (iv 38) (iv 39) (iv 40) co sg mi) i = 0 from zb_f (by
                           rintro ⟨z1, z2, z3, z4, z5⟩
                           first | exact absurd z1 q23 | omega | (rcases z5 with z5 | z5 <;> first | exact absurd z5 q74 | omega))]]
                       exact ih (i + 1) (by omega))
                    | (rw [show zsum (ztk (iv 36) (iv 37) (iv 38) (iv 39) (iv 40) co sg mi) i + 1 = zsum (ztk (iv 36) (iv 37) (iv 38) (iv 39) (iv 40) co sg mi) (i + 1) by
                         rw [zsum, show (ztk (iv 36) (iv 37) (iv 38) (iv 39) (iv 40) co sg mi) i = 1 from zb_t ⟨q23, by omega, by omega, by omega, by first | exact Or.inl q74 | exact Or.inr (by omega)⟩]]
                       exact ih (i + 1) (by omega))
                · exact absurd q99 (by decide)
        · rw [nI_clamp (by omega)] at q34
          refine z_iload_n C dX3_taken_37 rfl ?_
          refine z_aload_n C dX3_taken_38 rfl ?_
          refine zs_getR C dX3_taken_39 zf_X3_18 zk_35 (by decide) (zr_35_3 n) ?_
          refine z_iload C dX3_taken_42 rfl ?_
          refine z_iald C dX3_taken_44 zk_38 (by decide) ?_ ?_
          · exact vp_in_nI (by omega) (by decide)
          refine zt_icmp_ge (tgt := 52) C dX3_taken_45 rfl rfl (by decide) (fun q45 => ?_) (fun q45 => ?_)
          · rw [nI_clamp (by omega)] at q45
            refine z_iconst (v := 0) C dX3_taken_52 (by decide) ?_
            refine z_istore (lv' := [some (.ref 35), some (.int co), some (.int sg), some (.int mi), some (.int _), some (.int _), some (.int _), none]) C dX3_taken_53 (by decide) rfl ?_
            refine z_aload_n C dX3_taken_55 rfl ?_
            refine zs_getR C dX3_taken_56 zf_X3_21 zk_35 (by decide) (zr_35_4 n) ?_
            refine z_iload C dX3_taken_59 rfl ?_
            refine z_iald C dX3_taken_61 zk_39 (by decide) ?_ ?_
            · exact vp_in_nI (by omega) (by decide)
            refine z_iload_n C dX3_taken_62 rfl ?_
            refine zt_icmp_gt (tgt := 92) C dX3_taken_63 rfl rfl (by decide) (fun q63 => ?_) (fun q63 => ?_)
            · rw [nI_clamp (by omega)] at q63
              refine z_iconst (v := 0) C dX3_taken_92 (by decide) ?_
              refine z_istore (lv' := [some (.ref 35), some (.int co), some (.int sg), some (.int mi), some (.int _), some (.int _), some (.int _), some (.int _)]) C dX3_taken_93 (by decide) rfl ?_
              refine z_iload C dX3_taken_95 rfl ?_
              refine z_iload C dX3_taken_97 rfl ?_
              refine z_if_eq (tgt := 111) C dX3_taken_99 (by decide) (fun q99 => ?_) (fun q99 => ?_)
              · refine z_iconst (v := 0) C dX3_taken_111 (by decide) ?_
                refine z_iadd C dX3_taken_112 ?_
                refine z_istore (lv' := [some (.ref 35), some (.int co), some (.int sg), some (.int mi), some (.int _), some (.int _), some (.int _), some (.int _)]) C dX3_taken_113 (by decide) rfl ?_
                refine z_iinc (y := 1) (lv' := [some (.ref 35), some (.int co), some (.int sg), some (.int mi), some (.int _), some (.int _), some (.int _), some (.int _)]) C dX3_taken_115 rfl (by decide) (by decide) rfl ?_
                refine z_goto (tgt := 6) C dX3_taken_118 (by decide) ?_
                refine z_sub (lv2 := [some (.ref 35), some (.int co), some (.int sg), some (.int mi), some (.int _), some (.int _), none, none]) z_drop67 ?_
                rw [nI_1 i]
                first
                  | (rw [show zsum (ztk (iv 36) (iv 37) (iv 38) (iv 39) (iv 40) co sg mi) i + 0 = zsum (ztk (iv 36) (iv 37) (iv 38) (iv 39) (iv 40) co sg mi) (i + 1) by
                       rw [zsum, show (ztk (iv 36) (iv 37) (iv 38) (iv 39) (iv 40) co sg mi) i = 0 from zb_f (by
                         rintro ⟨z1, z2, z3, z4, z5⟩
                         first | exact absurd z1 q23 | omega | (rcases z5 with z5 | z5 <;> first | exact absurd z5 q74 | omega))]]
                     exact ih (i + 1) (by omega))
                  | (rw [show zsum (ztk (iv 36) (iv 37) (iv 38) (iv 39) (iv 40) co sg mi) i + 1 = zsum (ztk (iv 36) (iv 37) (iv 38) (iv 39) (iv 40) co sg mi) (i + 1) by
                       rw [zsum, show (ztk (iv 36) (iv 37) (iv 38) (iv 39) (iv 40) co sg mi) i = 1 from zb_t ⟨q23, by omega, by omega, by omega, by first | exact Or.inl q74 | exact Or.inr (by omega)⟩]]
                     exact ih (i + 1) (by omega))
              · exact absurd q99 (by decide)
            · rw [nI_clamp (by omega)] at q63
              refine z_aload_n C dX3_taken_66 rfl ?_
              refine zs_getR C dX3_taken_67 zf_X3_24 zk_35 (by decide) (zr_35_5 n) ?_
              refine z_iload C dX3_taken_70 rfl ?_
              refine z_iald C dX3_taken_72 zk_40 (by decide) ?_ ?_
              · exact vp_in_nI (by omega) (by decide)
              refine z_iconst (v := (-1)) C dX3_taken_73 (by decide) ?_
              refine z_icmp_eq (tgt := 88) C dX3_taken_74 (by decide) (fun q74 => ?_) (fun q74 => ?_)
              · rw [nI_clamp (by omega)] at q74
                refine z_iconst (v := 1) C dX3_taken_88 (by decide) ?_
                refine z_goto (tgt := 93) C dX3_taken_89 (by decide) ?_
                refine z_istore (lv' := [some (.ref 35), some (.int co), some (.int sg), some (.int mi), some (.int _), some (.int _), some (.int _), some (.int _)]) C dX3_taken_93 (by decide) rfl ?_
                refine z_iload C dX3_taken_95 rfl ?_
                refine z_iload C dX3_taken_97 rfl ?_
                refine z_if_eq (tgt := 111) C dX3_taken_99 (by decide) (fun q99 => ?_) (fun q99 => ?_)
                · refine z_iconst (v := 0) C dX3_taken_111 (by decide) ?_
                  refine z_iadd C dX3_taken_112 ?_
                  refine z_istore (lv' := [some (.ref 35), some (.int co), some (.int sg), some (.int mi), some (.int _), some (.int _), some (.int _), some (.int _)]) C dX3_taken_113 (by decide) rfl ?_
                  refine z_iinc (y := 1) (lv' := [some (.ref 35), some (.int co), some (.int sg), some (.int mi), some (.int _), some (.int _), some (.int _), some (.int _)]) C dX3_taken_115 rfl (by decide) (by decide) rfl ?_
                  refine z_goto (tgt := 6) C dX3_taken_118 (by decide) ?_
                  refine z_sub (lv2 := [some (.ref 35), some (.int co), some (.int sg), some (.int mi), some (.int _), some (.int _), none, none]) z_drop67 ?_
                  rw [nI_1 i]
                  first
                    | (rw [show zsum (ztk (iv 36) (iv 37) (iv 38) (iv 39) (iv 40) co sg mi) i + 0 = zsum (ztk (iv 36) (iv 37) (iv 38) (iv 39) (iv 40) co sg mi) (i + 1) by
                         rw [zsum, show (ztk (iv 36) (iv 37) (iv 38) (iv 39) (iv 40) co sg mi) i = 0 from zb_f (by
                           rintro ⟨z1, z2, z3, z4, z5⟩
                           first | exact absurd z1 q23 | omega | (rcases z5 with z5 | z5 <;> first | exact absurd z5 q74 | omega))]]
                       exact ih (i + 1) (by omega))
                    | (rw [show zsum (ztk (iv 36) (iv 37) (iv 38) (iv 39) (iv 40) co sg mi) i + 1 = zsum (ztk (iv 36) (iv 37) (iv 38) (iv 39) (iv 40) co sg mi) (i + 1) by
                         rw [zsum, show (ztk (iv 36) (iv 37) (iv 38) (iv 39) (iv 40) co sg mi) i = 1 from zb_t ⟨q23, by omega, by omega, by omega, by first | exact Or.inl q74 | exact Or.inr (by omega)⟩]]
                       exact ih (i + 1) (by omega))
                · exact absurd q99 (by decide)
              · rw [nI_clamp (by omega)] at q74
                refine z_aload_n C dX3_taken_77 rfl ?_
                refine zs_getR C dX3_taken_78 zf_X3_24 zk_35 (by decide) (zr_35_5 n) ?_
                refine z_iload C dX3_taken_81 rfl ?_
                refine z_iald C dX3_taken_83 zk_40 (by decide) ?_ ?_
                · exact vp_in_nI (by omega) (by decide)
                refine z_iload_n C dX3_taken_84 rfl ?_
                refine zt_icmp_le (tgt := 92) C dX3_taken_85 rfl rfl (by decide) (fun q85 => ?_) (fun q85 => ?_)
                · rw [nI_clamp (by omega)] at q85
                  refine z_iconst (v := 0) C dX3_taken_92 (by decide) ?_
                  refine z_istore (lv' := [some (.ref 35), some (.int co), some (.int sg), some (.int mi), some (.int _), some (.int _), some (.int _), some (.int _)]) C dX3_taken_93 (by decide) rfl ?_
                  refine z_iload C dX3_taken_95 rfl ?_
                  refine z_iload C dX3_taken_97 rfl ?_
                  refine z_if_eq (tgt := 111) C dX3_taken_99 (by decide) (fun q99 => ?_) (fun q99 => ?_)
                  · refine z_iconst (v := 0) C dX3_taken_111 (by decide) ?_
                    refine z_iadd C dX3_taken_112 ?_
                    refine z_istore (lv' := [some (.ref 35), some (.int co), some (.int sg), some (.int mi), some (.int _), some (.int _), some (.int _), some (.int _)]) C dX3_taken_113 (by decide) rfl ?_
                    refine z_iinc (y := 1) (lv' := [some (.ref 35), some (.int co), some (.int sg), some (.int mi), some (.int _), some (.int _), some (.int _), some (.int _)]) C dX3_taken_115 rfl (by decide) (by decide) rfl ?_
                    refine z_goto (tgt := 6) C dX3_taken_118 (by decide) ?_
                    refine z_sub (lv2 := [some (.ref 35), some (.int co), some (.int sg), some (.int mi), some (.int _), some (.int _), none, none]) z_drop67 ?_
                    rw [nI_1 i]
                    first
                      | (rw [show zsum (ztk (iv 36) (iv 37) (iv 38) (iv 39) (iv 40) co sg mi) i + 0 = zsum (ztk (iv 36) (iv 37) (iv 38) (iv 39) (iv 40) co sg mi) (i + 1) by
                           rw [zsum, show (ztk (iv 36) (iv 37) (iv 38) (iv 39) (iv 40) co sg mi) i = 0 from zb_f (by
                             rintro ⟨z1, z2, z3, z4, z5⟩
                             first | exact absurd z1 q23 | omega | (rcases z5 with z5 | z5 <;> first | exact absurd z5 q74 | omega))]]
                         exact ih (i + 1) (by omega))
                      | (rw [show zsum (ztk (iv 36) (iv 37) (iv 38) (iv 39) (iv 40) co sg mi) i + 1 = zsum (ztk (iv 36) (iv 37) (iv 38) (iv 39) (iv 40) co sg mi) (i + 1) by
                           rw [zsum, show (ztk (iv 36) (iv 37) (iv 38) (iv 39) (iv 40) co sg mi) i = 1 from zb_t ⟨q23, by omega, by omega, by omega, by first | exact Or.inl q74 | exact Or.inr (by omega)⟩]]
                         exact ih (i + 1) (by omega))
                  · exact absurd q99 (by decide)
                · rw [nI_clamp (by omega)] at q85
                  refine z_iconst (v := 1) C dX3_taken_88 (by decide) ?_
                  refine z_goto (tgt := 93) C dX3_taken_89 (by decide) ?_
                  refine z_istore (lv' := [some (.ref 35), some (.int co), some (.int sg), some (.int mi), some (.int _), some (.int _), some (.int _), some (.int _)]) C dX3_taken_93 (by decide) rfl ?_
                  refine z_iload C dX3_taken_95 rfl ?_
                  refine z_iload C dX3_taken_97 rfl ?_
                  refine z_if_eq (tgt := 111) C dX3_taken_99 (by decide) (fun q99 => ?_) (fun q99 => ?_)
                  · refine z_iconst (v := 0) C dX3_taken_111 (by decide) ?_
                    refine z_iadd C dX3_taken_112 ?_
                    refine z_istore (lv' := [some (.ref 35), some (.int co), some (.int sg), some (.int mi), some (.int _), some (.int _), some (.int _), some (.int _)]) C dX3_taken_113 (by decide) rfl ?_
                    refine z_iinc (y := 1) (lv' := [some (.ref 35), some (.int co), some (.int sg), some (.int mi), some (.int _), some (.int _), some (.int _), some (.int _)]) C dX3_taken_115 rfl (by decide) (by decide) rfl ?_
                    refine z_goto (tgt := 6) C dX3_taken_118 (by decide) ?_
                    refine z_sub (lv2 := [some (.ref 35), some (.int co), some (.int sg), some (.int mi), some (.int _), some (.int _), none, none]) z_drop67 ?_
                    rw [nI_1 i]
                    first
                      | (rw [show zsum (ztk (iv 36) (iv 37) (iv 38) (iv 39) (iv 40) co sg mi) i + 0 = zsum (ztk (iv 36) (iv 37) (iv 38) (iv 39) (iv 40) co sg mi) (i + 1) by
                           rw [zsum, show (ztk (iv 36) (iv 37) (iv 38) (iv 39) (iv 40) co sg mi) i = 0 from zb_f (by
                             rintro ⟨z1, z2, z3, z4, z5⟩
                             first | exact absurd z1 q23 | omega | (rcases z5 with z5 | z5 <;> first | exact absurd z5 q74 | omega))]]
                         exact ih (i + 1) (by omega))
                      | (rw [show zsum (ztk (iv 36) (iv 37) (iv 38) (iv 39) (iv 40) co sg mi) i + 1 = zsum (ztk (iv 36) (iv 37) (iv 38) (iv 39) (iv 40) co sg mi) (i + 1) by
                           rw [zsum, show (ztk (iv 36) (iv 37) (iv 38) (iv 39) (iv 40) co sg mi) i = 1 from zb_t ⟨q23, by omega, by omega, by omega, by first | exact Or.inl q74 | exact Or.inr (by omega)⟩]]
                         exact ih (i + 1) (by omega))
                  · exact absurd q99 (by decide)
          · rw [nI_clamp (by omega)] at q45
            refine z_iconst (v := 1) C dX3_taken_48 (by decide) ?_
            refine z_goto (tgt := 53) C dX3_taken_49 (by decide) ?_
            refine z_istore (lv' := [some (.ref 35), some (.int co), some (.int sg), some (.int mi), some (.int _), some (.int _), some (.int _), none]) C dX3_taken_53 (by decide) rfl ?_
            refine z_aload_n C dX3_taken_55 rfl ?_
            refine zs_getR C dX3_taken_56 zf_X3_21 zk_35 (by decide) (zr_35_4 n) ?_
            refine z_iload C dX3_taken_59 rfl ?_
            refine z_iald C dX3_taken_61 zk_39 (by decide) ?_ ?_
            · exact vp_in_nI (by omega) (by decide)
            refine z_iload_n C dX3_taken_62 rfl ?_
            refine zt_icmp_gt (tgt := 92) C dX3_taken_63 rfl rfl (by decide) (fun q63 => ?_) (fun q63 => ?_)
            · rw [nI_clamp (by omega)] at q63
              refine z_iconst (v := 0) C dX3_taken_92 (by decide) ?_
              refine z_istore (lv' := [some (.ref 35), some (.int co), some (.int sg), some (.int mi), some (.int _), some (.int _), some (.int _), some (.int _)]) C dX3_taken_93 (by decide) rfl ?_
              refine z_iload C dX3_taken_95 rfl ?_
              refine z_iload C dX3_taken_97 rfl ?_
              refine z_if_eq (tgt := 111) C dX3_taken_99 (by decide) (fun q99 => ?_) (fun q99 => ?_)
              · exact absurd q99 (by decide)
              · refine z_iload C dX3_taken_102 rfl ?_
                refine z_if_eq (tgt := 111) C dX3_taken_104 (by decide) (fun q104 => ?_) (fun q104 => ?_)
                · refine z_iconst (v := 0) C dX3_taken_111 (by decide) ?_
                  refine z_iadd C dX3_taken_112 ?_
                  refine z_istore (lv' := [some (.ref 35), some (.int co), some (.int sg), some (.int mi), some (.int _), some (.int _), some (.int _), some (.int _)]) C dX3_taken_113 (by decide) rfl ?_
                  refine z_iinc (y := 1) (lv' := [some (.ref 35), some (.int co), some (.int sg), some (.int mi), some (.int _), some (.int _), some (.int _), some (.int _)]) C dX3_taken_115 rfl (by decide) (by decide) rfl ?_
                  refine z_goto (tgt := 6) C dX3_taken_118 (by decide) ?_
                  refine z_sub (lv2 := [some (.ref 35), some (.int co), some (.int sg), some (.int mi), some (.int _), some (.int _), none, none]) z_drop67 ?_
                  rw [nI_1 i]
                  first
                    | (rw [show zsum (ztk (iv 36) (iv 37) (iv 38) (iv 39) (iv 40) co sg mi) i + 0 = zsum (ztk (iv 36) (iv 37) (iv 38) (iv 39) (iv 40) co sg mi) (i + 1) by
                         rw [zsum, show (ztk (iv 36) (iv 37) (iv 38) (iv 39) (iv 40) co sg mi) i = 0 from zb_f (by
                           rintro ⟨z1, z2, z3, z4, z5⟩
                           first | exact absurd z1 q23 | omega | (rcases z5 with z5 | z5 <;> first | exact absurd z5 q74 | omega))]]
                       exact ih (i + 1) (by omega))
                    | (rw [show zsum (ztk (iv 36) (iv 37) (iv 38) (iv 39) (iv 40) co sg mi) i + 1 = zsum (ztk (iv 36) (iv 37) (iv 38) (iv 39) (iv 40) co sg mi) (i + 1) by
                         rw [zsum, show (ztk (iv 36) (iv 37) (iv 38) (iv 39) (iv 40) co sg mi) i = 1 from zb_t ⟨q23, by omega, by omega, by omega, by first | exact Or.inl q74 | exact Or.inr (by omega)⟩]]
                       exact ih (i + 1) (by omega))
                · exact absurd q104 (by decide)
            · rw [nI_clamp (by omega)] at q63
              refine z_aload_n C dX3_taken_66 rfl ?_
              refine zs_getR C dX3_taken_67 zf_X3_24 zk_35 (by decide) (zr_35_5 n) ?_
              refine z_iload C dX3_taken_70 rfl ?_
              refine z_iald C dX3_taken_72 zk_40 (by decide) ?_ ?_
              · exact vp_in_nI (by omega) (by decide)
              refine z_iconst (v := (-1)) C dX3_taken_73 (by decide) ?_
              refine z_icmp_eq (tgt := 88) C dX3_taken_74 (by decide) (fun q74 => ?_) (fun q74 => ?_)
              · rw [nI_clamp (by omega)] at q74
                refine z_iconst (v := 1) C dX3_taken_88 (by decide) ?_
                refine z_goto (tgt := 93) C dX3_taken_89 (by decide) ?_
                refine z_istore (lv' := [some (.ref 35), some (.int co), some (.int sg), some (.int mi), some (.int _), some (.int _), some (.int _), some (.int _)]) C dX3_taken_93 (by decide) rfl ?_
                refine z_iload C dX3_taken_95 rfl ?_
                refine z_iload C dX3_taken_97 rfl ?_
                refine z_if_eq (tgt := 111) C dX3_taken_99 (by decide) (fun q99 => ?_) (fun q99 => ?_)
                · exact absurd q99 (by decide)
                · refine z_iload C dX3_taken_102 rfl ?_
                  refine z_if_eq (tgt := 111) C dX3_taken_104 (by decide) (fun q104 => ?_) (fun q104 => ?_)
                  · exact absurd q104 (by decide)
                  · refine z_iconst (v := 1) C dX3_taken_107 (by decide) ?_
                    refine z_goto (tgt := 112) C dX3_taken_108 (by decide) ?_
                    refine z_iadd C dX3_taken_112 ?_
                    refine z_istore (lv' := [some (.ref 35), some (.int co), some (.int sg), some (.int mi), some (.int _), some (.int _), some (.int _), some (.int _)]) C dX3_taken_113 (by decide) rfl ?_
                    refine z_iinc (y := 1) (lv' := [some (.ref 35), some (.int co), some (.int sg), some (.int mi), some (.int _), some (.int _), some (.int _), some (.int _)]) C dX3_taken_115 rfl (by decide) (by decide) rfl ?_
                    refine z_goto (tgt := 6) C dX3_taken_118 (by decide) ?_
                    refine z_sub (lv2 := [some (.ref 35), some (.int co), some (.int sg), some (.int mi), some (.int _), some (.int _), none, none]) z_drop67 ?_
                    rw [nI_1 i]
                    first
                      | (rw [show zsum (ztk (iv 36) (iv 37) (iv 38) (iv 39) (iv 40) co sg mi) i + 0 = zsum (ztk (iv 36) (iv 37) (iv 38) (iv 39) (iv 40) co sg mi) (i + 1) by
                           rw [zsum, show (ztk (iv 36) (iv 37) (iv 38) (iv 39) (iv 40) co sg mi) i = 0 from zb_f (by
                             rintro ⟨z1, z2, z3, z4, z5⟩
                             first | exact absurd z1 q23 | omega | (rcases z5 with z5 | z5 <;> first | exact absurd z5 q74 | omega))]]
                         exact ih (i + 1) (by omega))
                      | (rw [show zsum (ztk (iv 36) (iv 37) (iv 38) (iv 39) (iv 40) co sg mi) i + 1 = zsum (ztk (iv 36) (iv 37) (iv 38) (iv 39) (iv 40) co sg mi) (i + 1) by
                           rw [zsum, show (ztk (iv 36) (iv 37) (iv 38) (iv 39) (iv 40) co sg mi) i = 1 from zb_t ⟨q23, by omega, by omega, by omega, by first | exact Or.inl q74 | exact Or.inr (by omega)⟩]]
                         exact ih (i + 1) (by omega))
              · rw [nI_clamp (by omega)] at q74
                refine z_aload_n C dX3_taken_77 rfl ?_
                refine zs_getR C dX3_taken_78 zf_X3_24 zk_35 (by decide) (zr_35_5 n) ?_
                refine z_iload C dX3_taken_81 rfl ?_
                refine z_iald C dX3_taken_83 zk_40 (by decide) ?_ ?_
                · exact vp_in_nI (by omega) (by decide)
                refine z_iload_n C dX3_taken_84 rfl ?_
                refine zt_icmp_le (tgt := 92) C dX3_taken_85 rfl rfl (by decide) (fun q85 => ?_) (fun q85 => ?_)
                · rw [nI_clamp (by omega)] at q85
                  refine z_iconst (v := 0) C dX3_taken_92 (by decide) ?_
                  refine z_istore (lv' := [some (.ref 35), some (.int co), some (.int sg), some (.int mi), some (.int _), some (.int _), some (.int _), some (.int _)]) C dX3_taken_93 (by decide) rfl ?_
                  refine z_iload C dX3_taken_95 rfl ?_
                  refine z_iload C dX3_taken_97 rfl ?_
                  refine z_if_eq (tgt := 111) C dX3_taken_99 (by decide) (fun q99 => ?_) (fun q99 => ?_)
                  · exact absurd q99 (by decide)
                  · refine z_iload C dX3_taken_102 rfl ?_
                    refine z_if_eq (tgt := 111) C dX3_taken_104 (by decide) (fun q104 => ?_) (fun q104 => ?_)
                    · refine z_iconst (v := 0) C dX3_taken_111 (by decide) ?_
                      refine z_iadd C dX3_taken_112 ?_
                      refine z_istore (lv' := [some (.ref 35), some (.int co), some (.int sg), some (.int mi), some (.int _), some (.int _), some (.int _), some (.int _)]) C dX3_taken_113 (by decide) rfl ?_
                      refine z_iinc (y := 1) (lv' := [some (.ref 35), some (.int co), some (.int sg), some (.int mi), some (.int _), some (.int _), some (.int _), some (.int _)]) C dX3_taken_115 rfl (by decide) (by decide) rfl ?_
                      refine z_goto (tgt := 6) C dX3_taken_118 (by decide) ?_
                      refine z_sub (lv2 := [some (.ref 35), some (.int co), some (.int sg), some (.int mi), some (.int _), some (.int _), none, none]) z_drop67 ?_
                      rw [nI_1 i]
                      first
                        | (rw [show zsum (ztk (iv 36) (iv 37) (iv 38) (iv 39) (iv 40) co sg mi) i + 0 = zsum (ztk (iv 36) (iv 37) (iv 38) (iv 39) (iv 40) co sg mi) (i + 1) by
                             rw [zsum, show (ztk (iv 36) (iv 37) (iv 38) (iv 39) (iv 40) co sg mi) i = 0 from zb_f (by
                               rintro ⟨z1, z2, z3, z4, z5⟩
                               first | exact absurd z1 q23 | omega | (rcases z5 with z5 | z5 <;> first | exact absurd z5 q74 | omega))]]
                           exact ih (i + 1) (by omega))
                        | (rw [show zsum (ztk (iv 36) (iv 37) (iv 38) (iv 39) (iv 40) co sg mi) i + 1 = zsum (ztk (iv 36) (iv 37) (iv 38) (iv 39) (iv 40) co sg mi) (i + 1) by
                             rw [zsum, show (ztk (iv 36) (iv 37) (iv 38) (iv 39) (iv 40) co sg mi) i = 1 from zb_t ⟨q23, by omega, by omega, by omega, by first | exact Or.inl q74 | exact Or.inr (by omega)⟩]]
                           exact ih (i + 1) (by omega))
                    · exact absurd q104 (by decide)
                · rw [nI_clamp (by omega)] at q85
                  refine z_iconst (v := 1) C dX3_taken_88 (by decide) ?_
                  refine z_goto (tgt := 93) C dX3_taken_89 (by decide) ?_
                  refine z_istore (lv' := [some (.ref 35), some (.int co), some (.int sg), some (.int mi), some (.int _), some (.int _), some (.int _), some (.int _)]) C dX3_taken_93 (by decide) rfl ?_
                  refine z_iload C dX3_taken_95 rfl ?_
                  refine z_iload C dX3_taken_97 rfl ?_
                  refine z_if_eq (tgt := 111) C dX3_taken_99 (by decide) (fun q99 => ?_) (fun q99 => ?_)
                  · exact absurd q99 (by decide)
                  · refine z_iload C dX3_taken_102 rfl ?_
                    refine z_if_eq (tgt := 111) C dX3_taken_104 (by decide) (fun q104 => ?_) (fun q104 => ?_)
                    · exact absurd q104 (by decide)
                    · refine z_iconst (v := 1) C dX3_taken_107 (by decide) ?_
                      refine z_goto (tgt := 112) C dX3_taken_108 (by decide) ?_
                      refine z_iadd C dX3_taken_112 ?_
                      refine z_istore (lv' := [some (.ref 35), some (.int co), some (.int sg), some (.int mi), some (.int _), some (.int _), some (.int _), some (.int _)]) C dX3_taken_113 (by decide) rfl ?_
                      refine z_iinc (y := 1) (lv' := [some (.ref 35), some (.int co), some (.int sg), some (.int mi), some (.int _), some (.int _), some (.int _), some (.int _)]) C dX3_taken_115 rfl (by decide) (by decide) rfl ?_
                      refine z_goto (tgt := 6) C dX3_taken_118 (by decide) ?_
                      refine z_sub (lv2 := [some (.ref 35), some (.int co), some (.int sg), some (.int mi), some (.int _), some (.int _), none, none]) z_drop67 ?_
                      rw [nI_1 i]
                      first
                        | (rw [show zsum (ztk (iv 36) (iv 37) (iv 38) (iv 39) (iv 40) co sg mi) i + 0 = zsum (ztk (iv 36) (iv 37) (iv 38) (iv 39) (iv 40) co sg mi) (i + 1) by
                             rw [zsum, show (ztk (iv 36) (iv 37) (iv 38) (iv 39) (iv 40) co sg mi) i = 0 from zb_f (by
                               rintro ⟨z1, z2, z3, z4, z5⟩
                               first | exact absurd z1 q23 | omega | (rcases z5 with z5 | z5 <;> first | exact absurd z5 q74 | omega))]]
                           exact ih (i + 1) (by omega))
                        | (rw [show zsum (ztk (iv 36) (iv 37) (iv 38) (iv 39) (iv 40) co sg mi) i + 1 = zsum (ztk (iv 36) (iv 37) (iv 38) (iv 39) (iv 40) co sg mi) (i + 1) by
                             rw [zsum, show (ztk (iv 36) (iv 37) (iv 38) (iv 39) (iv 40) co sg mi) i = 1 from zb_t ⟨q23, by omega, by omega, by omega, by first | exact Or.inl q74 | exact Or.inr (by omega)⟩]]
                           exact ih (i + 1) (by omega))

set_option maxRecDepth 4000 in
theorem c_taken (n : Nat) (iv : zI) (lw : zG) (co sg mi : Int32) (t : Nat) (ht : iv 35 0 = nI t) (ht2 : t ≤ 100) : zMi yX3_taken cX3_taken 8 (some .int) 0 [.ref 35, .int co, .int sg, .int mi] n iv lw (zsum (ztk (iv 36) (iv 37) (iv 38) (iv 39) (iv 40) co sg mi) t) iv lw := by
  refine zM.of (by decide) (Nat.le_of_ble_eq_true rfl) (fun X C E => ?_)
  change zJs X n 8 0 [some (.ref 35), some (.int co), some (.int sg), some (.int mi), none, none, none, none] [] iv lw
  refine z_iconst (v := 0) C dX3_taken_0 (by decide) ?_
  refine z_istore (lv' := [some (.ref 35), some (.int co), some (.int sg), some (.int mi), some (.int _), none, none, none]) C dX3_taken_1 (by decide) rfl ?_
  refine z_iconst (v := 0) C dX3_taken_3 (by decide) ?_
  refine z_istore (lv' := [some (.ref 35), some (.int co), some (.int sg), some (.int mi), some (.int _), some (.int _), none, none]) C dX3_taken_4 (by decide) rfl ?_
  exact lp_taken n iv lw co sg mi t ht ht2 C E t 0 (by omega)
