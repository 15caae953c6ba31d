theorem z_astoreN {X : zX} {cc : ByteArray} {N0 nL pc pc' : Nat} {own : String} {ret : Option FieldType} {nm : String} {lvl MC MS : Nat} {lv lv' : zLs} {st : List Value} {N : Nat} {kd : zD} {iv : zI} {rf : zF} {lw : zG} {cells slots : Nat} {i : Nat} (C : zC X cc nL own ret nm lvl MC MS) (hd : zd cc pc (.astore i) 2 pc') (hn : i < nL) (hv : zp1 lv i .null = lv') (k : zJ X N0 nL pc' lv' st N kd iv rf lw cells slots) : zJ X N0 nL pc lv (.null :: st) N kd iv rf lw cells slots := by
  obtain ⟨p, l, e, R, s, m, args, below, meth, c, D, cA, A, ad0, Q⟩ := X
  obtain ⟨hx, hb, hml, hown, hts, hK, hA, hR, hZ, hr, hlk, hnm⟩ := C
  intro ad locs H ls g1 g2 g3 g4 g5 g6 hP hD hS hl
  obtain ⟨hd, rfl⟩ := hd
  subst hv
  refine lv_astoreN hx hb hd hl.has hn rfl (fun ls2 hl2 => ?_)
  exact k ad locs H ls2 g1 g2 g3 g4 (g5.put1 trivial) (ztl g6) hP hD hS (zlv.put1 (v := .null) hl2)
theorem zif_and {α : Type} {P Q : Prop} [Decidable P] [Decidable Q] {a b : α} (h : P) : (if Q then a else b) = if P ∧ Q then a else b := by
  by_cases hq : Q
  · rw [if_pos hq, if_pos ⟨h, hq⟩]
  · rw [if_neg hq, if_neg (fun z => hq z.2)]
theorem zin_nI {n i : Nat} (h : i < n) (hn : n ≤ 8) : vp_in (nI i) 8 := vp_in_nI (by omega) (by decide)

set_option maxRecDepth 4000 in
theorem c_coachOf1 (n : Nat) (iv : zI) (lw : zG) (hc : iv 0 3 = nI n) (hn : n ≤ 8) (i : Nat) (hi : i < n) : zMr yX9_coachOf cX9_coachOf 2 (some (.object "StageCoaches$Coach")) 0 [.ref 0, .int (nI i)] n iv lw (some (91 + 3 * i)) iv lw := by
  refine zM.of (by decide) (Nat.le_of_ble_eq_true rfl) (fun X C E => ?_)
  change zJs X n 2 0 [some (.ref 0), some (.int (nI i))] [] iv lw
  refine z_iload_n C dX9_coachOf_0 rfl ?_
  refine zt_if_lt (tgt := 12) C dX9_coachOf_1 (nI_toInt (by omega)) (by decide) (fun q1 => ?_) (fun q1 => ?_)
  · exfalso; omega
  · refine z_iload_n C dX9_coachOf_4 rfl ?_
    refine z_aload_n C dX9_coachOf_5 rfl ?_
    refine z_getI C dX9_coachOf_6 zf_X9_76 zk_0 (by decide) ?_
    refine zt_icmp_lt (tgt := 14) C dX9_coachOf_9 (nI_toInt (by omega)) (zt_nI hc (by omega)) (by decide) (fun q9 => ?_) (fun q9 => ?_)
    · refine z_aload_n C dX9_coachOf_14 rfl ?_
      refine zs_getR C dX9_coachOf_15 zf_X9_25 zk_0 (by decide) (zr_0_2 n) ?_
      refine z_iload_n C dX9_coachOf_18 rfl ?_
      refine z_aald C dX9_coachOf_19 zk_11 (by decide) ?_ ?_
      · exact zin_nI hi hn
      refine zs_aret C E dX9_coachOf_20 ?_ rfl rfl
      rw [nI_clamp (by omega)]
      exact zrfl hi
    · exfalso; omega

set_option maxRecDepth 4000 in
theorem c_coachOf0 (n : Nat) (iv : zI) (lw : zG) (hc : iv 0 3 = nI n) (hn : n ≤ 8) (co : Int32) (hv : ¬ (0 ≤ co.toInt ∧ co.toInt < n)) : zMr yX9_coachOf cX9_coachOf 2 (some (.object "StageCoaches$Coach")) 0 [.ref 0, .int co] n iv lw none iv lw := by
  refine zM.of (by decide) (Nat.le_of_ble_eq_true rfl) (fun X C E => ?_)
  change zJs X n 2 0 [some (.ref 0), some (.int co)] [] iv lw
  refine z_iload_n C dX9_coachOf_0 rfl ?_
  refine zt_if_lt (tgt := 12) C dX9_coachOf_1 rfl (by decide) (fun q1 => ?_) (fun q1 => ?_)
  · refine z_null C dX9_coachOf_12 ?_
    refine zs_aret (o := none) C E dX9_coachOf_13 ?_ rfl rfl
    rfl
  · refine z_iload_n C dX9_coachOf_4 rfl ?_
    refine z_aload_n C dX9_coachOf_5 rfl ?_
    refine z_getI C dX9_coachOf_6 zf_X9_76 zk_0 (by decide) ?_
    refine zt_icmp_lt (tgt := 14) C dX9_coachOf_9 rfl (zt_nI hc (by omega)) (by decide) (fun q9 => ?_) (fun q9 => ?_)
    · exfalso; omega
    · refine z_null C dX9_coachOf_12 ?_
      refine zs_aret (o := none) C E dX9_coachOf_13 ?_ rfl rfl
      rfl

set_option maxRecDepth 4000 in
theorem x_where1 (n : Nat) (iv : zI) (lw : zG) (hc : iv 0 3 = nI n) (hn : n ≤ 8) (i : Nat) (hi : i < n) (wh : Int32) : zMi yX9_where cX9_where 4 (some .int) 2 [.ref 0, .int (nI i), .int wh] n iv lw (zwhere (iv (91 + 3 * i) 5) (iv (91 + 3 * i) 6) (iv (91 + 3 * i) 7) (iv (91 + 3 * i) 12) (iv (91 + 3 * i) 9) (iv (91 + 3 * i) 8) (iv (91 + 3 * i) 10) wh) iv lw := by
  refine zM.of (by decide) (Nat.le_of_ble_eq_true rfl) (fun X C E => ?_)
  change zJs X n 4 0 [some (.ref 0), some (.int (nI i)), some (.int wh), none] [] iv lw
  refine z_aload_n C dX9_where_0 rfl ?_
  refine z_iload_n C dX9_where_1 rfl ?_
  refine zs_callVR C dX9_where_2 zm_X9_122 zyX9_coachOf (c_coachOf1 n _ _ hc hn i hi) zc_9 rfl zk_0 (by decide) (by decide) rfl rfl (Nat.le_of_ble_eq_true rfl) (by decide) (by decide) ?_
  refine z_astore_n (lv' := [some (.ref 0), some (.int _), some (.int wh), some (.ref (91 + 3 * i))]) C dX9_where_5 (by decide) rfl ?_
  refine z_aload_n C dX9_where_6 rfl ?_
  refine z_ifnonnull (tgt := 14) C dX9_where_7 (by decide) ?_
  refine z_aload_n C dX9_where_14 rfl ?_
  refine z_iload_n C dX9_where_15 rfl ?_
  refine zs_callVi C dX9_where_16 zm_X9_126 zyX0_tell (c_ctell _ _ _ i hi hn _) zc_0 rfl (zkc i) (by omega) (by decide) rfl rfl (Nat.le_of_ble_eq_true rfl) (by decide) (by decide) ?_
  refine zs_iret C E dX9_where_19 rfl ?_ ?_ ?_
  · rfl
  · rfl
  · rfl

set_option maxRecDepth 4000 in
theorem x_where0 (n : Nat) (iv : zI) (lw : zG) (hc : iv 0 3 = nI n) (hn : n ≤ 8) (co : Int32) (hv : ¬ (0 ≤ co.toInt ∧ co.toInt < n)) (wh : Int32) : zMi yX9_where cX9_where 4 (some .int) 1 [.ref 0, .int co, .int wh] n iv lw (-1) iv lw := by
  refine zM.of (by decide) (Nat.le_of_ble_eq_true rfl) (fun X C E => ?_)
  change zJs X n 4 0 [some (.ref 0), some (.int co), some (.int wh), none] [] iv lw
  refine z_aload_n C dX9_where_0 rfl ?_
  refine z_iload_n C dX9_where_1 rfl ?_
  refine zs_callVN C dX9_where_2 zm_X9_122 zyX9_coachOf (c_coachOf0 n _ _ hc hn co hv) zc_9 rfl zk_0 (by decide) (by decide) rfl rfl (Nat.le_of_ble_eq_true rfl) (by decide) (by decide) ?_
  refine z_astore_nN (lv' := [some (.ref 0), some (.int co), some (.int wh), some .null]) C dX9_where_5 (by decide) rfl ?_
  refine z_aload_nN C dX9_where_6 rfl ?_
  refine z_ifnonnullN C dX9_where_7 ?_
  refine z_iconst (v := (-1)) C dX9_where_10 (by decide) ?_
  refine z_goto (tgt := 19) C dX9_where_11 (by decide) ?_
  refine zs_iret C E dX9_where_19 rfl ?_ ?_ ?_
  · rfl
  · rfl
  · rfl

set_option maxRecDepth 4000 in
theorem x_part1 (n : Nat) (iv : zI) (lw : zG) (hc : iv 0 3 = nI n) (hn : n ≤ 8) (i : Nat) (hi : i < n) (pa : Int32) : zMi yX9_part cX9_part 4 (some .int) 1 [.ref 0, .int (nI i), .int pa] n iv lw (if 0 ≤ pa.toInt ∧ pa.toInt < 5 then iv (91 + 3 * i + 1) pa.toNatClampNeg else 0) iv lw := by
  refine zM.of (by decide) (Nat.le_of_ble_eq_true rfl) (fun X C E => ?_)
  change zJs X n 4 0 [some (.ref 0), some (.int (nI i)), some (.int pa), none] [] iv lw
  refine z_aload_n C dX9_part_0 rfl ?_
  refine z_iload_n C dX9_part_1 rfl ?_
  refine zs_callVR C dX9_part_2 zm_X9_122 zyX9_coachOf (c_coachOf1 n _ _ hc hn i hi) zc_9 rfl zk_0 (by decide) (by decide) rfl rfl (Nat.le_of_ble_eq_true rfl) (by decide) (by decide) ?_
  refine z_astore_n (lv' := [some (.ref 0), some (.int _), some (.int pa), some (.ref (91 + 3 * i))]) C dX9_part_5 (by decide) rfl ?_
  refine z_aload_n C dX9_part_6 rfl ?_
  refine z_ifnull C dX9_part_7 ?_
  refine z_iload_n C dX9_part_10 rfl ?_
  refine zt_if_lt (tgt := 19) C dX9_part_11 rfl (by decide) (fun q11 => ?_) (fun q11 => ?_)
  · refine z_iconst (v := 0) C dX9_part_19 (by decide) ?_
    refine zs_iret C E dX9_part_20 rfl ?_ ?_ ?_
    · first | exact (if_pos (by omega)).symm | exact (if_neg (by omega)).symm
    · rfl
    · rfl
  · refine z_iload_n C dX9_part_14 rfl ?_
    refine z_iconst (v := 5) C dX9_part_15 (by decide) ?_
    refine zt_icmp_lt (tgt := 21) C dX9_part_16 rfl (show (5 : Int32).toInt = 5 by decide) (by decide) (fun q16 => ?_) (fun q16 => ?_)
    · refine z_aload_n C dX9_part_21 rfl ?_
      refine zs_getR C dX9_part_22 zf_X9_129 (zkc i) (by omega) (zrc13 hi) ?_
      refine z_iload_n C dX9_part_25 rfl ?_
      refine z_iald C dX9_part_26 (zkc1 i) (by omega) ?_ ?_
      · exact vp_in_iff.mpr (by omega)
      refine zs_iret C E dX9_part_27 rfl ?_ ?_ ?_
      · first | exact (if_pos (by omega)).symm | exact (if_neg (by omega)).symm
      · rfl
      · rfl
    · refine z_iconst (v := 0) C dX9_part_19 (by decide) ?_
      refine zs_iret C E dX9_part_20 rfl ?_ ?_ ?_
      · first | exact (if_pos (by omega)).symm | exact (if_neg (by omega)).symm
      · rfl
      · rfl

set_option maxRecDepth 4000 in
theorem x_part0 (n : Nat) (iv : zI) (lw : zG) (hc : iv 0 3 = nI n) (hn : n ≤ 8) (co : Int32) (hv : ¬ (0 ≤ co.toInt ∧ co.toInt < n)) (pa : Int32) : zMi yX9_part cX9_part 4 (some .int) 1 [.ref 0, .int co, .int pa] n iv lw 0 iv lw := by
  refine zM.of (by decide) (Nat.le_of_ble_eq_true rfl) (fun X C E => ?_)
  change zJs X n 4 0 [some (.ref 0), some (.int co), some (.int pa), none] [] iv lw
  refine z_aload_n C dX9_part_0 rfl ?_
  refine z_iload_n C dX9_part_1 rfl ?_
  refine zs_callVN C dX9_part_2 zm_X9_122 zyX9_coachOf (c_coachOf0 n _ _ hc hn co hv) zc_9 rfl zk_0 (by decide) (by decide) rfl rfl (Nat.le_of_ble_eq_true rfl) (by decide) (by decide) ?_
  refine z_astore_nN (lv' := [some (.ref 0), some (.int co), some (.int pa), some .null]) C dX9_part_5 (by decide) rfl ?_
  refine z_aload_nN C dX9_part_6 rfl ?_
  refine z_ifnullN (tgt := 19) C dX9_part_7 (by decide) ?_
  refine z_iconst (v := 0) C dX9_part_19 (by decide) ?_
  refine zs_iret C E dX9_part_20 rfl ?_ ?_ ?_
  · rfl
  · rfl
  · rfl

set_option maxRecDepth 4000 in
theorem x_stage (n : Nat) (iv : zI) (lw : zG) (mi cl ma : Int32) (hI : 2 ≤ (iv 1 0).toInt ∧ (iv 1 0).toInt ≤ 8) : zMi yX9_stage cX9_stage 4 (some .int) 3 [.ref 0, .int mi, .int cl, .int ma] n iv lw (if (¬ 0 < (iv 0 3).toInt ∧ (iv 1 0).toInt < 8 ∧ (1 ≤ mi.toInt ∧ mi.toInt ≤ 20 ∧ 0 ≤ cl.toInt ∧ cl.toInt ≤ 9 ∧ 0 ≤ ma.toInt ∧ ma.toInt < 4)) then iv 1 0 else -1) (if (¬ 0 < (iv 0 3).toInt ∧ (iv 1 0).toInt < 8 ∧ (1 ≤ mi.toInt ∧ mi.toInt ≤ 20 ∧ 0 ≤ cl.toInt ∧ cl.toInt ≤ 9 ∧ 0 ≤ ma.toInt ∧ ma.toInt < 4)) then zlay (zu iv 1 0 (iv 1 0 + 1)) (iv 1 0 - 1).toNatClampNeg mi cl ma else iv) lw := by
  refine zM.of (by decide) (Nat.le_of_ble_eq_true rfl) (fun X C E => ?_)
  change zJs X n 4 0 [some (.ref 0), some (.int mi), some (.int cl), some (.int ma)] [] iv lw
  refine z_aload_n C dX9_stage_0 rfl ?_
  refine z_getI C dX9_stage_1 zf_X9_76 zk_0 (by decide) ?_
  refine zt_if_gt (tgt := 26) C dX9_stage_4 rfl (by decide) (fun q4 => ?_) (fun q4 => ?_)
  · refine z_iconst (v := (-1)) C dX9_stage_26 (by decide) ?_
    refine zs_iret C E dX9_stage_27 rfl ?_ ?_ ?_
    · exact (if_neg (by omega)).symm
    · exact (if_neg (by omega)).symm
    · rfl
  · refine z_aload_n C dX9_stage_7 rfl ?_
    refine zs_getR C dX9_stage_8 zf_X9_10 zk_0 (by decide) (zr_0_0 n) ?_
    refine zs_callVi C dX9_stage_11 zm_X9_80 zyX2_hasRoom (c_hasRoom _ _ _) zc_2 rfl zk_1 (by decide) (by decide) rfl rfl (Nat.le_of_ble_eq_true rfl) (by decide) (by decide) ?_
    refine zb_if_eq (tgt := 26) C dX9_stage_14 (by decide) (fun q14 => ?_) (fun q14 => ?_)
    · refine z_iconst (v := (-1)) C dX9_stage_26 (by decide) ?_
      refine zs_iret C E dX9_stage_27 rfl ?_ ?_ ?_
      · exact (if_neg (by omega)).symm
      · exact (if_neg (by omega)).symm
      · rfl
    · refine z_iload_n C dX9_stage_17 rfl ?_
      refine z_iload_n C dX9_stage_18 rfl ?_
      refine z_iload_n C dX9_stage_19 rfl ?_
      refine zs_callSi C dX9_stage_20 zm_X9_84 zyX2_canBe (c_hcanBe _ _ _ _ _ _) (by decide) rfl rfl (Nat.le_of_ble_eq_true rfl) (by decide) (by decide) ?_
      refine zb_if_ne (tgt := 28) C dX9_stage_23 (by decide) (fun q23 => ?_) (fun q23 => ?_)
      · refine z_aload_n C dX9_stage_28 rfl ?_
        refine zs_getR C dX9_stage_29 zf_X9_10 zk_0 (by decide) (zr_0_0 n) ?_
        refine z_iload_n C dX9_stage_32 rfl ?_
        refine z_iload_n C dX9_stage_33 rfl ?_
        refine z_iload_n C dX9_stage_34 rfl ?_
        refine zs_callVi C dX9_stage_35 zm_X9_88 zyX2_lengthen (c_lengthen _ _ _ _ _ _ hI (by omega)) zc_2 rfl zk_1 (by decide) (by decide) rfl rfl (Nat.le_of_ble_eq_true rfl) (by decide) (by decide) ?_
        refine zs_iret C E dX9_stage_38 rfl ?_ ?_ ?_
        · exact (if_pos (by omega)).symm
        · exact (if_pos (by omega)).symm
        · rfl
      · refine z_iconst (v := (-1)) C dX9_stage_26 (by decide) ?_
        refine zs_iret C E dX9_stage_27 rfl ?_ ?_ ?_
        · exact (if_neg (by omega)).symm
        · exact (if_neg (by omega)).symm
        · rfl

set_option maxRecDepth 4000 in
theorem x_first (n : Nat) (iv : zI) (lw : zG) (mi cl ma : Int32) (hI : 2 ≤ (iv 1 0).toInt ∧ (iv 1 0).toInt ≤ 8) : zMi yX9_first cX9_first 4 (some .boolean) 2 [.ref 0, .int mi, .int cl, .int ma] n iv lw (zb (¬ 0 < (iv 0 3).toInt ∧ (1 ≤ mi.toInt ∧ mi.toInt ≤ 20 ∧ 0 ≤ cl.toInt ∧ cl.toInt ≤ 9 ∧ 0 ≤ ma.toInt ∧ ma.toInt < 4))) (if (¬ 0 < (iv 0 3).toInt ∧ (1 ≤ mi.toInt ∧ mi.toInt ≤ 20 ∧ 0 ≤ cl.toInt ∧ cl.toInt ≤ 9 ∧ 0 ≤ ma.toInt ∧ ma.toInt < 4)) then zlay iv 0 mi cl ma else iv) lw := by
  refine zM.of (by decide) (Nat.le_of_ble_eq_true rfl) (fun X C E => ?_)
  change zJs X n 4 0 [some (.ref 0), some (.int mi), some (.int cl), some (.int ma)] [] iv lw
  refine z_aload_n C dX9_first_0 rfl ?_
  refine z_getI C dX9_first_1 zf_X9_76 zk_0 (by decide) ?_
  refine zt_if_gt (tgt := 16) C dX9_first_4 rfl (by decide) (fun q4 => ?_) (fun q4 => ?_)
  · refine z_iconst (v := 0) C dX9_first_16 (by decide) ?_
    refine zs_iret C E dX9_first_17 rfl ?_ ?_ ?_
    · exact (zb_f (by omega)).symm
    · exact (if_neg (by omega)).symm
    · rfl
  · refine z_iload_n C dX9_first_7 rfl ?_
    refine z_iload_n C dX9_first_8 rfl ?_
    refine z_iload_n C dX9_first_9 rfl ?_
    refine zs_callSi C dX9_first_10 zm_X9_84 zyX2_canBe (c_hcanBe _ _ _ _ _ _) (by decide) rfl rfl (Nat.le_of_ble_eq_true rfl) (by decide) (by decide) ?_
    refine zb_if_ne (tgt := 18) C dX9_first_13 (by decide) (fun q13 => ?_) (fun q13 => ?_)
    · refine z_aload_n C dX9_first_18 rfl ?_
      refine zs_getR C dX9_first_19 zf_X9_10 zk_0 (by decide) (zr_0_0 n) ?_
      refine z_iconst (v := 0) C dX9_first_22 (by decide) ?_
      refine z_iload_n C dX9_first_23 rfl ?_
      refine z_iload_n C dX9_first_24 rfl ?_
      refine z_iload_n C dX9_first_25 rfl ?_
      refine zs_callVv C dX9_first_26 zm_X9_92 zyX2_lay (c_lay _ _ _ 0 _ _ _ hI (by rw [show (0 : Int32).toInt = 0 by decide]; omega)) zc_2 rfl zk_1 (by decide) (by decide) rfl rfl (Nat.le_of_ble_eq_true rfl) (by decide) (by decide) ?_
      refine z_iconst (v := 1) C dX9_first_29 (by decide) ?_
      refine zs_iret C E dX9_first_30 rfl ?_ ?_ ?_
      · exact (zb_t (by omega)).symm
      · exact (if_pos (by omega)).symm
      · rfl
    · refine z_iconst (v := 0) C dX9_first_16 (by decide) ?_
      refine zs_iret C E dX9_first_17 rfl ?_ ?_ ?_
      · exact (zb_f (by omega)).symm
      · exact (if_neg (by omega)).symm
      · rfl

set_option maxRecDepth 4000 in
theorem x_mud (n : Nat) (iv : zI) (lw : zG) (sg de : Int32) (hI : 2 ≤ (iv 1 0).toInt ∧ (iv 1 0).toInt ≤ 8) : zMi yX9_mud cX9_mud 3 (some .boolean) 2 [.ref 0, .int sg, .int de] n iv lw (zb (0 ≤ sg.toInt ∧ sg.toInt < (iv 1 0).toInt - 1 ∧ 0 ≤ de.toInt ∧ de.toInt ≤ 9)) (if (0 ≤ sg.toInt ∧ sg.toInt < (iv 1 0).toInt - 1 ∧ 0 ≤ de.toInt ∧ de.toInt ≤ 9) then zu iv 4 sg.toNatClampNeg de else iv) lw := by
  refine zM.of (by decide) (Nat.le_of_ble_eq_true rfl) (fun X C E => ?_)
  change zJs X n 3 0 [some (.ref 0), some (.int sg), some (.int de)] [] iv lw
  refine z_aload_n C dX9_mud_0 rfl ?_
  refine zs_getR C dX9_mud_1 zf_X9_10 zk_0 (by decide) (zr_0_0 n) ?_
  refine z_iload_n C dX9_mud_4 rfl ?_
  refine z_iload_n C dX9_mud_5 rfl ?_
  refine zs_callVi C dX9_mud_6 zm_X9_96 zyX2_muddy (c_muddy _ _ _ _ _ hI) zc_2 rfl zk_1 (by decide) (by decide) rfl rfl (Nat.le_of_ble_eq_true rfl) (by decide) (by decide) ?_
  refine zs_iret C E dX9_mud_9 (zb_nar _) ?_ ?_ ?_
  · rfl
  · rfl
  · rfl

set_option maxRecDepth 4000 in
theorem x_oats (n : Nat) (iv : zI) (lw : zG) (inn am : Int32) (hI : 2 ≤ (iv 1 0).toInt ∧ (iv 1 0).toInt ≤ 8) (hO : ∀ k, k < 8 → 0 ≤ (iv 6 k).toInt ∧ (iv 6 k).toInt ≤ 100000) : zMi yX9_oats cX9_oats 3 (some .boolean) 2 [.ref 0, .int inn, .int am] n iv lw (zb (0 ≤ inn.toInt ∧ inn.toInt < (iv 1 0).toInt ∧ 0 ≤ am.toInt ∧ am.toInt ≤ 100000 - (iv 6 inn.toNatClampNeg).toInt)) (if (0 ≤ inn.toInt ∧ inn.toInt < (iv 1 0).toInt ∧ 0 ≤ am.toInt ∧ am.toInt ≤ 100000 - (iv 6 inn.toNatClampNeg).toInt) then zu iv 6 inn.toNatClampNeg (iv 6 inn.toNatClampNeg + am) else iv) lw := by
  refine zM.of (by decide) (Nat.le_of_ble_eq_true rfl) (fun X C E => ?_)
  change zJs X n 3 0 [some (.ref 0), some (.int inn), some (.int am)] [] iv lw
  refine z_aload_n C dX9_oats_0 rfl ?_
  refine zs_getR C dX9_oats_1 zf_X9_10 zk_0 (by decide) (zr_0_0 n) ?_
  refine z_iload_n C dX9_oats_4 rfl ?_
  refine z_iload_n C dX9_oats_5 rfl ?_
  refine zs_callVi C dX9_oats_6 zm_X9_100 zyX2_store (c_store _ _ _ _ _ hI hO) zc_2 rfl zk_1 (by decide) (by decide) rfl rfl (Nat.le_of_ble_eq_true rfl) (by decide) (by decide) ?_
  refine zs_iret C E dX9_oats_9 (zb_nar _) ?_ ?_ ?_
  · rfl
  · rfl
  · rfl

set_option maxRecDepth 4000 in
theorem x_road (n : Nat) (iv : zI) (lw : zG) (k wh : Int32) (hI : 2 ≤ (iv 1 0).toInt ∧ (iv 1 0).toInt ≤ 8) : zMi yX9_road cX9_road 3 (some .int) 2 [.ref 0, .int k, .int wh] n iv lw (zroad (iv 1 0).toInt (iv 2) (iv 3) (iv 4) (iv 5) (iv 6) k wh) iv lw := by
  refine zM.of (by decide) (Nat.le_of_ble_eq_true rfl) (fun X C E => ?_)
  change zJs X n 3 0 [some (.ref 0), some (.int k), some (.int wh)] [] iv lw
  refine z_aload_n C dX9_road_0 rfl ?_
  refine zs_getR C dX9_road_1 zf_X9_10 zk_0 (by decide) (zr_0_0 n) ?_
  refine z_iload_n C dX9_road_4 rfl ?_
  refine z_iload_n C dX9_road_5 rfl ?_
  refine zs_callVi C dX9_road_6 zm_X9_103 zyX2_tell (c_htell _ _ _ _ _ hI) zc_2 rfl zk_1 (by decide) (by decide) rfl rfl (Nat.le_of_ble_eq_true rfl) (by decide) (by decide) ?_
  refine zs_iret C E dX9_road_9 rfl ?_ ?_ ?_
  · rfl
  · rfl
  · rfl

set_option maxRecDepth 4000 in
theorem x_team (n : Nat) (iv : zI) (lw : zG) (inn st : Int32) (hT : 0 ≤ (iv 7 0).toInt) : zMi yX9_team cX9_team 3 (some .int) 1 [.ref 0, .int inn, .int st] n iv lw (if ((0 ≤ inn.toInt ∧ inn.toInt < (iv 1 0).toInt) ∧ (iv 7 0).toInt < 20 ∧ 0 ≤ st.toInt ∧ st.toInt ≤ 1000) then iv 7 0 else -1) (if ((0 ≤ inn.toInt ∧ inn.toInt < (iv 1 0).toInt) ∧ (iv 7 0).toInt < 20 ∧ 0 ≤ st.toInt ∧ st.toInt ≤ 1000) then zu (zu (zu (zu iv 8 (iv 7 0).toNatClampNeg st) 9 (iv 7 0).toNatClampNeg inn) 10 (iv 7 0).toNatClampNeg (-1)) 7 0 (iv 7 0 + 1) else iv) lw := by
  refine zM.of (by decide) (Nat.le_of_ble_eq_true rfl) (fun X C E => ?_)
  change zJs X n 3 0 [some (.ref 0), some (.int inn), some (.int st)] [] iv lw
  refine z_aload_n C dX9_team_0 rfl ?_
  refine zs_getR C dX9_team_1 zf_X9_10 zk_0 (by decide) (zr_0_0 n) ?_
  refine z_iload_n C dX9_team_4 rfl ?_
  refine zs_callVi C dX9_team_5 zm_X9_107 zyX2_hasInn (c_hasInn _ _ _ _) zc_2 rfl zk_1 (by decide) (by decide) rfl rfl (Nat.le_of_ble_eq_true rfl) (by decide) (by decide) ?_
  refine zb_if_ne (tgt := 13) C dX9_team_8 (by decide) (fun q8 => ?_) (fun q8 => ?_)
  · refine z_aload_n C dX9_team_13 rfl ?_
    refine zs_getR C dX9_team_14 zf_X9_19 zk_0 (by decide) (zr_0_1 n) ?_
    refine z_iload_n C dX9_team_17 rfl ?_
    refine z_iload_n C dX9_team_18 rfl ?_
    refine zs_callVi C dX9_team_19 zm_X9_111 zyX7_enter (c_tenter _ _ _ _ _ hT) zc_7 rfl zk_7 (by decide) (by decide) rfl rfl (Nat.le_of_ble_eq_true rfl) (by decide) (by decide) ?_
    refine zs_iret C E dX9_team_22 rfl ?_ ?_ ?_
    · first | exact (if_neg (by omega)).symm | exact zif_and q8
    · first | exact (if_neg (by omega)).symm | exact zif_and q8
    · rfl
  · refine z_iconst (v := (-1)) C dX9_team_11 (by decide) ?_
    refine zs_iret C E dX9_team_12 rfl ?_ ?_ ?_
    · first | exact (if_neg (by omega)).symm | exact zif_and q8
    · first | exact (if_neg (by omega)).symm | exact zif_and q8
    · rfl

set_option maxRecDepth 4000 in
theorem x_horses (n : Nat) (iv : zI) (lw : zG) (te wh : Int32) (hT : (iv 7 0).toInt ≤ 20) : zMi yX9_horses cX9_horses 3 (some .int) 2 [.ref 0, .int te, .int wh] n iv lw (zteam (iv 7 0).toInt (iv 8) (iv 9) (iv 10) te wh) iv lw := by
  refine zM.of (by decide) (Nat.le_of_ble_eq_true rfl) (fun X C E => ?_)
  change zJs X n 3 0 [some (.ref 0), some (.int te), some (.int wh)] [] iv lw
  refine z_aload_n C dX9_horses_0 rfl ?_
  refine zs_getR C dX9_horses_1 zf_X9_19 zk_0 (by decide) (zr_0_1 n) ?_
  refine z_iload_n C dX9_horses_4 rfl ?_
  refine z_iload_n C dX9_horses_5 rfl ?_
  refine zs_callVi C dX9_horses_6 zm_X9_114 zyX7_tell (c_ttell _ _ _ _ _ hT) zc_7 rfl zk_7 (by decide) (by decide) rfl rfl (Nat.le_of_ble_eq_true rfl) (by decide) (by decide) ?_
  refine zs_iret C E dX9_horses_9 rfl ?_ ?_ ?_
  · rfl
  · rfl
  · rfl

set_option maxRecDepth 4000 in
theorem x_feed (n : Nat) (iv : zI) (lw : zG) (a b c d e : Int32) (hT : 0 ≤ (iv 12 1).toInt) : zMi yX9_feed cX9_feed 6 (some .int) 1 [.ref 0, .int a, .int b, .int c, .int d, .int e] n iv lw (if (iv 12 1).toInt ≤ 780 then (zwr (zwr (zwr (zwr (zwr iv a 4) b 4) c 4) d 4) e 4) 12 1 else -1) (if (iv 12 1).toInt ≤ 780 then (zwr (zwr (zwr (zwr (zwr iv a 4) b 4) c 4) d 4) e 4) else iv) lw := by
  refine zM.of (by decide) (Nat.le_of_ble_eq_true rfl) (fun X C E => ?_)
  change zJs X n 6 0 [some (.ref 0), some (.int a), some (.int b), some (.int c), some (.int d), some (.int e)] [] iv lw
  refine z_aload_n C dX9_feed_0 rfl ?_
  refine zs_getR C dX9_feed_1 zf_X9_32 zk_0 (by decide) (zr_0_4 n) ?_
  refine zs_callVi C dX9_feed_4 zm_X9_139 zyX8_hasRoom (c_tapeRoom _ _ _) zc_8 rfl zk_12 (by decide) (by decide) rfl rfl (Nat.le_of_ble_eq_true rfl) (by decide) (by decide) ?_
  refine zb_if_ne (tgt := 12) C dX9_feed_7 (by decide) (fun q7 => ?_) (fun q7 => ?_)
  · have l1 := zwr_len iv a 4
    have l2 := zwr_len (zwr iv a 4) b 4
    have l3 := zwr_len (zwr (zwr iv a 4) b 4) c 4
    have l4 := zwr_len (zwr (zwr (zwr iv a 4) b 4) c 4) d 4
    have k4 : (nI 4).toInt = 4 := by decide
    have t1 : (zwr iv a 4 12 1).toInt = (iv 12 1).toInt + 4 := by rw [l1, zt_add (by rw [k4]; omega) (by rw [k4]; omega), k4]
    have t2 : (zwr (zwr iv a 4) b 4 12 1).toInt = (iv 12 1).toInt + 8 := by rw [l2, zt_add (by rw [k4]; omega) (by rw [k4]; omega), k4]; omega
    have t3 : (zwr (zwr (zwr iv a 4) b 4) c 4 12 1).toInt = (iv 12 1).toInt + 12 := by rw [l3, zt_add (by rw [k4]; omega) (by rw [k4]; omega), k4]; omega
    have t4 : (zwr (zwr (zwr (zwr iv a 4) b 4) c 4) d 4 12 1).toInt = (iv 12 1).toInt + 16 := by rw [l4, zt_add (by rw [k4]; omega) (by rw [k4]; omega), k4]; omega
    refine z_aload_n C dX9_feed_12 rfl ?_
    refine zs_getR C dX9_feed_13 zf_X9_32 zk_0 (by decide) (zr_0_4 n) ?_
    refine z_iload_n C dX9_feed_16 rfl ?_
    refine zs_callVv C dX9_feed_17 zm_X9_140 zyX8_write (c_write _ _ _ _ (by omega)) zc_8 rfl zk_12 (by decide) (by decide) rfl rfl (Nat.le_of_ble_eq_true rfl) (by decide) (by decide) ?_
    refine z_aload_n C dX9_feed_20 rfl ?_
    refine zs_getR C dX9_feed_21 zf_X9_32 zk_0 (by decide) (zr_0_4 n) ?_
    refine z_iload_n C dX9_feed_24 rfl ?_
    refine zs_callVv C dX9_feed_25 zm_X9_140 zyX8_write (c_write _ _ _ _ (by omega)) zc_8 rfl zk_12 (by decide) (by decide) rfl rfl (Nat.le_of_ble_eq_true rfl) (by decide) (by decide) ?_
    refine z_aload_n C dX9_feed_28 rfl ?_
    refine zs_getR C dX9_feed_29 zf_X9_32 zk_0 (by decide) (zr_0_4 n) ?_
    refine z_iload_n C dX9_feed_32 rfl ?_
    refine zs_callVv C dX9_feed_33 zm_X9_140 zyX8_write (c_write _ _ _ _ (by omega)) zc_8 rfl zk_12 (by decide) (by decide) rfl rfl (Nat.le_of_ble_eq_true rfl) (by decide) (by decide) ?_
    refine z_aload_n C dX9_feed_36 rfl ?_
    refine zs_getR C dX9_feed_37 zf_X9_32 zk_0 (by decide) (zr_0_4 n) ?_
    refine z_iload C dX9_feed_40 rfl ?_
    refine zs_callVv C dX9_feed_42 zm_X9_140 zyX8_write (c_write _ _ _ _ (by omega)) zc_8 rfl zk_12 (by decide) (by decide) rfl rfl (Nat.le_of_ble_eq_true rfl) (by decide) (by decide) ?_
    refine z_aload_n C dX9_feed_45 rfl ?_
    refine zs_getR C dX9_feed_46 zf_X9_32 zk_0 (by decide) (zr_0_4 n) ?_
    refine z_iload C dX9_feed_49 rfl ?_
    refine zs_callVv C dX9_feed_51 zm_X9_140 zyX8_write (c_write _ _ _ _ (by omega)) zc_8 rfl zk_12 (by decide) (by decide) rfl rfl (Nat.le_of_ble_eq_true rfl) (by decide) (by decide) ?_
    refine z_aload_n C dX9_feed_54 rfl ?_
    refine zs_getR C dX9_feed_55 zf_X9_32 zk_0 (by decide) (zr_0_4 n) ?_
    refine z_getI C dX9_feed_58 zf_X9_144 zk_12 (by decide) ?_
    refine zs_iret C E dX9_feed_61 rfl ?_ ?_ ?_
    · exact (if_pos (by omega)).symm
    · exact (if_pos (by omega)).symm
    · rfl
  · refine z_iconst (v := (-1)) C dX9_feed_10 (by decide) ?_
    refine zs_iret C E dX9_feed_11 rfl ?_ ?_ ?_
    · exact (if_neg (by omega)).symm
    · exact (if_neg (by omega)).symm
    · rfl

set_option maxRecDepth 4000 in
theorem x_end (n : Nat) (iv : zI) (lw : zG) (m : Int32) : zMi yX9_end cX9_end 2 (some .int) 0 [.ref 0, .int m] n iv lw (if (0 ≤ m.toInt ∧ m.toInt ≤ (iv 12 1).toInt) then m else -1) (if (0 ≤ m.toInt ∧ m.toInt ≤ (iv 12 1).toInt) then zu iv 12 1 m else iv) lw := by
  refine zM.of (by decide) (Nat.le_of_ble_eq_true rfl) (fun X C E => ?_)
  change zJs X n 2 0 [some (.ref 0), some (.int m)] [] iv lw
  refine z_iload_n C dX9_end_0 rfl ?_
  refine zt_if_lt (tgt := 15) C dX9_end_1 rfl (by decide) (fun q1 => ?_) (fun q1 => ?_)
  · refine z_iconst (v := (-1)) C dX9_end_15 (by decide) ?_
    refine zs_iret C E dX9_end_16 rfl ?_ ?_ ?_
    · exact (if_neg (by omega)).symm
    · exact (if_neg (by omega)).symm
    · rfl
  · refine z_iload_n C dX9_end_4 rfl ?_
    refine z_aload_n C dX9_end_5 rfl ?_
    refine zs_getR C dX9_end_6 zf_X9_32 zk_0 (by decide) (zr_0_4 n) ?_
    refine z_getI C dX9_end_9 zf_X9_144 zk_12 (by decide) ?_
    refine zt_icmp_le (tgt := 17) C dX9_end_12 rfl rfl (by decide) (fun q12 => ?_) (fun q12 => ?_)
    · refine z_aload_n C dX9_end_17 rfl ?_
      refine zs_getR C dX9_end_18 zf_X9_32 zk_0 (by decide) (zr_0_4 n) ?_
      refine z_iload_n C dX9_end_21 rfl ?_
      refine z_putI C dX9_end_22 zf_X9_144 zk_12 (by decide) ?_
      refine z_iload_n C dX9_end_25 rfl ?_
      refine zs_iret C E dX9_end_26 rfl ?_ ?_ ?_
      · exact (if_pos (by omega)).symm
      · exact (if_pos (by omega)).symm
      · rfl
    · refine z_iconst (v := (-1)) C dX9_end_15 (by decide) ?_
      refine zs_iret C E dX9_end_16 rfl ?_ ?_ ?_
      · exact (if_neg (by omega)).symm
      · exact (if_neg (by omega)).symm
      · rfl

set_option maxRecDepth 4000 in
theorem x_fault (n : Nat) (iv : zI) (lw : zG) (wh : Int32) : zMi yX9_fault cX9_fault 2 (some .int) 0 [.ref 0, .int wh] n iv lw (if wh = 0 then iv 14 5 else if wh = 1 then iv 14 6 else -1) iv lw := by
  refine zM.of (by decide) (Nat.le_of_ble_eq_true rfl) (fun X C E => ?_)
  change zJs X n 2 0 [some (.ref 0), some (.int wh)] [] iv lw
  refine z_iload_n C dX9_fault_0 rfl ?_
  refine z_if_ne (tgt := 12) C dX9_fault_1 (by decide) (fun q1 => ?_) (fun q1 => ?_)
  · refine z_iload_n C dX9_fault_12 rfl ?_
    refine z_iconst (v := 1) C dX9_fault_13 (by decide) ?_
    refine z_icmp_ne (tgt := 27) C dX9_fault_14 (by decide) (fun q14 => ?_) (fun q14 => ?_)
    · refine z_iconst (v := (-1)) C dX9_fault_27 (by decide) ?_
      refine zs_iret C E dX9_fault_28 rfl ?_ ?_ ?_
      · simp [*]
      · rfl
      · rfl
    · refine z_aload_n C dX9_fault_17 rfl ?_
      refine zs_getR C dX9_fault_18 zf_X9_45 zk_0 (by decide) (zr_0_5 n) ?_
      refine z_getI C dX9_fault_21 zf_X9_163 zk_14 (by decide) ?_
      refine z_goto (tgt := 28) C dX9_fault_24 (by decide) ?_
      refine zs_iret C E dX9_fault_28 rfl ?_ ?_ ?_
      · simp [*]
      · rfl
      · rfl
  · refine z_aload_n C dX9_fault_4 rfl ?_
    refine zs_getR C dX9_fault_5 zf_X9_45 zk_0 (by decide) (zr_0_5 n) ?_
    refine z_getI C dX9_fault_8 zf_X9_160 zk_14 (by decide) ?_
    refine zs_iret C E dX9_fault_11 rfl ?_ ?_ ?_
    · simp [*]
    · rfl
    · rfl

set_option maxRecDepth 4000 in
theorem x_trip (n : Nat) (iv : zI) (lw : zG) (sg dn mi : Int32) (hI : 2 ≤ (iv 1 0).toInt ∧ (iv 1 0).toInt ≤ 8) (hT : 0 ≤ (iv 29 0).toInt) : zMi yX9_trip cX9_trip 4 (some .int) 1 [.ref 0, .int sg, .int dn, .int mi] n iv lw (if ((0 ≤ sg.toInt ∧ sg.toInt < (iv 1 0).toInt - 1) ∧ (iv 29 0).toInt < 24 ∧ 0 ≤ mi.toInt ∧ mi.toInt ≤ 10000) then iv 29 0 + 1 else -1) (if ((0 ≤ sg.toInt ∧ sg.toInt < (iv 1 0).toInt - 1) ∧ (iv 29 0).toInt < 24 ∧ 0 ≤ mi.toInt ∧ mi.toInt ≤ 10000) then ztrip iv sg dn mi else iv) lw := by
  refine zM.of (by decide) (Nat.le_of_ble_eq_true rfl) (fun X C E => ?_)
  change zJs X n 4 0 [some (.ref 0), some (.int sg), some (.int dn), some (.int mi)] [] iv lw
  refine z_aload_n C dX9_trip_0 rfl ?_
  refine zs_getR C dX9_trip_1 zf_X9_10 zk_0 (by decide) (zr_0_0 n) ?_
  refine z_iload_n C dX9_trip_4 rfl ?_
  refine zs_callVi C dX9_trip_5 zm_X9_276 zyX2_hasStage (c_hasStage _ _ _ _ hI) zc_2 rfl zk_1 (by decide) (by decide) rfl rfl (Nat.le_of_ble_eq_true rfl) (by decide) (by decide) ?_
  refine zb_if_ne (tgt := 13) C dX9_trip_8 (by decide) (fun q8 => ?_) (fun q8 => ?_)
  · refine z_aload_n C dX9_trip_13 rfl ?_
    refine zs_getR C dX9_trip_14 zf_X9_65 zk_0 (by decide) (zr_0_8 n) ?_
    refine z_iload_n C dX9_trip_17 rfl ?_
    refine z_iload_n C dX9_trip_18 rfl ?_
    refine z_iload_n C dX9_trip_19 rfl ?_
    refine zs_callVi C dX9_trip_20 zm_X9_279 zyX4_enter (c_penter _ _ _ _ _ _ hT) zc_4 rfl zk_29 (by decide) (by decide) rfl rfl (Nat.le_of_ble_eq_true rfl) (by decide) (by decide) ?_
    refine zs_iret C E dX9_trip_23 rfl ?_ ?_ ?_
    · first | exact (if_neg (by omega)).symm | exact zif_and q8
    · first | exact (if_neg (by omega)).symm | exact zif_and q8
    · rfl
  · refine z_iconst (v := (-1)) C dX9_trip_11 (by decide) ?_
    refine zs_iret C E dX9_trip_12 rfl ?_ ?_ ?_
    · first | exact (if_neg (by omega)).symm | exact zif_and q8
    · first | exact (if_neg (by omega)).symm | exact zif_and q8
    · rfl

set_option maxRecDepth 4000 in
theorem x_clear (n : Nat) (iv : zI) (lw : zG) : zMi yX9_clear cX9_clear 2 (some .int) 0 [.ref 0] n iv lw (iv 29 0) (zu iv 29 0 0) lw := by
  refine zM.of (by decide) (Nat.le_of_ble_eq_true rfl) (fun X C E => ?_)
  change zJs X n 2 0 [some (.ref 0), none] [] iv lw
  refine z_aload_n C dX9_clear_0 rfl ?_
  refine zs_getR C dX9_clear_1 zf_X9_65 zk_0 (by decide) (zr_0_8 n) ?_
  refine z_getI C dX9_clear_4 zf_X9_282 zk_29 (by decide) ?_
  refine z_istore_n (lv' := [some (.ref 0), some (.int _)]) C dX9_clear_7 (by decide) rfl ?_
  refine z_aload_n C dX9_clear_8 rfl ?_
  refine zs_getR C dX9_clear_9 zf_X9_65 zk_0 (by decide) (zr_0_8 n) ?_
  refine z_iconst (v := 0) C dX9_clear_12 (by decide) ?_
  refine z_putI C dX9_clear_13 zf_X9_282 zk_29 (by decide) ?_
  refine z_iload_n C dX9_clear_16 rfl ?_
  refine zs_iret C E dX9_clear_17 rfl ?_ ?_ ?_
  · rfl
  · rfl
  · rfl

set_option maxRecDepth 4000 in
theorem x_behind (n : Nat) (iv : zI) (lw : zG) (a b rest : Int32) (hT : (iv 29 0).toInt ≤ 24) (hI : 2 ≤ (iv 1 0).toInt ∧ (iv 1 0).toInt ≤ 8) (hS : ∀ k, ((k : Nat) : Int) < (iv 29 0).toInt → 0 ≤ (iv 30 k).toInt ∧ (iv 30 k).toInt < (iv 1 0).toInt - 1) : zMi yX9_behind cX9_behind 4 (some .boolean) 3 [.ref 0, .int a, .int b, .int rest] n iv lw (zb (zfol iv a b rest)) iv lw := by
  refine zM.of (by decide) (Nat.le_of_ble_eq_true rfl) (fun X C E => ?_)
  change zJs X n 4 0 [some (.ref 0), some (.int a), some (.int b), some (.int rest)] [] iv lw
  refine z_aload_n C dX9_behind_0 rfl ?_
  refine zs_getR C dX9_behind_1 zf_X9_65 zk_0 (by decide) (zr_0_8 n) ?_
  refine z_iload_n C dX9_behind_4 rfl ?_
  refine z_iload_n C dX9_behind_5 rfl ?_
  refine z_iload_n C dX9_behind_6 rfl ?_
  refine z_aload_n C dX9_behind_7 rfl ?_
  refine zs_getR C dX9_behind_8 zf_X9_10 zk_0 (by decide) (zr_0_0 n) ?_
  refine zs_callVi C dX9_behind_11 zm_X9_285 zyX4_follows (c_follows _ _ _ _ _ _ hT hI hS) zc_4 rfl zk_29 (by decide) (by decide) rfl rfl (Nat.le_of_ble_eq_true rfl) (by decide) (by decide) ?_
  refine zs_iret C E dX9_behind_14 (zb_nar _) ?_ ?_ ?_
  · rfl
  · rfl
  · rfl

set_option maxRecDepth 4000 in
theorem x_fewest (n : Nat) (iv : zI) (lw : zG) (rest : Int32) (t : Nat) (ht : iv 29 0 = nI t) (ht2 : t ≤ 24) (hI : 2 ≤ (iv 1 0).toInt ∧ (iv 1 0).toInt ≤ 8) (hS : ∀ k, ((k : Nat) : Int) < (iv 29 0).toInt → 0 ≤ (iv 30 k).toInt ∧ (iv 30 k).toInt < (iv 1 0).toInt - 1) : zMi yX9_fewest cX9_fewest 2 (some .int) 5 [.ref 0, .int rest] n iv lw (if (0 ≤ rest.toInt ∧ rest.toInt ≤ 10000) then znn (zclr iv t) t rest t else -1) (if (0 ≤ rest.toInt ∧ rest.toInt ≤ 10000) then znv (zclr iv t) t rest t else iv) lw := by
  refine zM.of (by decide) (Nat.le_of_ble_eq_true rfl) (fun X C E => ?_)
  change zJs X n 2 0 [some (.ref 0), some (.int rest)] [] iv lw
  refine z_aload_n C dX9_fewest_0 rfl ?_
  refine zs_getR C dX9_fewest_1 zf_X9_65 zk_0 (by decide) (zr_0_8 n) ?_
  refine z_iload_n C dX9_fewest_4 rfl ?_
  refine z_aload_n C dX9_fewest_5 rfl ?_
  refine zs_getR C dX9_fewest_6 zf_X9_10 zk_0 (by decide) (zr_0_0 n) ?_
  refine zs_callVi C dX9_fewest_9 zm_X9_289 zyX4_teamsNeeded (c_need _ _ _ _ t ht ht2 hI hS) zc_4 rfl zk_29 (by decide) (by decide) rfl rfl (Nat.le_of_ble_eq_true rfl) (by decide) (by decide) ?_
  refine zs_iret C E dX9_fewest_12 rfl ?_ ?_ ?_
  · rfl
  · rfl
  · rfl

set_option maxRecDepth 4000 in
theorem x_untell (n : Nat) (iv : zI) (lw : zG) (bo : Int32) (hT : (iv 35 0).toInt ≤ 100) : zMi yX9_untell cX9_untell 2 (some .boolean) 1 [.ref 0, .int bo] n iv lw (zb (0 ≤ bo.toInt ∧ bo.toInt < (iv 35 0).toInt ∧ iv 40 bo.toNatClampNeg = -1)) (if (0 ≤ bo.toInt ∧ bo.toInt < (iv 35 0).toInt ∧ iv 40 bo.toNatClampNeg = -1) then zu iv 40 bo.toNatClampNeg (iv 0 10) else iv) lw := by
  refine zM.of (by decide) (Nat.le_of_ble_eq_true rfl) (fun X C E => ?_)
  change zJs X n 2 0 [some (.ref 0), some (.int bo)] [] iv lw
  refine z_aload_n C dX9_untell_0 rfl ?_
  refine zs_getR C dX9_untell_1 zf_X9_72 zk_0 (by decide) (zr_0_9 n) ?_
  refine z_iload_n C dX9_untell_4 rfl ?_
  refine z_aload_n C dX9_untell_5 rfl ?_
  refine z_getI C dX9_untell_6 zf_X9_115 zk_0 (by decide) ?_
  refine zs_callVi C dX9_untell_9 zm_X9_312 zyX3_strike (c_strike _ _ _ _ _ hT) zc_3 rfl zk_35 (by decide) (by decide) rfl rfl (Nat.le_of_ble_eq_true rfl) (by decide) (by decide) ?_
  refine zs_iret C E dX9_untell_12 (zb_nar _) ?_ ?_ ?_
  · rfl
  · rfl
  · rfl

set_option maxRecDepth 4000 in
theorem x_free1 (n : Nat) (iv : zI) (lw : zG) (hc : iv 0 3 = nI n) (hn : n ≤ 8) (i : Nat) (hi : i < n) (sg mi : Int32) (t : Nat) (ht : iv 35 0 = nI t) (ht2 : t ≤ 100) : zMi yX9_free cX9_free 5 (some .int) 2 [.ref 0, .int (nI i), .int sg, .int mi] n iv lw (if ((zlo (iv (91 + 3 * i) 2) (iv (91 + 3 * i) 3)).toInt ≤ sg.toInt ∧ sg.toInt < (zhi (iv (91 + 3 * i) 2) (iv (91 + 3 * i) 3)).toInt) then zseats (iv (91 + 3 * i) 0) - zsum (ztk (iv 36) (iv 37) (iv 38) (iv 39) (iv 40) (nI i) sg mi) t else -1) iv lw := by
  refine zM.of (by decide) (Nat.le_of_ble_eq_true rfl) (fun X C E => ?_)
  change zJs X n 5 0 [some (.ref 0), some (.int (nI i)), some (.int sg), some (.int mi), none] [] iv lw
  refine z_aload_n C dX9_free_0 rfl ?_
  refine z_iload_n C dX9_free_1 rfl ?_
  refine zs_callVR C dX9_free_2 zm_X9_122 zyX9_coachOf (c_coachOf1 n _ _ hc hn i hi) zc_9 rfl zk_0 (by decide) (by decide) rfl rfl (Nat.le_of_ble_eq_true rfl) (by decide) (by decide) ?_
  refine z_astore (lv' := [some (.ref 0), some (.int _), some (.int sg), some (.int mi), some (.ref (91 + 3 * i))]) C dX9_free_5 (by decide) rfl ?_
  refine z_aload C dX9_free_7 rfl ?_
  refine z_ifnull C dX9_free_9 ?_
  refine z_aload C dX9_free_12 rfl ?_
  refine z_iload_n C dX9_free_14 rfl ?_
  refine zs_callVi C dX9_free_15 zm_X9_315 zyX0_passesStage (c_passesStage _ _ _ i hi hn _) zc_0 rfl (zkc i) (by omega) (by decide) rfl rfl (Nat.le_of_ble_eq_true rfl) (by decide) (by decide) ?_
  refine zb_if_ne (tgt := 23) C dX9_free_18 (by decide) (fun q18 => ?_) (fun q18 => ?_)
  · refine z_aload C dX9_free_23 rfl ?_
    refine zs_callVi C dX9_free_25 zm_X9_303 zyX0_seats (c_seats _ _ _ i hi hn) zc_0 rfl (zkc i) (by omega) (by decide) rfl rfl (Nat.le_of_ble_eq_true rfl) (by decide) (by decide) ?_
    refine z_aload_n C dX9_free_28 rfl ?_
    refine zs_getR C dX9_free_29 zf_X9_72 zk_0 (by decide) (zr_0_9 n) ?_
    refine z_iload_n C dX9_free_32 rfl ?_
    refine z_iload_n C dX9_free_33 rfl ?_
    refine z_iload_n C dX9_free_34 rfl ?_
    refine zs_callVi C dX9_free_35 zm_X9_306 zyX3_taken (c_taken _ _ _ _ _ _ t ht ht2) zc_3 rfl zk_35 (by decide) (by decide) rfl rfl (Nat.le_of_ble_eq_true rfl) (by decide) (by decide) ?_
    refine z_isub C dX9_free_38 ?_
    refine zs_iret C E dX9_free_39 rfl ?_ ?_ ?_
    · exact (if_pos q18).symm
    · rfl
    · rfl
  · refine z_iconst (v := (-1)) C dX9_free_21 (by decide) ?_
    refine zs_iret C E dX9_free_22 rfl ?_ ?_ ?_
    · exact (if_neg q18).symm
    · rfl
    · rfl

set_option maxRecDepth 4000 in
theorem x_free0 (n : Nat) (iv : zI) (lw : zG) (hc : iv 0 3 = nI n) (hn : n ≤ 8) (co : Int32) (hv : ¬ (0 ≤ co.toInt ∧ co.toInt < n)) (sg mi : Int32) : zMi yX9_free cX9_free 5 (some .int) 1 [.ref 0, .int co, .int sg, .int mi] n iv lw (-1) iv lw := by
  refine zM.of (by decide) (Nat.le_of_ble_eq_true rfl) (fun X C E => ?_)
  change zJs X n 5 0 [some (.ref 0), some (.int co), some (.int sg), some (.int mi), none] [] iv lw
  refine z_aload_n C dX9_free_0 rfl ?_
  refine z_iload_n C dX9_free_1 rfl ?_
  refine zs_callVN C dX9_free_2 zm_X9_122 zyX9_coachOf (c_coachOf0 n _ _ hc hn co hv) zc_9 rfl zk_0 (by decide) (by decide) rfl rfl (Nat.le_of_ble_eq_true rfl) (by decide) (by decide) ?_
  refine z_astoreN (lv' := [some (.ref 0), some (.int co), some (.int sg), some (.int mi), some .null]) C dX9_free_5 (by decide) rfl ?_
  refine z_aloadN C dX9_free_7 rfl ?_
  refine z_ifnullN (tgt := 21) C dX9_free_9 (by decide) ?_
  refine z_iconst (v := (-1)) C dX9_free_21 (by decide) ?_
  refine zs_iret C E dX9_free_22 rfl ?_ ?_ ?_
  · rfl
  · rfl
  · rfl

def zabout (a b c d e f g h wh : Int32) : Int32 := if wh = 0 then a else if wh = 1 then b else if wh = 2 then c else if wh = 3 then d else if wh = 4 then e else if wh = 5 then f else if wh = 6 then g else if wh = 7 then h else -1

set_option maxRecDepth 4000 in
theorem x_about (n : Nat) (iv : zI) (lw : zG) (wh : Int32) : zMi yX9_about cX9_about 2 (some .int) 0 [.ref 0, .int wh] n iv lw (zabout (iv 0 10) (iv 1 0) (iv 7 0) (iv 0 3) (iv 23 0) (iv 29 0) (iv 35 0) (iv 12 1) wh) iv lw := by
  refine zM.of (by decide) (Nat.le_of_ble_eq_true rfl) (fun X C E => ?_)
  change zJs X n 2 0 [some (.ref 0), some (.int wh)] [] iv lw
  refine z_iload_n C dX9_about_0 rfl ?_
  by_cases qs1_0 : wh = 0
  · refine z_tabIn (tgt := 48) C dX9_about_1 (by rw [qs1_0]; decide) (by rw [qs1_0]; decide) (by rw [qs1_0]; rfl) (by decide) ?_
    refine z_aload_n C dX9_about_48 rfl ?_
    refine z_getI C dX9_about_49 zf_X9_115 zk_0 (by decide) ?_
    refine zs_iret C E dX9_about_52 rfl ?_ ?_ ?_
    · unfold zabout
      simp [*]
    · rfl
    · rfl
  by_cases qs1_1 : wh = 1
  · refine z_tabIn (tgt := 53) C dX9_about_1 (by rw [qs1_1]; decide) (by rw [qs1_1]; decide) (by rw [qs1_1]; rfl) (by decide) ?_
    refine z_aload_n C dX9_about_53 rfl ?_
    refine zs_getR C dX9_about_54 zf_X9_10 zk_0 (by decide) (zr_0_0 n) ?_
    refine z_getI C dX9_about_57 zf_X9_321 zk_1 (by decide) ?_
    refine zs_iret C E dX9_about_60 rfl ?_ ?_ ?_
    · unfold zabout
      simp [*]
    · rfl
    · rfl
  by_cases qs1_2 : wh = 2
  · refine z_tabIn (tgt := 61) C dX9_about_1 (by rw [qs1_2]; decide) (by rw [qs1_2]; decide) (by rw [qs1_2]; rfl) (by decide) ?_
    refine z_aload_n C dX9_about_61 rfl ?_
    refine zs_getR C dX9_about_62 zf_X9_19 zk_0 (by decide) (zr_0_1 n) ?_
    refine z_getI C dX9_about_65 zf_X9_324 zk_7 (by decide) ?_
    refine zs_iret C E dX9_about_68 rfl ?_ ?_ ?_
    · unfold zabout
      simp [*]
    · rfl
    · rfl
  by_cases qs1_3 : wh = 3
  · refine z_tabIn (tgt := 69) C dX9_about_1 (by rw [qs1_3]; decide) (by rw [qs1_3]; decide) (by rw [qs1_3]; rfl) (by decide) ?_
    refine z_aload_n C dX9_about_69 rfl ?_
    refine z_getI C dX9_about_70 zf_X9_76 zk_0 (by decide) ?_
    refine zs_iret C E dX9_about_73 rfl ?_ ?_ ?_
    · unfold zabout
      simp [*]
    · rfl
    · rfl
  by_cases qs1_4 : wh = 4
  · refine z_tabIn (tgt := 74) C dX9_about_1 (by rw [qs1_4]; decide) (by rw [qs1_4]; decide) (by rw [qs1_4]; rfl) (by decide) ?_
    refine z_aload_n C dX9_about_74 rfl ?_
    refine zs_getR C dX9_about_75 zf_X9_52 zk_0 (by decide) (zr_0_6 n) ?_
    refine z_getI C dX9_about_78 zf_X9_157 zk_23 (by decide) ?_
    refine zs_iret C E dX9_about_81 rfl ?_ ?_ ?_
    · unfold zabout
      simp [*]
    · rfl
    · rfl
  by_cases qs1_5 : wh = 5
  · refine z_tabIn (tgt := 82) C dX9_about_1 (by rw [qs1_5]; decide) (by rw [qs1_5]; decide) (by rw [qs1_5]; rfl) (by decide) ?_
    refine z_aload_n C dX9_about_82 rfl ?_
    refine zs_getR C dX9_about_83 zf_X9_65 zk_0 (by decide) (zr_0_8 n) ?_
    refine z_getI C dX9_about_86 zf_X9_282 zk_29 (by decide) ?_
    refine zs_iret C E dX9_about_89 rfl ?_ ?_ ?_
    · unfold zabout
      simp [*]
    · rfl
    · rfl
  by_cases qs1_6 : wh = 6
  · refine z_tabIn (tgt := 90) C dX9_about_1 (by rw [qs1_6]; decide) (by rw [qs1_6]; decide) (by rw [qs1_6]; rfl) (by decide) ?_
    refine z_aload_n C dX9_about_90 rfl ?_
    refine zs_getR C dX9_about_91 zf_X9_72 zk_0 (by decide) (zr_0_9 n) ?_
    refine z_getI C dX9_about_94 zf_X9_327 zk_35 (by decide) ?_
    refine zs_iret C E dX9_about_97 rfl ?_ ?_ ?_
    · unfold zabout
      simp [*]
    · rfl
    · rfl
  by_cases qs1_7 : wh = 7
  · refine z_tabIn (tgt := 98) C dX9_about_1 (by rw [qs1_7]; decide) (by rw [qs1_7]; decide) (by rw [qs1_7]; rfl) (by decide) ?_
    refine z_aload_n C dX9_about_98 rfl ?_
    refine zs_getR C dX9_about_99 zf_X9_32 zk_0 (by decide) (zr_0_4 n) ?_
    refine z_getI C dX9_about_102 zf_X9_144 zk_12 (by decide) ?_
    refine zs_iret C E dX9_about_105 rfl ?_ ?_ ?_
    · unfold zabout
      simp [*]
    · rfl
    · rfl
  have qo : (wh : Int32).toInt < 0 ∨ 7 < (wh : Int32).toInt := by
    have h0 : ¬ (wh : Int32).toInt = 0 := fun z => qs1_0 (Int32.toInt_inj.mp z)
    have h1 : ¬ (wh : Int32).toInt = 1 := fun z => qs1_1 (Int32.toInt_inj.mp z)
    have h2 : ¬ (wh : Int32).toInt = 2 := fun z => qs1_2 (Int32.toInt_inj.mp z)
    have h3 : ¬ (wh : Int32).toInt = 3 := fun z => qs1_3 (Int32.toInt_inj.mp z)
    have h4 : ¬ (wh : Int32).toInt = 4 := fun z => qs1_4 (Int32.toInt_inj.mp z)
    have h5 : ¬ (wh : Int32).toInt = 5 := fun z => qs1_5 (Int32.toInt_inj.mp z)
    have h6 : ¬ (wh : Int32).toInt = 6 := fun z => qs1_6 (Int32.toInt_inj.mp z)
    have h7 : ¬ (wh : Int32).toInt = 7 := fun z => qs1_7 (Int32.toInt_inj.mp z)
    omega
  refine z_tabOut (tgt := 106) C dX9_about_1 qo (by decide) ?_
  refine z_iconst (v := (-1)) C dX9_about_106 (by decide) ?_
  refine zs_iret C E dX9_about_107 rfl ?_ ?_ ?_
  · unfold zabout
    simp [*]
  · rfl
  · rfl
