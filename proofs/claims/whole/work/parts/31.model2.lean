def zmwhere (s inn te la a l w wh : Int32) : Int32 := if wh = 0 then s else if wh = 1 then inn else if wh = 2 then te else if wh = 3 then la else if wh = 4 then (if s = 1 then a else if s = 3 then l else -1) else if wh = 5 then w else -1

set_option maxRecDepth 4000 in
theorem m_where1 (n : Nat) (iv : zI) (lw : zG) (hc : iv 41 11 = nI n) (hn : n ≤ 8) (i : Nat) (hi : i < n) (wh : Int32) : zMi yX10_where cX10_where 3 (some .int) 1 [.ref 41, .int (nI i), .int wh] n iv lw (zmwhere (iv 55 i) (iv 56 i) (iv 57 i) (iv 61 i) (iv 59 i) (iv 58 i) (iv 60 i) wh) iv lw := by
  refine zM.of (by decide) (Nat.le_of_ble_eq_true rfl) (fun X C E => ?_)
  change zJs X n 3 0 [some (.ref 41), some (.int (nI i)), some (.int wh)] [] iv lw
  refine z_aload_n C dX10_where_0 rfl ?_
  refine z_iload_n C dX10_where_1 rfl ?_
  refine zs_callVi C dX10_where_2 zm_X10_202 zyX10_isCoach (m_isCoach _ _ _ _) zc_10 rfl zk_41 (by decide) (by decide) rfl rfl (Nat.le_of_ble_eq_true rfl) (by decide) (by decide) ?_
  refine zb_if_ne (tgt := 10) C dX10_where_5 (by decide) (fun q5 => ?_) (fun q5 => ?_)
  · refine z_iload_n C dX10_where_10 rfl ?_
    by_cases qs11_0 : wh = 0
    · refine z_tabIn (tgt := 48) C dX10_where_11 (by rw [qs11_0]; decide) (by rw [qs11_0]; decide) (by rw [qs11_0]; rfl) (by decide) ?_
      refine z_aload_n C dX10_where_48 rfl ?_
      refine zs_getR C dX10_where_49 zf_X10_53 zk_41 (by decide) (zr_41_17 n) ?_
      refine z_iload_n C dX10_where_52 rfl ?_
      refine z_iald C dX10_where_53 zk_55 (by decide) ?_ ?_
      · exact vp_in_nI (by omega) (by decide)
      refine zs_iret C E dX10_where_54 rfl ?_ ?_ ?_
      · unfold zmwhere
        try simp only [nI_clamp (show i < 2 ^ 31 by omega)]
        simp [*]
      · rfl
      · rfl
    by_cases qs11_1 : wh = 1
    · refine z_tabIn (tgt := 55) C dX10_where_11 (by rw [qs11_1]; decide) (by rw [qs11_1]; decide) (by rw [qs11_1]; rfl) (by decide) ?_
      refine z_aload_n C dX10_where_55 rfl ?_
      refine zs_getR C dX10_where_56 zf_X10_56 zk_41 (by decide) (zr_41_18 n) ?_
      refine z_iload_n C dX10_where_59 rfl ?_
      refine z_iald C dX10_where_60 zk_56 (by decide) ?_ ?_
      · exact vp_in_nI (by omega) (by decide)
      refine zs_iret C E dX10_where_61 rfl ?_ ?_ ?_
      · unfold zmwhere
        try simp only [nI_clamp (show i < 2 ^ 31 by omega)]
        simp [*]
      · rfl
      · rfl
    by_cases qs11_2 : wh = 2
    · refine z_tabIn (tgt := 62) C dX10_where_11 (by rw [qs11_2]; decide) (by rw [qs11_2]; decide) (by rw [qs11_2]; rfl) (by decide) ?_
      refine z_aload_n C dX10_where_62 rfl ?_
      refine zs_getR C dX10_where_63 zf_X10_59 zk_41 (by decide) (zr_41_19 n) ?_
      refine z_iload_n C dX10_where_66 rfl ?_
      refine z_iald C dX10_where_67 zk_57 (by decide) ?_ ?_
      · exact vp_in_nI (by omega) (by decide)
      refine zs_iret C E dX10_where_68 rfl ?_ ?_ ?_
      · unfold zmwhere
        try simp only [nI_clamp (show i < 2 ^ 31 by omega)]
        simp [*]
      · rfl
      · rfl
    by_cases qs11_3 : wh = 3
    · refine z_tabIn (tgt := 69) C dX10_where_11 (by rw [qs11_3]; decide) (by rw [qs11_3]; decide) (by rw [qs11_3]; rfl) (by decide) ?_
      refine z_aload_n C dX10_where_69 rfl ?_
      refine zs_getR C dX10_where_70 zf_X10_71 zk_41 (by decide) (zr_41_23 n) ?_
      refine z_iload_n C dX10_where_73 rfl ?_
      refine z_iald C dX10_where_74 zk_61 (by decide) ?_ ?_
      · exact vp_in_nI (by omega) (by decide)
      refine zs_iret C E dX10_where_75 rfl ?_ ?_ ?_
      · unfold zmwhere
        try simp only [nI_clamp (show i < 2 ^ 31 by omega)]
        simp [*]
      · rfl
      · rfl
    by_cases qs11_4 : wh = 4
    · refine z_tabIn (tgt := 76) C dX10_where_11 (by rw [qs11_4]; decide) (by rw [qs11_4]; decide) (by rw [qs11_4]; rfl) (by decide) ?_
      refine z_aload_n C dX10_where_76 rfl ?_
      refine zs_getR C dX10_where_77 zf_X10_53 zk_41 (by decide) (zr_41_17 n) ?_
      refine z_iload_n C dX10_where_80 rfl ?_
      refine z_iald C dX10_where_81 zk_55 (by decide) ?_ ?_
      · exact vp_in_nI (by omega) (by decide)
      refine z_iconst (v := 1) C dX10_where_82 (by decide) ?_
      refine z_icmp_ne (tgt := 95) C dX10_where_83 (by decide) (fun q83 => ?_) (fun q83 => ?_)
      · refine z_aload_n C dX10_where_95 rfl ?_
        refine zs_getR C dX10_where_96 zf_X10_53 zk_41 (by decide) (zr_41_17 n) ?_
        refine z_iload_n C dX10_where_99 rfl ?_
        refine z_iald C dX10_where_100 zk_55 (by decide) ?_ ?_
        · exact vp_in_nI (by omega) (by decide)
        refine z_iconst (v := 3) C dX10_where_101 (by decide) ?_
        refine z_icmp_ne (tgt := 114) C dX10_where_102 (by decide) (fun q102 => ?_) (fun q102 => ?_)
        · refine z_iconst (v := (-1)) C dX10_where_114 (by decide) ?_
          refine zs_iret C E dX10_where_115 rfl ?_ ?_ ?_
          · unfold zmwhere
            first
              | (rw [nI_clamp (by omega)] at q83; simp only [nI_clamp (show i < 2 ^ 31 by omega)]; simp [*]; done)
              | (rw [nI_clamp (by omega)] at q83 q102; try simp only [nI_clamp (show i < 2 ^ 31 by omega)]
                 simp [*]; done)
          · rfl
          · rfl
        · refine z_aload_n C dX10_where_105 rfl ?_
          refine zs_getR C dX10_where_106 zf_X10_62 zk_41 (by decide) (zr_41_20 n) ?_
          refine z_iload_n C dX10_where_109 rfl ?_
          refine z_iald C dX10_where_110 zk_58 (by decide) ?_ ?_
          · exact vp_in_nI (by omega) (by decide)
          refine z_goto (tgt := 115) C dX10_where_111 (by decide) ?_
          refine zs_iret C E dX10_where_115 rfl ?_ ?_ ?_
          · unfold zmwhere
            first
              | (rw [nI_clamp (by omega)] at q83; simp only [nI_clamp (show i < 2 ^ 31 by omega)]; simp [*]; done)
              | (rw [nI_clamp (by omega)] at q83 q102; try simp only [nI_clamp (show i < 2 ^ 31 by omega)]
                 simp [*]; done)
          · rfl
          · rfl
      · refine z_aload_n C dX10_where_86 rfl ?_
        refine zs_getR C dX10_where_87 zf_X10_65 zk_41 (by decide) (zr_41_21 n) ?_
        refine z_iload_n C dX10_where_90 rfl ?_
        refine z_iald C dX10_where_91 zk_59 (by decide) ?_ ?_
        · exact vp_in_nI (by omega) (by decide)
        refine z_goto (tgt := 115) C dX10_where_92 (by decide) ?_
        refine zs_iret C E dX10_where_115 rfl ?_ ?_ ?_
        · unfold zmwhere
          first
            | (rw [nI_clamp (by omega)] at q83; simp only [nI_clamp (show i < 2 ^ 31 by omega)]; simp [*]; done)
            | (rw [nI_clamp (by omega)] at q83 q102; try simp only [nI_clamp (show i < 2 ^ 31 by omega)]
               simp [*]; done)
        · rfl
        · rfl
    by_cases qs11_5 : wh = 5
    · refine z_tabIn (tgt := 116) C dX10_where_11 (by rw [qs11_5]; decide) (by rw [qs11_5]; decide) (by rw [qs11_5]; rfl) (by decide) ?_
      refine z_aload_n C dX10_where_116 rfl ?_
      refine zs_getR C dX10_where_117 zf_X10_68 zk_41 (by decide) (zr_41_22 n) ?_
      refine z_iload_n C dX10_where_120 rfl ?_
      refine z_iald C dX10_where_121 zk_60 (by decide) ?_ ?_
      · exact vp_in_nI (by omega) (by decide)
      refine zs_iret C E dX10_where_122 rfl ?_ ?_ ?_
      · unfold zmwhere
        try simp only [nI_clamp (show i < 2 ^ 31 by omega)]
        simp [*]
      · rfl
      · rfl
    have qo : (wh : Int32).toInt < 0 ∨ 5 < (wh : Int32).toInt := by
      have h0 : ¬ (wh : Int32).toInt = 0 := fun z => qs11_0 (Int32.toInt_inj.mp z)
      have h1 : ¬ (wh : Int32).toInt = 1 := fun z => qs11_1 (Int32.toInt_inj.mp z)
      have h2 : ¬ (wh : Int32).toInt = 2 := fun z => qs11_2 (Int32.toInt_inj.mp z)
      have h3 : ¬ (wh : Int32).toInt = 3 := fun z => qs11_3 (Int32.toInt_inj.mp z)
      have h4 : ¬ (wh : Int32).toInt = 4 := fun z => qs11_4 (Int32.toInt_inj.mp z)
      have h5 : ¬ (wh : Int32).toInt = 5 := fun z => qs11_5 (Int32.toInt_inj.mp z)
      omega
    refine z_tabOut (tgt := 123) C dX10_where_11 qo (by decide) ?_
    refine z_iconst (v := (-1)) C dX10_where_123 (by decide) ?_
    refine zs_iret C E dX10_where_124 rfl ?_ ?_ ?_
    · unfold zmwhere
      try simp only [nI_clamp (show i < 2 ^ 31 by omega)]
      simp [*]
    · rfl
    · rfl
  · exfalso; apply q5; rw [nI_toInt (by omega), zt_nI hc (by omega)]; omega

set_option maxRecDepth 4000 in
theorem m_where0 (n : Nat) (iv : zI) (lw : zG) (co wh : Int32) (hv : ¬ (0 ≤ co.toInt ∧ co.toInt < (iv 41 11).toInt)) : zMi yX10_where cX10_where 3 (some .int) 1 [.ref 41, .int co, .int wh] n iv lw (-1) iv lw := by
  refine zM.of (by decide) (Nat.le_of_ble_eq_true rfl) (fun X C E => ?_)
  change zJs X n 3 0 [some (.ref 41), some (.int co), some (.int wh)] [] iv lw
  refine z_aload_n C dX10_where_0 rfl ?_
  refine z_iload_n C dX10_where_1 rfl ?_
  refine zs_callVi C dX10_where_2 zm_X10_202 zyX10_isCoach (m_isCoach _ _ _ _) zc_10 rfl zk_41 (by decide) (by decide) rfl rfl (Nat.le_of_ble_eq_true rfl) (by decide) (by decide) ?_
  refine zb_if_ne (tgt := 10) C dX10_where_5 (by decide) (fun q5 => ?_) (fun q5 => ?_)
  · exact absurd q5 hv
  · refine z_iconst (v := (-1)) C dX10_where_8 (by decide) ?_
    refine zs_iret C E dX10_where_9 rfl ?_ ?_ ?_
    · rfl
    · rfl
    · rfl

theorem z5 {i : Nat} {p : Int32} (hi : i < 8) (h0 : 0 ≤ p.toInt) (h5 : p.toInt < 5) : 5 * nI i + p = nI (5 * i + p.toNatClampNeg) ∧ 5 * i + p.toNatClampNeg < 40 := by
  have h1 := zcl_int h0
  have h2 : p = nI p.toNatClampNeg := by
    apply Int32.toInt_inj.mp
    rw [nI_toInt (by omega)]
    omega
  refine ⟨?_, by omega⟩
  rw [show (5 : Int32) = nI 5 from rfl, pk_mul]
  conv => lhs; rw [h2]
  rw [nI_add]

set_option maxRecDepth 4000 in
theorem m_part1 (n : Nat) (iv : zI) (lw : zG) (hc : iv 41 11 = nI n) (hn : n ≤ 8) (i : Nat) (hi : i < n) (pa : Int32) : zMi yX10_part cX10_part 3 (some .int) 1 [.ref 41, .int (nI i), .int pa] n iv lw (if 0 ≤ pa.toInt ∧ pa.toInt < 5 then iv 62 (5 * i + pa.toNatClampNeg) else 0) iv lw := by
  refine zM.of (by decide) (Nat.le_of_ble_eq_true rfl) (fun X C E => ?_)
  change zJs X n 3 0 [some (.ref 41), some (.int (nI i)), some (.int pa)] [] iv lw
  refine z_aload_n C dX10_part_0 rfl ?_
  refine z_iload_n C dX10_part_1 rfl ?_
  refine zs_callVi C dX10_part_2 zm_X10_202 zyX10_isCoach (m_isCoach _ _ _ _) zc_10 rfl zk_41 (by decide) (by decide) rfl rfl (Nat.le_of_ble_eq_true rfl) (by decide) (by decide) ?_
  refine zb_if_eq (tgt := 30) C dX10_part_5 (by decide) (fun q5 => ?_) (fun q5 => ?_)
  · exfalso; apply q5; rw [nI_toInt (by omega), zt_nI hc (by omega)]; omega
  · refine z_iload_n C dX10_part_8 rfl ?_
    refine zt_if_lt (tgt := 30) C dX10_part_9 rfl (by decide) (fun q9 => ?_) (fun q9 => ?_)
    · refine z_iconst (v := 0) C dX10_part_30 (by decide) ?_
      refine zs_iret C E dX10_part_31 rfl ?_ ?_ ?_
      · first
          | exact (if_neg (by omega)).symm
          | (rw [if_pos (by omega)]; have h5 := z5 (show i < 8 by omega) (show 0 ≤ pa.toInt by omega) (by omega)
             rw [h5.1, nI_clamp (by omega)])
      · rfl
      · rfl
    · refine z_iload_n C dX10_part_12 rfl ?_
      refine z_iconst (v := 5) C dX10_part_13 (by decide) ?_
      refine zt_icmp_ge (tgt := 30) C dX10_part_14 rfl (show (5 : Int32).toInt = 5 by decide) (by decide) (fun q14 => ?_) (fun q14 => ?_)
      · refine z_iconst (v := 0) C dX10_part_30 (by decide) ?_
        refine zs_iret C E dX10_part_31 rfl ?_ ?_ ?_
        · first
            | exact (if_neg (by omega)).symm
            | (rw [if_pos (by omega)]; have h5 := z5 (show i < 8 by omega) (show 0 ≤ pa.toInt by omega) (by omega)
               rw [h5.1, nI_clamp (by omega)])
        · rfl
        · rfl
      · refine z_aload_n C dX10_part_17 rfl ?_
        refine zs_getR C dX10_part_18 zf_X10_74 zk_41 (by decide) (zr_41_24 n) ?_
        refine z_iconst (v := 5) C dX10_part_21 (by decide) ?_
        refine z_iload_n C dX10_part_22 rfl ?_
        refine z_imul C dX10_part_23 ?_
        refine z_iload_n C dX10_part_24 rfl ?_
        refine z_iadd C dX10_part_25 ?_
        refine z_iald C dX10_part_26 zk_62 (by decide) ?_ ?_
        · have h5 := z5 (show i < 8 by omega) (show 0 ≤ pa.toInt by omega) (by omega)
          rw [h5.1]; exact vp_in_nI h5.2 (by decide)
        refine z_goto (tgt := 31) C dX10_part_27 (by decide) ?_
        refine zs_iret C E dX10_part_31 rfl ?_ ?_ ?_
        · first
            | exact (if_neg (by omega)).symm
            | (rw [if_pos (by omega)]; have h5 := z5 (show i < 8 by omega) (show 0 ≤ pa.toInt by omega) (by omega)
               rw [h5.1, nI_clamp (by omega)])
        · rfl
        · rfl

set_option maxRecDepth 4000 in
theorem m_part0 (n : Nat) (iv : zI) (lw : zG) (co pa : Int32) (hv : ¬ (0 ≤ co.toInt ∧ co.toInt < (iv 41 11).toInt)) : zMi yX10_part cX10_part 3 (some .int) 1 [.ref 41, .int co, .int pa] n iv lw 0 iv lw := by
  refine zM.of (by decide) (Nat.le_of_ble_eq_true rfl) (fun X C E => ?_)
  change zJs X n 3 0 [some (.ref 41), some (.int co), some (.int pa)] [] iv lw
  refine z_aload_n C dX10_part_0 rfl ?_
  refine z_iload_n C dX10_part_1 rfl ?_
  refine zs_callVi C dX10_part_2 zm_X10_202 zyX10_isCoach (m_isCoach _ _ _ _) zc_10 rfl zk_41 (by decide) (by decide) rfl rfl (Nat.le_of_ble_eq_true rfl) (by decide) (by decide) ?_
  refine zb_if_eq (tgt := 30) C dX10_part_5 (by decide) (fun q5 => ?_) (fun q5 => ?_)
  · refine z_iconst (v := 0) C dX10_part_30 (by decide) ?_
    refine zs_iret C E dX10_part_31 rfl ?_ ?_ ?_
    · rfl
    · rfl
    · rfl
  · exact absurd q5 hv

def zmtrip (iv : zI) (sg dn mi : Int32) : zI := zu (zu (zu (zu (zu iv 76 (iv 41 53).toNatClampNeg (if dn = 0 then sg + 1 else sg)) 77 (iv 41 53).toNatClampNeg (if dn = 0 then sg else sg + 1)) 78 (iv 41 53).toNatClampNeg mi) 79 (iv 41 53).toNatClampNeg sg) 41 53 (iv 41 53 + 1)

set_option maxRecDepth 4000 in
theorem m_trip (n : Nat) (iv : zI) (lw : zG) (sg dn mi : Int32) (hI : 2 ≤ (iv 41 1).toInt ∧ (iv 41 1).toInt ≤ 8) (hT : 0 ≤ (iv 41 53).toInt ∧ (iv 41 53).toInt ≤ 24) : zMi yX10_trip cX10_trip 4 (some .int) 1 [.ref 41, .int sg, .int dn, .int mi] n iv lw (if (¬ iv 41 53 = 24 ∧ (0 ≤ sg.toInt ∧ sg.toInt < (iv 41 1).toInt - 1) ∧ 0 ≤ mi.toInt ∧ mi.toInt ≤ 10000) then iv 41 53 + 1 else -1) (if (¬ iv 41 53 = 24 ∧ (0 ≤ sg.toInt ∧ sg.toInt < (iv 41 1).toInt - 1) ∧ 0 ≤ mi.toInt ∧ mi.toInt ≤ 10000) then zmtrip iv sg dn mi else iv) lw := by
  refine zM.of (by decide) (Nat.le_of_ble_eq_true rfl) (fun X C E => ?_)
  change zJs X n 4 0 [some (.ref 41), some (.int sg), some (.int dn), some (.int mi)] [] iv lw
  refine z_aload_n C dX10_trip_0 rfl ?_
  refine z_getI C dX10_trip_1 zf_X10_381 zk_41 (by decide) ?_
  refine z_bipush (v := 24) C dX10_trip_4 (by decide) ?_
  refine z_icmp_eq (tgt := 28) C dX10_trip_6 (by decide) (fun q6 => ?_) (fun q6 => ?_)
  · refine z_iconst (v := (-1)) C dX10_trip_28 (by decide) ?_
    refine zs_iret C E dX10_trip_29 rfl ?_ ?_ ?_
    · exact (if_neg (fun z => by first | exact z.1 q6 | exact q14 z.2.1 | (have := z.2.2; omega))).symm
    · exact (if_neg (fun z => by first | exact z.1 q6 | exact q14 z.2.1 | (have := z.2.2; omega))).symm
    · rfl
  · refine z_aload_n C dX10_trip_9 rfl ?_
    refine z_iload_n C dX10_trip_10 rfl ?_
    refine zs_callVi C dX10_trip_11 zm_X10_176 zyX10_isStage (m_isStage _ _ _ _ hI) zc_10 rfl zk_41 (by decide) (by decide) rfl rfl (Nat.le_of_ble_eq_true rfl) (by decide) (by decide) ?_
    refine zb_if_eq (tgt := 28) C dX10_trip_14 (by decide) (fun q14 => ?_) (fun q14 => ?_)
    · refine z_iconst (v := (-1)) C dX10_trip_28 (by decide) ?_
      refine zs_iret C E dX10_trip_29 rfl ?_ ?_ ?_
      · exact (if_neg (fun z => by first | exact z.1 q6 | exact q14 z.2.1 | (have := z.2.2; omega))).symm
      · exact (if_neg (fun z => by first | exact z.1 q6 | exact q14 z.2.1 | (have := z.2.2; omega))).symm
      · rfl
    · refine z_iload_n C dX10_trip_17 rfl ?_
      refine zt_if_lt (tgt := 28) C dX10_trip_18 rfl (by decide) (fun q18 => ?_) (fun q18 => ?_)
      · refine z_iconst (v := (-1)) C dX10_trip_28 (by decide) ?_
        refine zs_iret C E dX10_trip_29 rfl ?_ ?_ ?_
        · exact (if_neg (fun z => by first | exact z.1 q6 | exact q14 z.2.1 | (have := z.2.2; omega))).symm
        · exact (if_neg (fun z => by first | exact z.1 q6 | exact q14 z.2.1 | (have := z.2.2; omega))).symm
        · rfl
      · refine z_iload_n C dX10_trip_21 rfl ?_
        refine z_sipush (v := 10000) C dX10_trip_22 (by decide) ?_
        refine zt_icmp_le (tgt := 30) C dX10_trip_25 rfl (show (10000 : Int32).toInt = 10000 by decide) (by decide) (fun q25 => ?_) (fun q25 => ?_)
        · refine z_aload_n C dX10_trip_30 rfl ?_
          refine zs_getR C dX10_trip_31 zf_X10_119 zk_41 (by decide) (zr_41_54 n) ?_
          refine z_aload_n C dX10_trip_34 rfl ?_
          refine z_getI C dX10_trip_35 zf_X10_381 zk_41 (by decide) ?_
          refine z_iload_n C dX10_trip_38 rfl ?_
          refine z_if_eq (tgt := 46) C dX10_trip_39 (by decide) (fun q39 => ?_) (fun q39 => ?_)
          · refine z_iload_n C dX10_trip_46 rfl ?_
            refine z_iconst (v := 1) C dX10_trip_47 (by decide) ?_
            refine z_iadd C dX10_trip_48 ?_
            refine z_iast C dX10_trip_49 zk_76 (by decide) ?_ ?_
            · show vp_in (iv 41 53) 24
              exact vp_in_iff.mpr (by have := zne_toInt (y := 24) q6; rw [show (24 : Int32).toInt = 24 by decide] at this; omega)
            refine z_aload_n C dX10_trip_50 rfl ?_
            refine zs_getR C dX10_trip_51 zf_X10_122 zk_41 (by decide) (zr_41_55 n) ?_
            refine z_aload_n C dX10_trip_54 rfl ?_
            refine z_getI C dX10_trip_55 zf_X10_381 zk_41 (by decide) ?_
            refine z_iload_n C dX10_trip_58 rfl ?_
            refine z_if_eq (tgt := 68) C dX10_trip_59 (by decide) (fun q59 => ?_) (fun q59 => ?_)
            · refine z_iload_n C dX10_trip_68 rfl ?_
              refine z_iast C dX10_trip_69 zk_77 (by decide) ?_ ?_
              · show vp_in (iv 41 53) 24
                exact vp_in_iff.mpr (by have := zne_toInt (y := 24) q6; rw [show (24 : Int32).toInt = 24 by decide] at this; omega)
              refine z_aload_n C dX10_trip_70 rfl ?_
              refine zs_getR C dX10_trip_71 zf_X10_125 zk_41 (by decide) (zr_41_56 n) ?_
              refine z_aload_n C dX10_trip_74 rfl ?_
              refine z_getI C dX10_trip_75 zf_X10_381 zk_41 (by decide) ?_
              refine z_iload_n C dX10_trip_78 rfl ?_
              refine z_iast C dX10_trip_79 zk_78 (by decide) ?_ ?_
              · show vp_in (iv 41 53) 24
                exact vp_in_iff.mpr (by have := zne_toInt (y := 24) q6; rw [show (24 : Int32).toInt = 24 by decide] at this; omega)
              refine z_aload_n C dX10_trip_80 rfl ?_
              refine zs_getR C dX10_trip_81 zf_X10_128 zk_41 (by decide) (zr_41_57 n) ?_
              refine z_aload_n C dX10_trip_84 rfl ?_
              refine z_getI C dX10_trip_85 zf_X10_381 zk_41 (by decide) ?_
              refine z_iload_n C dX10_trip_88 rfl ?_
              refine z_iast C dX10_trip_89 zk_79 (by decide) ?_ ?_
              · show vp_in (iv 41 53) 24
                exact vp_in_iff.mpr (by have := zne_toInt (y := 24) q6; rw [show (24 : Int32).toInt = 24 by decide] at this; omega)
              refine z_aload_n C dX10_trip_90 rfl ?_
              refine z_dup C dX10_trip_91 rfl ?_
              refine z_getI C dX10_trip_92 zf_X10_381 zk_41 (by decide) ?_
              refine z_iconst (v := 1) C dX10_trip_95 (by decide) ?_
              refine z_iadd C dX10_trip_96 ?_
              refine z_putI C dX10_trip_97 zf_X10_381 zk_41 (by decide) ?_
              refine z_aload_n C dX10_trip_100 rfl ?_
              refine z_getI C dX10_trip_101 zf_X10_381 zk_41 (by decide) ?_
              refine zs_iret C E dX10_trip_104 rfl ?_ ?_ ?_
              · rw [if_pos ⟨q6, q14, by omega, by omega⟩]
                rfl
              · rw [if_pos ⟨q6, q14, by omega, by omega⟩]
                unfold zmtrip
                first
                  | (rw [if_pos q39, if_pos q59]; rfl)
                  | (rw [if_neg q39, if_neg q59]; rfl)
                  | exact absurd q39 q59
                  | exact absurd q59 q39
              · rfl
            · refine z_iload_n C dX10_trip_62 rfl ?_
              refine z_iconst (v := 1) C dX10_trip_63 (by decide) ?_
              refine z_iadd C dX10_trip_64 ?_
              refine z_goto (tgt := 69) C dX10_trip_65 (by decide) ?_
              refine z_iast C dX10_trip_69 zk_77 (by decide) ?_ ?_
              · show vp_in (iv 41 53) 24
                exact vp_in_iff.mpr (by have := zne_toInt (y := 24) q6; rw [show (24 : Int32).toInt = 24 by decide] at this; omega)
              refine z_aload_n C dX10_trip_70 rfl ?_
              refine zs_getR C dX10_trip_71 zf_X10_125 zk_41 (by decide) (zr_41_56 n) ?_
              refine z_aload_n C dX10_trip_74 rfl ?_
              refine z_getI C dX10_trip_75 zf_X10_381 zk_41 (by decide) ?_
              refine z_iload_n C dX10_trip_78 rfl ?_
              refine z_iast C dX10_trip_79 zk_78 (by decide) ?_ ?_
              · show vp_in (iv 41 53) 24
                exact vp_in_iff.mpr (by have := zne_toInt (y := 24) q6; rw [show (24 : Int32).toInt = 24 by decide] at this; omega)
              refine z_aload_n C dX10_trip_80 rfl ?_
              refine zs_getR C dX10_trip_81 zf_X10_128 zk_41 (by decide) (zr_41_57 n) ?_
              refine z_aload_n C dX10_trip_84 rfl ?_
              refine z_getI C dX10_trip_85 zf_X10_381 zk_41 (by decide) ?_
              refine z_iload_n C dX10_trip_88 rfl ?_
              refine z_iast C dX10_trip_89 zk_79 (by decide) ?_ ?_
              · show vp_in (iv 41 53) 24
                exact vp_in_iff.mpr (by have := zne_toInt (y := 24) q6; rw [show (24 : Int32).toInt = 24 by decide] at this; omega)
              refine z_aload_n C dX10_trip_90 rfl ?_
              refine z_dup C dX10_trip_91 rfl ?_
              refine z_getI C dX10_trip_92 zf_X10_381 zk_41 (by decide) ?_
              refine z_iconst (v := 1) C dX10_trip_95 (by decide) ?_
              refine z_iadd C dX10_trip_96 ?_
              refine z_putI C dX10_trip_97 zf_X10_381 zk_41 (by decide) ?_
              refine z_aload_n C dX10_trip_100 rfl ?_
              refine z_getI C dX10_trip_101 zf_X10_381 zk_41 (by decide) ?_
              refine zs_iret C E dX10_trip_104 rfl ?_ ?_ ?_
              · rw [if_pos ⟨q6, q14, by omega, by omega⟩]
                rfl
              · rw [if_pos ⟨q6, q14, by omega, by omega⟩]
                unfold zmtrip
                first
                  | (rw [if_pos q39, if_pos q59]; rfl)
                  | (rw [if_neg q39, if_neg q59]; rfl)
                  | exact absurd q39 q59
                  | exact absurd q59 q39
              · rfl
          · refine z_iload_n C dX10_trip_42 rfl ?_
            refine z_goto (tgt := 49) C dX10_trip_43 (by decide) ?_
            refine z_iast C dX10_trip_49 zk_76 (by decide) ?_ ?_
            · show vp_in (iv 41 53) 24
              exact vp_in_iff.mpr (by have := zne_toInt (y := 24) q6; rw [show (24 : Int32).toInt = 24 by decide] at this; omega)
            refine z_aload_n C dX10_trip_50 rfl ?_
            refine zs_getR C dX10_trip_51 zf_X10_122 zk_41 (by decide) (zr_41_55 n) ?_
            refine z_aload_n C dX10_trip_54 rfl ?_
            refine z_getI C dX10_trip_55 zf_X10_381 zk_41 (by decide) ?_
            refine z_iload_n C dX10_trip_58 rfl ?_
            refine z_if_eq (tgt := 68) C dX10_trip_59 (by decide) (fun q59 => ?_) (fun q59 => ?_)
            · refine z_iload_n C dX10_trip_68 rfl ?_
              refine z_iast C dX10_trip_69 zk_77 (by decide) ?_ ?_
              · show vp_in (iv 41 53) 24
                exact vp_in_iff.mpr (by have := zne_toInt (y := 24) q6; rw [show (24 : Int32).toInt = 24 by decide] at this; omega)
              refine z_aload_n C dX10_trip_70 rfl ?_
              refine zs_getR C dX10_trip_71 zf_X10_125 zk_41 (by decide) (zr_41_56 n) ?_
              refine z_aload_n C dX10_trip_74 rfl ?_
              refine z_getI C dX10_trip_75 zf_X10_381 zk_41 (by decide) ?_
              refine z_iload_n C dX10_trip_78 rfl ?_
              refine z_iast C dX10_trip_79 zk_78 (by decide) ?_ ?_
              · show vp_in (iv 41 53) 24
                exact vp_in_iff.mpr (by have := zne_toInt (y := 24) q6; rw [show (24 : Int32).toInt = 24 by decide] at this; omega)
              refine z_aload_n C dX10_trip_80 rfl ?_
              refine zs_getR C dX10_trip_81 zf_X10_128 zk_41 (by decide) (zr_41_57 n) ?_
              refine z_aload_n C dX10_trip_84 rfl ?_
              refine z_getI C dX10_trip_85 zf_X10_381 zk_41 (by decide) ?_
              refine z_iload_n C dX10_trip_88 rfl ?_
              refine z_iast C dX10_trip_89 zk_79 (by decide) ?_ ?_
              · show vp_in (iv 41 53) 24
                exact vp_in_iff.mpr (by have := zne_toInt (y := 24) q6; rw [show (24 : Int32).toInt = 24 by decide] at this; omega)
              refine z_aload_n C dX10_trip_90 rfl ?_
              refine z_dup C dX10_trip_91 rfl ?_
              refine z_getI C dX10_trip_92 zf_X10_381 zk_41 (by decide) ?_
              refine z_iconst (v := 1) C dX10_trip_95 (by decide) ?_
              refine z_iadd C dX10_trip_96 ?_
              refine z_putI C dX10_trip_97 zf_X10_381 zk_41 (by decide) ?_
              refine z_aload_n C dX10_trip_100 rfl ?_
              refine z_getI C dX10_trip_101 zf_X10_381 zk_41 (by decide) ?_
              refine zs_iret C E dX10_trip_104 rfl ?_ ?_ ?_
              · rw [if_pos ⟨q6, q14, by omega, by omega⟩]
                rfl
              · rw [if_pos ⟨q6, q14, by omega, by omega⟩]
                unfold zmtrip
                first
                  | (rw [if_pos q39, if_pos q59]; rfl)
                  | (rw [if_neg q39, if_neg q59]; rfl)
                  | exact absurd q39 q59
                  | exact absurd q59 q39
              · rfl
            · refine z_iload_n C dX10_trip_62 rfl ?_
              refine z_iconst (v := 1) C dX10_trip_63 (by decide) ?_
              refine z_iadd C dX10_trip_64 ?_
              refine z_goto (tgt := 69) C dX10_trip_65 (by decide) ?_
              refine z_iast C dX10_trip_69 zk_77 (by decide) ?_ ?_
              · show vp_in (iv 41 53) 24
                exact vp_in_iff.mpr (by have := zne_toInt (y := 24) q6; rw [show (24 : Int32).toInt = 24 by decide] at this; omega)
              refine z_aload_n C dX10_trip_70 rfl ?_
              refine zs_getR C dX10_trip_71 zf_X10_125 zk_41 (by decide) (zr_41_56 n) ?_
              refine z_aload_n C dX10_trip_74 rfl ?_
              refine z_getI C dX10_trip_75 zf_X10_381 zk_41 (by decide) ?_
              refine z_iload_n C dX10_trip_78 rfl ?_
              refine z_iast C dX10_trip_79 zk_78 (by decide) ?_ ?_
              · show vp_in (iv 41 53) 24
                exact vp_in_iff.mpr (by have := zne_toInt (y := 24) q6; rw [show (24 : Int32).toInt = 24 by decide] at this; omega)
              refine z_aload_n C dX10_trip_80 rfl ?_
              refine zs_getR C dX10_trip_81 zf_X10_128 zk_41 (by decide) (zr_41_57 n) ?_
              refine z_aload_n C dX10_trip_84 rfl ?_
              refine z_getI C dX10_trip_85 zf_X10_381 zk_41 (by decide) ?_
              refine z_iload_n C dX10_trip_88 rfl ?_
              refine z_iast C dX10_trip_89 zk_79 (by decide) ?_ ?_
              · show vp_in (iv 41 53) 24
                exact vp_in_iff.mpr (by have := zne_toInt (y := 24) q6; rw [show (24 : Int32).toInt = 24 by decide] at this; omega)
              refine z_aload_n C dX10_trip_90 rfl ?_
              refine z_dup C dX10_trip_91 rfl ?_
              refine z_getI C dX10_trip_92 zf_X10_381 zk_41 (by decide) ?_
              refine z_iconst (v := 1) C dX10_trip_95 (by decide) ?_
              refine z_iadd C dX10_trip_96 ?_
              refine z_putI C dX10_trip_97 zf_X10_381 zk_41 (by decide) ?_
              refine z_aload_n C dX10_trip_100 rfl ?_
              refine z_getI C dX10_trip_101 zf_X10_381 zk_41 (by decide) ?_
              refine zs_iret C E dX10_trip_104 rfl ?_ ?_ ?_
              · rw [if_pos ⟨q6, q14, by omega, by omega⟩]
                rfl
              · rw [if_pos ⟨q6, q14, by omega, by omega⟩]
                unfold zmtrip
                first
                  | (rw [if_pos q39, if_pos q59]; rfl)
                  | (rw [if_neg q39, if_neg q59]; rfl)
                  | exact absurd q39 q59
                  | exact absurd q59 q39
              · rfl
        · refine z_iconst (v := (-1)) C dX10_trip_28 (by decide) ?_
          refine zs_iret C E dX10_trip_29 rfl ?_ ?_ ?_
          · exact (if_neg (fun z => by first | exact z.1 q6 | exact q14 z.2.1 | (have := z.2.2; omega))).symm
          · exact (if_neg (fun z => by first | exact z.1 q6 | exact q14 z.2.1 | (have := z.2.2; omega))).symm
          · rfl

set_option maxRecDepth 4000 in
theorem m_clear (n : Nat) (iv : zI) (lw : zG) : zMi yX10_clear cX10_clear 2 (some .int) 0 [.ref 41] n iv lw (iv 41 53) (zu iv 41 53 0) lw := by
  refine zM.of (by decide) (Nat.le_of_ble_eq_true rfl) (fun X C E => ?_)
  change zJs X n 2 0 [some (.ref 41), none] [] iv lw
  refine z_aload_n C dX10_clear_0 rfl ?_
  refine z_getI C dX10_clear_1 zf_X10_381 zk_41 (by decide) ?_
  refine z_istore_n (lv' := [some (.ref 41), some (.int _)]) C dX10_clear_4 (by decide) rfl ?_
  refine z_aload_n C dX10_clear_5 rfl ?_
  refine z_iconst (v := 0) C dX10_clear_6 (by decide) ?_
  refine z_putI C dX10_clear_7 zf_X10_381 zk_41 (by decide) ?_
  refine z_iload_n C dX10_clear_10 rfl ?_
  refine zs_iret C E dX10_clear_11 rfl ?_ ?_ ?_
  · rfl
  · rfl
  · rfl

abbrev zbeh (iv : zI) (a b : Nat) (rest : Int32) : Prop := iv 76 b = iv 77 a ∧ (iv 78 a + 7 * iv 42 (iv 79 a).toNatClampNeg + 2 * iv 43 (iv 79 a).toNatClampNeg + rest).toInt ≤ (iv 78 b).toInt

set_option maxRecDepth 4000 in
theorem m_isBehind (n : Nat) (iv : zI) (lw : zG) (a b : Nat) (ha : a < 24) (hb : b < 24) (rest : Int32) (hS : vp_in (iv 79 a) 8) : zMi yX10_isBehind cX10_isBehind 4 (some .boolean) 0 [.ref 41, .int (nI a), .int (nI b), .int rest] n iv lw (zb (zbeh iv a b rest)) iv lw := by
  refine zM.of (by decide) (Nat.le_of_ble_eq_true rfl) (fun X C E => ?_)
  change zJs X n 4 0 [some (.ref 41), some (.int (nI a)), some (.int (nI b)), some (.int rest)] [] iv lw
  refine z_aload_n C dX10_isBehind_0 rfl ?_
  refine zs_getR C dX10_isBehind_1 zf_X10_119 zk_41 (by decide) (zr_41_54 n) ?_
  refine z_iload_n C dX10_isBehind_4 rfl ?_
  refine z_iald C dX10_isBehind_5 zk_76 (by decide) ?_ ?_
  · exact vp_in_nI (by omega) (by decide)
  refine z_aload_n C dX10_isBehind_6 rfl ?_
  refine zs_getR C dX10_isBehind_7 zf_X10_122 zk_41 (by decide) (zr_41_55 n) ?_
  refine z_iload_n C dX10_isBehind_10 rfl ?_
  refine z_iald C dX10_isBehind_11 zk_77 (by decide) ?_ ?_
  · exact vp_in_nI (by omega) (by decide)
  refine z_icmp_ne (tgt := 65) C dX10_isBehind_12 (by decide) (fun q12 => ?_) (fun q12 => ?_)
  · simp only [nI_clamp (show a < 2 ^ 31 by omega), nI_clamp (show b < 2 ^ 31 by omega)] at q12
    refine z_iconst (v := 0) C dX10_isBehind_65 (by decide) ?_
    refine zs_iret C E dX10_isBehind_66 rfl ?_ ?_ ?_
    · first | exact (zb_t ⟨q12, by omega⟩).symm | exact (zb_f (fun z => by first | exact q12 z.1 | (have := z.2; omega))).symm
    · rfl
    · rfl
  · simp only [nI_clamp (show a < 2 ^ 31 by omega), nI_clamp (show b < 2 ^ 31 by omega)] at q12
    refine z_aload_n C dX10_isBehind_15 rfl ?_
    refine zs_getR C dX10_isBehind_16 zf_X10_125 zk_41 (by decide) (zr_41_56 n) ?_
    refine z_iload_n C dX10_isBehind_19 rfl ?_
    refine z_iald C dX10_isBehind_20 zk_78 (by decide) ?_ ?_
    · exact vp_in_nI (by omega) (by decide)
    refine z_aload_n C dX10_isBehind_21 rfl ?_
    refine zs_getR C dX10_isBehind_22 zf_X10_125 zk_41 (by decide) (zr_41_56 n) ?_
    refine z_iload_n C dX10_isBehind_25 rfl ?_
    refine z_iald C dX10_isBehind_26 zk_78 (by decide) ?_ ?_
    · exact vp_in_nI (by omega) (by decide)
    refine z_bipush (v := 7) C dX10_isBehind_27 (by decide) ?_
    refine z_aload_n C dX10_isBehind_29 rfl ?_
    refine zs_getR C dX10_isBehind_30 zf_X10_13 zk_41 (by decide) (zr_41_2 n) ?_
    refine z_aload_n C dX10_isBehind_33 rfl ?_
    refine zs_getR C dX10_isBehind_34 zf_X10_128 zk_41 (by decide) (zr_41_57 n) ?_
    refine z_iload_n C dX10_isBehind_37 rfl ?_
    refine z_iald C dX10_isBehind_38 zk_79 (by decide) ?_ ?_
    · exact vp_in_nI (by omega) (by decide)
    refine z_iald C dX10_isBehind_39 zk_42 (by decide) ?_ ?_
    · rw [nI_clamp (by omega)]; exact hS
    refine z_imul C dX10_isBehind_40 ?_
    refine z_iadd C dX10_isBehind_41 ?_
    refine z_iconst (v := 2) C dX10_isBehind_42 (by decide) ?_
    refine z_aload_n C dX10_isBehind_43 rfl ?_
    refine zs_getR C dX10_isBehind_44 zf_X10_17 zk_41 (by decide) (zr_41_3 n) ?_
    refine z_aload_n C dX10_isBehind_47 rfl ?_
    refine zs_getR C dX10_isBehind_48 zf_X10_128 zk_41 (by decide) (zr_41_57 n) ?_
    refine z_iload_n C dX10_isBehind_51 rfl ?_
    refine z_iald C dX10_isBehind_52 zk_79 (by decide) ?_ ?_
    · exact vp_in_nI (by omega) (by decide)
    refine z_iald C dX10_isBehind_53 zk_43 (by decide) ?_ ?_
    · rw [nI_clamp (by omega)]; exact hS
    refine z_imul C dX10_isBehind_54 ?_
    refine z_iadd C dX10_isBehind_55 ?_
    refine z_iload_n C dX10_isBehind_56 rfl ?_
    refine z_iadd C dX10_isBehind_57 ?_
    refine zt_icmp_lt (tgt := 65) C dX10_isBehind_58 rfl rfl (by decide) (fun q58 => ?_) (fun q58 => ?_)
    · simp only [nI_clamp (show a < 2 ^ 31 by omega), nI_clamp (show b < 2 ^ 31 by omega)] at q58
      refine z_iconst (v := 0) C dX10_isBehind_65 (by decide) ?_
      refine zs_iret C E dX10_isBehind_66 rfl ?_ ?_ ?_
      · first | exact (zb_t ⟨q12, by omega⟩).symm | exact (zb_f (fun z => by first | exact q12 z.1 | (have := z.2; omega))).symm
      · rfl
      · rfl
    · simp only [nI_clamp (show a < 2 ^ 31 by omega), nI_clamp (show b < 2 ^ 31 by omega)] at q58
      refine z_iconst (v := 1) C dX10_isBehind_61 (by decide) ?_
      refine z_goto (tgt := 66) C dX10_isBehind_62 (by decide) ?_
      refine zs_iret C E dX10_isBehind_66 rfl ?_ ?_ ?_
      · first | exact (zb_t ⟨q12, by omega⟩).symm | exact (zb_f (fun z => by first | exact q12 z.1 | (have := z.2; omega))).symm
      · rfl
      · rfl

set_option maxRecDepth 4000 in
theorem m_behind (n : Nat) (iv : zI) (lw : zG) (a b rest : Int32) (t : Nat) (ht : iv 41 53 = nI t) (ht2 : t ≤ 24) (hS : ∀ k, k < t → vp_in (iv 79 k) 8) : zMi yX10_behind cX10_behind 4 (some .boolean) 1 [.ref 41, .int a, .int b, .int rest] n iv lw (zb ((0 ≤ a.toInt ∧ a.toInt < t) ∧ (0 ≤ b.toInt ∧ b.toInt < t) ∧ (0 ≤ rest.toInt ∧ rest.toInt ≤ 10000) ∧ zbeh iv a.toNatClampNeg b.toNatClampNeg rest)) iv lw := by
  refine zM.of (by decide) (Nat.le_of_ble_eq_true rfl) (fun X C E => ?_)
  change zJs X n 4 0 [some (.ref 41), some (.int a), some (.int b), some (.int rest)] [] iv lw
  refine z_iload_n C dX10_behind_0 rfl ?_
  refine zt_if_lt (tgt := 49) C dX10_behind_1 rfl (by decide) (fun q1 => ?_) (fun q1 => ?_)
  · refine z_iconst (v := 0) C dX10_behind_49 (by decide) ?_
    refine zs_iret C E dX10_behind_50 rfl ?_ ?_ ?_
    · first
        | exact (zb_f (fun z => by have := z.1; have := z.2.1; have := z.2.2.1; omega)).symm
        | (rw [nI_clamp (by omega), nI_clamp (by omega)]; exact (zb_f (fun z => q42 z.2.2.2)).symm)
        | (rw [nI_clamp (by omega), nI_clamp (by omega)]; exact (zb_t ⟨by omega, by omega, by omega, q42⟩).symm)
    · rfl
    · rfl
  · refine z_iload_n C dX10_behind_4 rfl ?_
    refine z_aload_n C dX10_behind_5 rfl ?_
    refine z_getI C dX10_behind_6 zf_X10_381 zk_41 (by decide) ?_
    refine zt_icmp_ge (tgt := 49) C dX10_behind_9 rfl (zt_nI ht (by omega)) (by decide) (fun q9 => ?_) (fun q9 => ?_)
    · refine z_iconst (v := 0) C dX10_behind_49 (by decide) ?_
      refine zs_iret C E dX10_behind_50 rfl ?_ ?_ ?_
      · first
          | exact (zb_f (fun z => by have := z.1; have := z.2.1; have := z.2.2.1; omega)).symm
          | (rw [nI_clamp (by omega), nI_clamp (by omega)]; exact (zb_f (fun z => q42 z.2.2.2)).symm)
          | (rw [nI_clamp (by omega), nI_clamp (by omega)]; exact (zb_t ⟨by omega, by omega, by omega, q42⟩).symm)
      · rfl
      · rfl
    · refine z_iload_n C dX10_behind_12 rfl ?_
      refine zt_if_lt (tgt := 49) C dX10_behind_13 rfl (by decide) (fun q13 => ?_) (fun q13 => ?_)
      · refine z_iconst (v := 0) C dX10_behind_49 (by decide) ?_
        refine zs_iret C E dX10_behind_50 rfl ?_ ?_ ?_
        · first
            | exact (zb_f (fun z => by have := z.1; have := z.2.1; have := z.2.2.1; omega)).symm
            | (rw [nI_clamp (by omega), nI_clamp (by omega)]; exact (zb_f (fun z => q42 z.2.2.2)).symm)
            | (rw [nI_clamp (by omega), nI_clamp (by omega)]; exact (zb_t ⟨by omega, by omega, by omega, q42⟩).symm)
        · rfl
        · rfl
      · refine z_iload_n C dX10_behind_16 rfl ?_
        refine z_aload_n C dX10_behind_17 rfl ?_
        refine z_getI C dX10_behind_18 zf_X10_381 zk_41 (by decide) ?_
        refine zt_icmp_ge (tgt := 49) C dX10_behind_21 rfl (zt_nI ht (by omega)) (by decide) (fun q21 => ?_) (fun q21 => ?_)
        · refine z_iconst (v := 0) C dX10_behind_49 (by decide) ?_
          refine zs_iret C E dX10_behind_50 rfl ?_ ?_ ?_
          · first
              | exact (zb_f (fun z => by have := z.1; have := z.2.1; have := z.2.2.1; omega)).symm
              | (rw [nI_clamp (by omega), nI_clamp (by omega)]; exact (zb_f (fun z => q42 z.2.2.2)).symm)
              | (rw [nI_clamp (by omega), nI_clamp (by omega)]; exact (zb_t ⟨by omega, by omega, by omega, q42⟩).symm)
          · rfl
          · rfl
        · refine z_iload_n C dX10_behind_24 rfl ?_
          refine zt_if_lt (tgt := 49) C dX10_behind_25 rfl (by decide) (fun q25 => ?_) (fun q25 => ?_)
          · refine z_iconst (v := 0) C dX10_behind_49 (by decide) ?_
            refine zs_iret C E dX10_behind_50 rfl ?_ ?_ ?_
            · first
                | exact (zb_f (fun z => by have := z.1; have := z.2.1; have := z.2.2.1; omega)).symm
                | (rw [nI_clamp (by omega), nI_clamp (by omega)]; exact (zb_f (fun z => q42 z.2.2.2)).symm)
                | (rw [nI_clamp (by omega), nI_clamp (by omega)]; exact (zb_t ⟨by omega, by omega, by omega, q42⟩).symm)
            · rfl
            · rfl
          · refine z_iload_n C dX10_behind_28 rfl ?_
            refine z_sipush (v := 10000) C dX10_behind_29 (by decide) ?_
            refine zt_icmp_gt (tgt := 49) C dX10_behind_32 rfl (show (10000 : Int32).toInt = 10000 by decide) (by decide) (fun q32 => ?_) (fun q32 => ?_)
            · refine z_iconst (v := 0) C dX10_behind_49 (by decide) ?_
              refine zs_iret C E dX10_behind_50 rfl ?_ ?_ ?_
              · first
                  | exact (zb_f (fun z => by have := z.1; have := z.2.1; have := z.2.2.1; omega)).symm
                  | (rw [nI_clamp (by omega), nI_clamp (by omega)]; exact (zb_f (fun z => q42 z.2.2.2)).symm)
                  | (rw [nI_clamp (by omega), nI_clamp (by omega)]; exact (zb_t ⟨by omega, by omega, by omega, q42⟩).symm)
              · rfl
              · rfl
            · obtain ⟨a', ha, rfl⟩ : ∃ a' : Nat, a' < t ∧ a = nI a' := ⟨a.toNatClampNeg, by have := zcl_int (x := a) (by omega); omega, by apply Int32.toInt_inj.mp; have := zcl_int (x := a) (by omega); rw [nI_toInt (by omega)]; omega⟩
              obtain ⟨b', hb, rfl⟩ : ∃ b' : Nat, b' < t ∧ b = nI b' := ⟨b.toNatClampNeg, by have := zcl_int (x := b) (by omega); omega, by apply Int32.toInt_inj.mp; have := zcl_int (x := b) (by omega); rw [nI_toInt (by omega)]; omega⟩
              refine z_aload_n C dX10_behind_35 rfl ?_
              refine z_iload_n C dX10_behind_36 rfl ?_
              refine z_iload_n C dX10_behind_37 rfl ?_
              refine z_iload_n C dX10_behind_38 rfl ?_
              refine zs_callVi C dX10_behind_39 zm_X10_384 zyX10_isBehind (m_isBehind _ _ _ a' b' (by omega) (by omega) _ (hS a' ha)) zc_10 rfl zk_41 (by decide) (by decide) rfl rfl (Nat.le_of_ble_eq_true rfl) (by decide) (by decide) ?_
              refine zb_if_eq (tgt := 49) C dX10_behind_42 (by decide) (fun q42 => ?_) (fun q42 => ?_)
              · refine z_iconst (v := 0) C dX10_behind_49 (by decide) ?_
                refine zs_iret C E dX10_behind_50 rfl ?_ ?_ ?_
                · first
                    | exact (zb_f (fun z => by have := z.1; have := z.2.1; have := z.2.2.1; omega)).symm
                    | (rw [nI_clamp (by omega), nI_clamp (by omega)]; exact (zb_f (fun z => q42 z.2.2.2)).symm)
                    | (rw [nI_clamp (by omega), nI_clamp (by omega)]; exact (zb_t ⟨by omega, by omega, by omega, q42⟩).symm)
                · rfl
                · rfl
              · refine z_iconst (v := 1) C dX10_behind_45 (by decide) ?_
                refine z_goto (tgt := 50) C dX10_behind_46 (by decide) ?_
                refine zs_iret C E dX10_behind_50 rfl ?_ ?_ ?_
                · first
                    | exact (zb_f (fun z => by have := z.1; have := z.2.1; have := z.2.2.1; omega)).symm
                    | (rw [nI_clamp (by omega), nI_clamp (by omega)]; exact (zb_f (fun z => q42 z.2.2.2)).symm)
                    | (rw [nI_clamp (by omega), nI_clamp (by omega)]; exact (zb_t ⟨by omega, by omega, by omega, q42⟩).symm)
                · rfl
                · rfl

set_option maxRecDepth 4000 in
theorem m_isStageOf (n : Nat) (iv : zI) (lw : zG) (i : Nat) (hi : i < 8) (k : Int32) : zMi yX10_isStageOf cX10_isStageOf 3 (some .boolean) 1 [.ref 41, .int (nI i), .int k] n iv lw (zb (((iv 52 i).toInt < (iv 53 i).toInt ∧ (iv 52 i).toInt ≤ k.toInt ∧ k.toInt < (iv 53 i).toInt) ∨ (¬ (iv 52 i).toInt < (iv 53 i).toInt ∧ (iv 53 i).toInt ≤ k.toInt ∧ k.toInt < (iv 52 i).toInt))) iv lw := by
  refine zM.of (by decide) (Nat.le_of_ble_eq_true rfl) (fun X C E => ?_)
  change zJs X n 3 0 [some (.ref 41), some (.int (nI i)), some (.int k)] [] iv lw
  refine z_aload_n C dX10_isStageOf_0 rfl ?_
  refine z_iload_n C dX10_isStageOf_1 rfl ?_
  refine zs_callVi C dX10_isStageOf_2 zm_X10_191 zyX10_wayOf (m_wayOf _ _ _ i hi) zc_10 rfl zk_41 (by decide) (by decide) rfl rfl (Nat.le_of_ble_eq_true rfl) (by decide) (by decide) ?_
  refine zt_if_le (tgt := 36) C dX10_isStageOf_5 rfl (by decide) (fun q5 => ?_) (fun q5 => ?_)
  · have q5 := zstep_n q5
    refine z_iload_n C dX10_isStageOf_36 rfl ?_
    refine z_aload_n C dX10_isStageOf_37 rfl ?_
    refine zs_getR C dX10_isStageOf_38 zf_X10_47 zk_41 (by decide) (zr_41_15 n) ?_
    refine z_iload_n C dX10_isStageOf_41 rfl ?_
    refine z_iald C dX10_isStageOf_42 zk_53 (by decide) ?_ ?_
    · exact vp_in_nI (by omega) (by decide)
    refine zt_icmp_lt (tgt := 60) C dX10_isStageOf_43 rfl rfl (by decide) (fun q43 => ?_) (fun q43 => ?_)
    · rw [nI_clamp (by omega)] at q43
      refine z_iconst (v := 0) C dX10_isStageOf_60 (by decide) ?_
      refine zs_iret C E dX10_isStageOf_61 rfl ?_ ?_ ?_
      · exact (zb_f (by omega)).symm
      · rfl
      · rfl
    · rw [nI_clamp (by omega)] at q43
      refine z_iload_n C dX10_isStageOf_46 rfl ?_
      refine z_aload_n C dX10_isStageOf_47 rfl ?_
      refine zs_getR C dX10_isStageOf_48 zf_X10_44 zk_41 (by decide) (zr_41_14 n) ?_
      refine z_iload_n C dX10_isStageOf_51 rfl ?_
      refine z_iald C dX10_isStageOf_52 zk_52 (by decide) ?_ ?_
      · exact vp_in_nI (by omega) (by decide)
      refine zt_icmp_ge (tgt := 60) C dX10_isStageOf_53 rfl rfl (by decide) (fun q53 => ?_) (fun q53 => ?_)
      · rw [nI_clamp (by omega)] at q53
        refine z_iconst (v := 0) C dX10_isStageOf_60 (by decide) ?_
        refine zs_iret C E dX10_isStageOf_61 rfl ?_ ?_ ?_
        · exact (zb_f (by omega)).symm
        · rfl
        · rfl
      · rw [nI_clamp (by omega)] at q53
        refine z_iconst (v := 1) C dX10_isStageOf_56 (by decide) ?_
        refine z_goto (tgt := 61) C dX10_isStageOf_57 (by decide) ?_
        refine zs_iret C E dX10_isStageOf_61 rfl ?_ ?_ ?_
        · exact (zb_t (by omega)).symm
        · rfl
        · rfl
  · have q5 := zstep_p q5
    refine z_iload_n C dX10_isStageOf_8 rfl ?_
    refine z_aload_n C dX10_isStageOf_9 rfl ?_
    refine zs_getR C dX10_isStageOf_10 zf_X10_44 zk_41 (by decide) (zr_41_14 n) ?_
    refine z_iload_n C dX10_isStageOf_13 rfl ?_
    refine z_iald C dX10_isStageOf_14 zk_52 (by decide) ?_ ?_
    · exact vp_in_nI (by omega) (by decide)
    refine zt_icmp_lt (tgt := 32) C dX10_isStageOf_15 rfl rfl (by decide) (fun q15 => ?_) (fun q15 => ?_)
    · rw [nI_clamp (by omega)] at q15
      refine z_iconst (v := 0) C dX10_isStageOf_32 (by decide) ?_
      refine z_goto (tgt := 61) C dX10_isStageOf_33 (by decide) ?_
      refine zs_iret C E dX10_isStageOf_61 rfl ?_ ?_ ?_
      · exact (zb_f (by omega)).symm
      · rfl
      · rfl
    · rw [nI_clamp (by omega)] at q15
      refine z_iload_n C dX10_isStageOf_18 rfl ?_
      refine z_aload_n C dX10_isStageOf_19 rfl ?_
      refine zs_getR C dX10_isStageOf_20 zf_X10_47 zk_41 (by decide) (zr_41_15 n) ?_
      refine z_iload_n C dX10_isStageOf_23 rfl ?_
      refine z_iald C dX10_isStageOf_24 zk_53 (by decide) ?_ ?_
      · exact vp_in_nI (by omega) (by decide)
      refine zt_icmp_ge (tgt := 32) C dX10_isStageOf_25 rfl rfl (by decide) (fun q25 => ?_) (fun q25 => ?_)
      · rw [nI_clamp (by omega)] at q25
        refine z_iconst (v := 0) C dX10_isStageOf_32 (by decide) ?_
        refine z_goto (tgt := 61) C dX10_isStageOf_33 (by decide) ?_
        refine zs_iret C E dX10_isStageOf_61 rfl ?_ ?_ ?_
        · exact (zb_f (by omega)).symm
        · rfl
        · rfl
      · rw [nI_clamp (by omega)] at q25
        refine z_iconst (v := 1) C dX10_isStageOf_28 (by decide) ?_
        refine z_goto (tgt := 61) C dX10_isStageOf_29 (by decide) ?_
        refine zs_iret C E dX10_isStageOf_61 rfl ?_ ?_ ?_
        · exact (zb_t (by omega)).symm
        · rfl
        · rfl

/-- booking b of the reference, over stage s of coach c as known at m -/
def zmtk (co fr to tm um un : Nat → Int32) (c s m : Int32) (b : Nat) : Int32 := zb (co b = c ∧ (if (fr b).toInt < (to b).toInt then fr b else to b).toInt ≤ s.toInt ∧ s.toInt < (if (fr b).toInt < (to b).toInt then to b else fr b).toInt ∧ (tm b).toInt ≤ m.toInt ∧ ¬ (¬ un b = 0 ∧ (um b).toInt ≤ m.toInt))
def zdown (a : Int32) (f : Nat → Int32) : Nat → Int32
  | 0 => a
  | m + 1 => if f m = 0 then zdown a f m else zdown a f m + (-1)

theorem z_drop678 {a b c d e f g h i : Option Value} : ∀ (k : Nat) (v : Value), [a, b, c, d, e, f, none, none, none][k]? = some (some v) → [a, b, c, d, e, f, g, h, i][k]? = some (some v) := by
  intro k v hv
  match k, hv with
  | 0, hv => exact hv
  | 1, hv => exact hv
  | 2, hv => exact hv
  | 3, hv => exact hv
  | 4, hv => exact hv
  | 5, hv => exact hv
  | 6, hv => simp at hv
  | 7, hv => simp at hv
  | 8, hv => simp at hv
  | k + 9, hv => simp at hv
theorem zdown_s (a : Int32) (f : Nat → Int32) (m : Nat) : zdown a f (m + 1) = if f m = 0 then zdown a f m else zdown a f m + (-1) := rfl

set_option maxHeartbeats 4000000 in
set_option maxRecDepth 4000 in
theorem lm_freeOn (n : Nat) (iv : zI) (lw : zG) (i : Nat) (hi : i < 8) (sg mi : Int32) (t : Nat) (ht : iv 41 62 = nI t) (ht2 : t ≤ 100) {X : zX} (C : zC X cX10_freeOn 9 RX10 (some .int) "freeOn" 0 0 0) (E : zEnd X (91 + 3 * n) 0 0 (zQ n (zQi (zdown (zseats (iv 50 i)) (zmtk (iv 84) (iv 85) (iv 86) (iv 87) (iv 88) (iv 89) (nI i) sg mi) t) iv lw))) : ∀ (k : Nat) (j : Nat), j + k = t → zJs X n 9 36 [some (.ref 41), some (.int (nI i)), some (.int sg), some (.int mi), some (.int (zdown (zseats (iv 50 i)) (zmtk (iv 84) (iv 85) (iv 86) (iv 87) (iv 88) (iv 89) (nI i) sg mi) j)), some (.int (nI j)), none, none, none] [] iv lw := by
  intro k
  induction k with
  | zero =>
    intro j hk
    refine z_iload C dX10_freeOn_36 rfl ?_
    refine z_aload_n C dX10_freeOn_38 rfl ?_
    refine z_getI C dX10_freeOn_39 zf_X10_390 zk_41 (by decide) ?_
    refine zt_icmp_ge (tgt := 193) C dX10_freeOn_42 (nI_toInt (by omega)) (zt_nI ht (by omega)) (by decide) (fun q42 => ?_) (fun q42 => ?_)
    · refine z_iload C dX10_freeOn_193 rfl ?_
      refine zs_iret C E dX10_freeOn_195 rfl ?_ ?_ ?_
      · rw [show j = t by omega]
      · rfl
      · rfl
    · exfalso; omega
  | succ k ih =>
    intro j hk
    refine z_iload C dX10_freeOn_36 rfl ?_
    refine z_aload_n C dX10_freeOn_38 rfl ?_
    refine z_getI C dX10_freeOn_39 zf_X10_390 zk_41 (by decide) ?_
    refine zt_icmp_ge (tgt := 193) C dX10_freeOn_42 (nI_toInt (by omega)) (zt_nI ht (by omega)) (by decide) (fun q42 => ?_) (fun q42 => ?_)
    · exfalso; omega
    · refine z_aload_n C dX10_freeOn_45 rfl ?_
      refine zs_getR C dX10_freeOn_46 zf_X10_146 zk_41 (by decide) (zr_41_64 n) ?_
      refine z_iload C dX10_freeOn_49 rfl ?_
      refine z_iald C dX10_freeOn_51 zk_85 (by decide) ?_ ?_
      · exact vp_in_nI (by omega) (by decide)
      refine z_aload_n C dX10_freeOn_52 rfl ?_
      refine zs_getR C dX10_freeOn_53 zf_X10_149 zk_41 (by decide) (zr_41_65 n) ?_
      refine z_iload C dX10_freeOn_56 rfl ?_
      refine z_iald C dX10_freeOn_58 zk_86 (by decide) ?_ ?_
      · exact vp_in_nI (by omega) (by decide)
      refine zt_icmp_ge (tgt := 72) C dX10_freeOn_59 rfl rfl (by decide) (fun q59 => ?_) (fun q59 => ?_)
      · simp only [nI_clamp (show j < 2 ^ 31 by omega)] at q59
        have q59 : ¬ (iv 85 j).toInt < (iv 86 j).toInt := by omega
        refine z_aload_n C dX10_freeOn_72 rfl ?_
        refine zs_getR C dX10_freeOn_73 zf_X10_149 zk_41 (by decide) (zr_41_65 n) ?_
        refine z_iload C dX10_freeOn_76 rfl ?_
        refine z_iald C dX10_freeOn_78 zk_86 (by decide) ?_ ?_
        · exact vp_in_nI (by omega) (by decide)
        refine z_istore (lv' := [some (.ref 41), some (.int _), some (.int sg), some (.int mi), some (.int _), some (.int _), some (.int _), none, none]) C dX10_freeOn_79 (by decide) rfl ?_
        refine z_aload_n C dX10_freeOn_81 rfl ?_
        refine zs_getR C dX10_freeOn_82 zf_X10_146 zk_41 (by decide) (zr_41_64 n) ?_
        refine z_iload C dX10_freeOn_85 rfl ?_
        refine z_iald C dX10_freeOn_87 zk_85 (by decide) ?_ ?_
        · exact vp_in_nI (by omega) (by decide)
        refine z_aload_n C dX10_freeOn_88 rfl ?_
        refine zs_getR C dX10_freeOn_89 zf_X10_149 zk_41 (by decide) (zr_41_65 n) ?_
        refine z_iload C dX10_freeOn_92 rfl ?_
        refine z_iald C dX10_freeOn_94 zk_86 (by decide) ?_ ?_
        · exact vp_in_nI (by omega) (by decide)
        refine zt_icmp_ge (tgt := 108) C dX10_freeOn_95 rfl rfl (by decide) (fun q95 => ?_) (fun q95 => ?_)
        · simp only [nI_clamp (show j < 2 ^ 31 by omega)] at q95
          refine z_aload_n C dX10_freeOn_108 rfl ?_
          refine zs_getR C dX10_freeOn_109 zf_X10_146 zk_41 (by decide) (zr_41_64 n) ?_
          refine z_iload C dX10_freeOn_112 rfl ?_
          refine z_iald C dX10_freeOn_114 zk_85 (by decide) ?_ ?_
          · exact vp_in_nI (by omega) (by decide)
          refine z_istore (lv' := [some (.ref 41), some (.int _), some (.int sg), some (.int mi), some (.int _), some (.int _), some (.int _), some (.int _), none]) C dX10_freeOn_115 (by decide) rfl ?_
          refine z_aload_n C dX10_freeOn_117 rfl ?_
          refine zs_getR C dX10_freeOn_118 zf_X10_152 zk_41 (by decide) (zr_41_66 n) ?_
          refine z_iload C dX10_freeOn_121 rfl ?_
          refine z_iald C dX10_freeOn_123 zk_87 (by decide) ?_ ?_
          · exact vp_in_nI (by omega) (by decide)
          refine z_iload_n C dX10_freeOn_124 rfl ?_
          refine zt_icmp_gt (tgt := 153) C dX10_freeOn_125 rfl rfl (by decide) (fun q125 => ?_) (fun q125 => ?_)
          · simp only [nI_clamp (show j < 2 ^ 31 by omega)] at q125
            refine z_iconst (v := 0) C dX10_freeOn_153 (by decide) ?_
            refine z_istore (lv' := [some (.ref 41), some (.int _), some (.int sg), some (.int mi), some (.int _), some (.int _), some (.int _), some (.int _), some (.int _)]) C dX10_freeOn_154 (by decide) rfl ?_
            refine z_aload_n C dX10_freeOn_156 rfl ?_
            refine zs_getR C dX10_freeOn_157 zf_X10_143 zk_41 (by decide) (zr_41_63 n) ?_
            refine z_iload C dX10_freeOn_160 rfl ?_
            refine z_iald C dX10_freeOn_162 zk_84 (by decide) ?_ ?_
            · exact vp_in_nI (by omega) (by decide)
            refine z_iload_n C dX10_freeOn_163 rfl ?_
            refine z_icmp_ne (tgt := 187) C dX10_freeOn_164 (by decide) (fun q164 => ?_) (fun q164 => ?_)
            · simp only [nI_clamp (show j < 2 ^ 31 by omega)] at q164
              refine z_iinc (y := 1) (lv' := [some (.ref 41), some (.int _), some (.int sg), some (.int mi), some (.int _), some (.int _), some (.int _), some (.int _), some (.int _)]) C dX10_freeOn_187 rfl (by decide) (by decide) rfl ?_
              refine z_goto (tgt := 36) C dX10_freeOn_190 (by decide) ?_
              refine z_sub z_drop678 ?_
              rw [nI_1 j]
              have a3 := ih (j + 1) (by omega)
              rw [zdown_s] at a3
              first
                | (rw [if_pos (show (zmtk (iv 84) (iv 85) (iv 86) (iv 87) (iv 88) (iv 89) (nI i) sg mi) j = 0 from zb_f (by
                     rintro ⟨z1, z2, z3, z4, z5⟩
                     first
                       | exact absurd z1 q164
                       | (first | rw [if_pos q59] at z2 | rw [if_neg q59] at z2); omega
                       | (first | rw [if_pos q59] at z3 | rw [if_neg q59] at z3); omega
                       | omega
                       | exact z5 ⟨q135, by omega⟩))] at a3
                   exact a3)
                | (rw [if_neg (show ¬ (zmtk (iv 84) (iv 85) (iv 86) (iv 87) (iv 88) (iv 89) (nI i) sg mi) j = 0 by
                     rw [show (zmtk (iv 84) (iv 85) (iv 86) (iv 87) (iv 88) (iv 89) (nI i) sg mi) j = 1 from zb_t ⟨q164, by first | (rw [if_pos q59]; omega) | (rw [if_neg q59]; omega), by first | (rw [if_pos q59]; omega) | (rw [if_neg q59]; omega), by omega, by first | exact fun z => z.1 q135 | (rintro ⟨-, z⟩; omega)⟩]; decide)] at a3
                   exact a3)
            · simp only [nI_clamp (show j < 2 ^ 31 by omega)] at q164
              refine z_iload_n C dX10_freeOn_167 rfl ?_
              refine z_iload C dX10_freeOn_168 rfl ?_
              refine zt_icmp_lt (tgt := 187) C dX10_freeOn_170 rfl rfl (by decide) (fun q170 => ?_) (fun q170 => ?_)
              · simp only [nI_clamp (show j < 2 ^ 31 by omega)] at q170
                refine z_iinc (y := 1) (lv' := [some (.ref 41), some (.int _), some (.int sg), some (.int mi), some (.int _), some (.int _), some (.int _), some (.int _), some (.int _)]) C dX10_freeOn_187 rfl (by decide) (by decide) rfl ?_
                refine z_goto (tgt := 36) C dX10_freeOn_190 (by decide) ?_
                refine z_sub z_drop678 ?_
                rw [nI_1 j]
                have a3 := ih (j + 1) (by omega)
                rw [zdown_s] at a3
                first
                  | (rw [if_pos (show (zmtk (iv 84) (iv 85) (iv 86) (iv 87) (iv 88) (iv 89) (nI i) sg mi) j = 0 from zb_f (by
                       rintro ⟨z1, z2, z3, z4, z5⟩
                       first
                         | exact absurd z1 q164
                         | (first | rw [if_pos q59] at z2 | rw [if_neg q59] at z2); omega
                         | (first | rw [if_pos q59] at z3 | rw [if_neg q59] at z3); omega
                         | omega
                         | exact z5 ⟨q135, by omega⟩))] at a3
                     exact a3)
                  | (rw [if_neg (show ¬ (zmtk (iv 84) (iv 85) (iv 86) (iv 87) (iv 88) (iv 89) (nI i) sg mi) j = 0 by
                       rw [show (zmtk (iv 84) (iv 85) (iv 86) (iv 87) (iv 88) (iv 89) (nI i) sg mi) j = 1 from zb_t ⟨q164, by first | (rw [if_pos q59]; omega) | (rw [if_neg q59]; omega), by first | (rw [if_pos q59]; omega) | (rw [if_neg q59]; omega), by omega, by first | exact fun z => z.1 q135 | (rintro ⟨-, z⟩; omega)⟩]; decide)] at a3
                     exact a3)
              · simp only [nI_clamp (show j < 2 ^ 31 by omega)] at q170
                refine z_iload_n C dX10_freeOn_173 rfl ?_
                refine z_iload C dX10_freeOn_174 rfl ?_
                refine zt_icmp_ge (tgt := 187) C dX10_freeOn_176 rfl rfl (by decide) (fun q176 => ?_) (fun q176 => ?_)
                · simp only [nI_clamp (show j < 2 ^ 31 by omega)] at q176
                  refine z_iinc (y := 1) (lv' := [some (.ref 41), some (.int _), some (.int sg), some (.int mi), some (.int _), some (.int _), some (.int _), some (.int _), some (.int _)]) C dX10_freeOn_187 rfl (by decide) (by decide) rfl ?_
                  refine z_goto (tgt := 36) C dX10_freeOn_190 (by decide) ?_
                  refine z_sub z_drop678 ?_
                  rw [nI_1 j]
                  have a3 := ih (j + 1) (by omega)
                  rw [zdown_s] at a3
                  first
                    | (rw [if_pos (show (zmtk (iv 84) (iv 85) (iv 86) (iv 87) (iv 88) (iv 89) (nI i) sg mi) j = 0 from zb_f (by
                         rintro ⟨z1, z2, z3, z4, z5⟩
                         first
                           | exact absurd z1 q164
                           | (first | rw [if_pos q59] at z2 | rw [if_neg q59] at z2); omega
                           | (first | rw [if_pos q59] at z3 | rw [if_neg q59] at z3); omega
                           | omega
                           | exact z5 ⟨q135, by omega⟩))] at a3
                       exact a3)
                    | (rw [if_neg (show ¬ (zmtk (iv 84) (iv 85) (iv 86) (iv 87) (iv 88) (iv 89) (nI i) sg mi) j = 0 by
                         rw [show (zmtk (iv 84) (iv 85) (iv 86) (iv 87) (iv 88) (iv 89) (nI i) sg mi) j = 1 from zb_t ⟨q164, by first | (rw [if_pos q59]; omega) | (rw [if_neg q59]; omega), by first | (rw [if_pos q59]; omega) | (rw [if_neg q59]; omega), by omega, by first | exact fun z => z.1 q135 | (rintro ⟨-, z⟩; omega)⟩]; decide)] at a3
                       exact a3)
                · simp only [nI_clamp (show j < 2 ^ 31 by omega)] at q176
                  refine z_iload C dX10_freeOn_179 rfl ?_
                  refine z_if_eq (tgt := 187) C dX10_freeOn_181 (by decide) (fun q181 => ?_) (fun q181 => ?_)
                  · refine z_iinc (y := 1) (lv' := [some (.ref 41), some (.int _), some (.int sg), some (.int mi), some (.int _), some (.int _), some (.int _), some (.int _), some (.int _)]) C dX10_freeOn_187 rfl (by decide) (by decide) rfl ?_
                    refine z_goto (tgt := 36) C dX10_freeOn_190 (by decide) ?_
                    refine z_sub z_drop678 ?_
                    rw [nI_1 j]
                    have a3 := ih (j + 1) (by omega)
                    rw [zdown_s] at a3
                    first
                      | (rw [if_pos (show (zmtk (iv 84) (iv 85) (iv 86) (iv 87) (iv 88) (iv 89) (nI i) sg mi) j = 0 from zb_f (by
                           rintro ⟨z1, z2, z3, z4, z5⟩
                           first
                             | exact absurd z1 q164
                             | (first | rw [if_pos q59] at z2 | rw [if_neg q59] at z2); omega
                             | (first | rw [if_pos q59] at z3 | rw [if_neg q59] at z3); omega
                             | omega
                             | exact z5 ⟨q135, by omega⟩))] at a3
                         exact a3)
                      | (rw [if_neg (show ¬ (zmtk (iv 84) (iv 85) (iv 86) (iv 87) (iv 88) (iv 89) (nI i) sg mi) j = 0 by
                           rw [show (zmtk (iv 84) (iv 85) (iv 86) (iv 87) (iv 88) (iv 89) (nI i) sg mi) j = 1 from zb_t ⟨q164, by first | (rw [if_pos q59]; omega) | (rw [if_neg q59]; omega), by first | (rw [if_pos q59]; omega) | (rw [if_neg q59]; omega), by omega, by first | exact fun z => z.1 q135 | (rintro ⟨-, z⟩; omega)⟩]; decide)] at a3
                         exact a3)
                  · exact absurd q181 (by decide)
          · simp only [nI_clamp (show j < 2 ^ 31 by omega)] at q125
            refine z_aload_n C dX10_freeOn_128 rfl ?_
            refine zs_getR C dX10_freeOn_129 zf_X10_158 zk_41 (by decide) (zr_41_68 n) ?_
            refine z_iload C dX10_freeOn_132 rfl ?_
            refine z_zald C dX10_freeOn_134 zk_89 (by decide) ?_ ?_
            · exact vp_in_nI (by omega) (by decide)
            refine z_if_eq (tgt := 149) C dX10_freeOn_135 (by decide) (fun q135 => ?_) (fun q135 => ?_)
            · simp only [nI_clamp (show j < 2 ^ 31 by omega)] at q135
              refine z_iconst (v := 1) C dX10_freeOn_149 (by decide) ?_
              refine z_goto (tgt := 154) C dX10_freeOn_150 (by decide) ?_
              refine z_istore (lv' := [some (.ref 41), some (.int _), some (.int sg), some (.int mi), some (.int _), some (.int _), some (.int _), some (.int _), some (.int _)]) C dX10_freeOn_154 (by decide) rfl ?_
              refine z_aload_n C dX10_freeOn_156 rfl ?_
              refine zs_getR C dX10_freeOn_157 zf_X10_143 zk_41 (by decide) (zr_41_63 n) ?_
              refine z_iload C dX10_freeOn_160 rfl ?_
              refine z_iald C dX10_freeOn_162 zk_84 (by decide) ?_ ?_
              · exact vp_in_nI (by omega) (by decide)
              refine z_iload_n C dX10_freeOn_163 rfl ?_
              refine z_icmp_ne (tgt := 187) C dX10_freeOn_164 (by decide) (fun q164 => ?_) (fun q164 => ?_)
              · simp only [nI_clamp (show j < 2 ^ 31 by omega)] at q164
                refine z_iinc (y := 1) (lv' := [some (.ref 41), some (.int _), some (.int sg), some (.int mi), some (.int _), some (.int _), some (.int _), some (.int _), some (.int _)]) C dX10_freeOn_187 rfl (by decide) (by decide) rfl ?_
                refine z_goto (tgt := 36) C dX10_freeOn_190 (by decide) ?_
                refine z_sub z_drop678 ?_
                rw [nI_1 j]
                have a3 := ih (j + 1) (by omega)
                rw [zdown_s] at a3
                first
                  | (rw [if_pos (show (zmtk (iv 84) (iv 85) (iv 86) (iv 87) (iv 88) (iv 89) (nI i) sg mi) j = 0 from zb_f (by
                       rintro ⟨z1, z2, z3, z4, z5⟩
                       first
                         | exact absurd z1 q164
                         | (first | rw [if_pos q59] at z2 | rw [if_neg q59] at z2); omega
                         | (first | rw [if_pos q59] at z3 | rw [if_neg q59] at z3); omega
                         | omega
                         | exact z5 ⟨q135, by omega⟩))] at a3
                     exact a3)
                  | (rw [if_neg (show ¬ (zmtk (iv 84) (iv 85) (iv 86) (iv 87) (iv 88) (iv 89) (nI i) sg mi) j = 0 by
                       rw [show (zmtk (iv 84) (iv 85) (iv 86) (iv 87) (iv 88) (iv 89) (nI i) sg mi) j = 1 from zb_t ⟨q164, by first | (rw [if_pos q59]; omega) | (rw [if_neg q59]; omega), by first | (rw [if_pos q59]; omega) | (rw [if_neg q59]; omega), by omega, by first | exact fun z => z.1 q135 | (rintro ⟨-, z⟩; omega)⟩]; decide)] at a3
                     exact a3)
              · simp only [nI_clamp (show j < 2 ^ 31 by omega)] at q164
                refine z_iload_n C dX10_freeOn_167 rfl ?_
                refine z_iload C dX10_freeOn_168 rfl ?_
                refine zt_icmp_lt (tgt := 187) C dX10_freeOn_170 rfl rfl (by decide) (fun q170 => ?_) (fun q170 => ?_)
                · simp only [nI_clamp (show j < 2 ^ 31 by omega)] at q170
                  refine z_iinc (y := 1) (lv' := [some (.ref 41), some (.int _), some (.int sg), some (.int mi), some (.int _), some (.int _), some (.int _), some (.int _), some (.int _)]) C dX10_freeOn_187 rfl (by decide) (by decide) rfl ?_
                  refine z_goto (tgt := 36) C dX10_freeOn_190 (by decide) ?_
                  refine z_sub z_drop678 ?_
                  rw [nI_1 j]
                  have a3 := ih (j + 1) (by omega)
                  rw [zdown_s] at a3
                  first
                    | (rw [if_pos (show (zmtk (iv 84) (iv 85) (iv 86) (iv 87) (iv 88) (iv 89) (nI i) sg mi) j = 0 from zb_f (by
                         rintro ⟨z1, z2, z3, z4, z5⟩
                         first
                           | exact absurd z1 q164
                           | (first | rw [if_pos q59] at z2 | rw [if_neg q59] at z2); omega
                           | (first | rw [if_pos q59] at z3 | rw [if_neg q59] at z3); omega
                           | omega
                           | exact z5 ⟨q135, by omega⟩))] at a3
                       exact a3)
                    | (rw [if_neg (show ¬ (zmtk (iv 84) (iv 85) (iv 86) (iv 87) (iv 88) (iv 89) (nI i) sg mi) j = 0 by
                         rw [show (zmtk (iv 84) (iv 85) (iv 86) (iv 87) (iv 88) (iv 89) (nI i) sg mi) j = 1 from zb_t ⟨q164, by first | (rw [if_pos q59]; omega) | (rw [if_neg q59]; omega), by first | (rw [if_pos q59]; omega) | (rw [if_neg q59]; omega), by omega, by first | exact fun z => z.1 q135 | (rintro ⟨-, z⟩; omega)⟩]; decide)] at a3
                       exact a3)
                · simp only [nI_clamp (show j < 2 ^ 31 by omega)] at q170
                  refine z_iload_n C dX10_freeOn_173 rfl ?_
                  refine z_iload C dX10_freeOn_174 rfl ?_
                  refine zt_icmp_ge (tgt := 187) C dX10_freeOn_176 rfl rfl (by decide) (fun q176 => ?_) (fun q176 => ?_)
                  · simp only [nI_clamp (show j < 2 ^ 31 by omega)] at q176
                    refine z_iinc (y := 1) (lv' := [some (.ref 41), some (.int _), some (.int sg), some (.int mi), some (.int _), some (.int _), some (.int _), some (.int _), some (.int _)]) C dX10_freeOn_187 rfl (by decide) (by decide) rfl ?_
                    refine z_goto (tgt := 36) C dX10_freeOn_190 (by decide) ?_
                    refine z_sub z_drop678 ?_
                    rw [nI_1 j]
                    have a3 := ih (j + 1) (by omega)
                    rw [zdown_s] at a3
                    first
                      | (rw [if_pos (show (zmtk (iv 84) (iv 85) (iv 86) (iv 87) (iv 88) (iv 89) (nI i) sg mi) j = 0 from zb_f (by
                           rintro ⟨z1, z2, z3, z4, z5⟩
                           first
                             | exact absurd z1 q164
                             | (first | rw [if_pos q59] at z2 | rw [if_neg q59] at z2); omega
                             | (first | rw [if_pos q59] at z3 | rw [if_neg q59] at z3); omega
                             | omega
                             | exact z5 ⟨q135, by omega⟩))] at a3
                         exact a3)
                      | (rw [if_neg (show ¬ (zmtk (iv 84) (iv 85) (iv 86) (iv 87) (iv 88) (iv 89) (nI i) sg mi) j = 0 by
                           rw [show (zmtk (iv 84) (iv 85) (iv 86) (iv 87) (iv 88) (iv 89) (nI i) sg mi) j = 1 from zb_t ⟨q164, by first | (rw [if_pos q59]; omega) | (rw [if_neg q59]; omega), by first | (rw [if_pos q59]; omega) | (rw [if_neg q59]; omega), by omega, by first | exact fun z => z.1 q135 | (rintro ⟨-, z⟩; omega)⟩]; decide)] at a3
                         exact a3)
                  · simp only [nI_clamp (show j < 2 ^ 31 by omega)] at q176
                    refine z_iload C dX10_freeOn_179 rfl ?_
                    refine z_if_eq (tgt := 187) C dX10_freeOn_181 (by decide) (fun q181 => ?_) (fun q181 => ?_)
                    · exact absurd q181 (by decide)
                    · refine z_iinc (y := (-1)) (lv' := [some (.ref 41), some (.int _), some (.int sg), some (.int mi), some (.int _), some (.int _), some (.int _), some (.int _), some (.int _)]) C dX10_freeOn_184 rfl (by decide) (by decide) rfl ?_
                      refine z_iinc (y := 1) (lv' := [some (.ref 41), some (.int _), some (.int sg), some (.int mi), some (.int _), some (.int _), some (.int _), some (.int _), some (.int _)]) C dX10_freeOn_187 rfl (by decide) (by decide) rfl ?_
                      refine z_goto (tgt := 36) C dX10_freeOn_190 (by decide) ?_
                      refine z_sub z_drop678 ?_
                      rw [nI_1 j]
                      have a3 := ih (j + 1) (by omega)
                      rw [zdown_s] at a3
                      first
                        | (rw [if_pos (show (zmtk (iv 84) (iv 85) (iv 86) (iv 87) (iv 88) (iv 89) (nI i) sg mi) j = 0 from zb_f (by
                             rintro ⟨z1, z2, z3, z4, z5⟩
                             first
                               | exact absurd z1 q164
                               | (first | rw [if_pos q59] at z2 | rw [if_neg q59] at z2); omega
                               | (first | rw [if_pos q59] at z3 | rw [if_neg q59] at z3); omega
                               | omega
                               | exact z5 ⟨q135, by omega⟩))] at a3
                           exact a3)
                        | (rw [if_neg (show ¬ (zmtk (iv 84) (iv 85) (iv 86) (iv 87) (iv 88) (iv 89) (nI i) sg mi) j = 0 by
                             rw [show (zmtk (iv 84) (iv 85) (iv 86) (iv 87) (iv 88) (iv 89) (nI i) sg mi) j = 1 from zb_t ⟨q164, by first | (rw [if_pos q59]; omega) | (rw [if_neg q59]; omega), by first | (rw [if_pos q59]; omega) | (rw [if_neg q59]; omega), by omega, by first | exact fun z => z.1 q135 | (rintro ⟨-, z⟩; omega)⟩]; decide)] at a3
                           exact a3)
            · simp only [nI_clamp (show j < 2 ^ 31 by omega)] at q135
              refine z_aload_n C dX10_freeOn_138 rfl ?_
              refine zs_getR C dX10_freeOn_139 zf_X10_155 zk_41 (by decide) (zr_41_67 n) ?_
              refine z_iload C dX10_freeOn_142 rfl ?_
              refine z_iald C dX10_freeOn_144 zk_88 (by decide) ?_ ?_
              · exact vp_in_nI (by omega) (by decide)
              refine z_iload_n C dX10_freeOn_145 rfl ?_
              refine zt_icmp_le (tgt := 153) C dX10_freeOn_146 rfl rfl (by decide) (fun q146 => ?_) (fun q146 => ?_)
              · simp only [nI_clamp (show j < 2 ^ 31 by omega)] at q146
                refine z_iconst (v := 0) C dX10_freeOn_153 (by decide) ?_
                refine z_istore (lv' := [some (.ref 41), some (.int _), some (.int sg), some (.int mi), some (.int _), some (.int _), some (.int _), some (.int _), some (.int _)]) C dX10_freeOn_154 (by decide) rfl ?_
                refine z_aload_n C dX10_freeOn_156 rfl ?_
                refine zs_getR C dX10_freeOn_157 zf_X10_143 zk_41 (by decide) (zr_41_63 n) ?_
                refine z_iload C dX10_freeOn_160 rfl ?_
                refine z_iald C dX10_freeOn_162 zk_84 (by decide) ?_ ?_
                · exact vp_in_nI (by omega) (by decide)
                refine z_iload_n C dX10_freeOn_163 rfl ?_
                refine z_icmp_ne (tgt := 187) C dX10_freeOn_164 (by decide) (fun q164 => ?_) (fun q164 => ?_)
                · simp only [nI_clamp (show j < 2 ^ 31 by omega)] at q164
                  refine z_iinc (y := 1) (lv' := [some (.ref 41), some (.int _), some (.int sg), some (.int mi), some (.int _), some (.int _), some (.int _), some (.int _), some (.int _)]) C dX10_freeOn_187 rfl (by decide) (by decide) rfl ?_
                  refine z_goto (tgt := 36) C dX10_freeOn_190 (by decide) ?_
                  refine z_sub z_drop678 ?_
                  rw [nI_1 j]
                  have a3 := ih (j + 1) (by omega)
                  rw [zdown_s] at a3
                  first
                    | (rw [if_pos (show (zmtk (iv 84) (iv 85) (iv 86) (iv 87) (iv 88) (iv 89) (nI i) sg mi) j = 0 from zb_f (by
                         rintro ⟨z1, z2, z3, z4, z5⟩
                         first
                           | exact absurd z1 q164
                           | (first | rw [if_pos q59] at z2 | rw [if_neg q59] at z2); omega
                           | (first | rw [if_pos q59] at z3 | rw [if_neg q59] at z3); omega
                           | omega
                           | exact z5 ⟨q135, by omega⟩))] at a3
                       exact a3)
                    | (rw [if_neg (show ¬ (zmtk (iv 84) (iv 85) (iv 86) (iv 87) (iv 88) (iv 89) (nI i) sg mi) j = 0 by
                         rw [show (zmtk (iv 84) (iv 85) (iv 86) (iv 87) (iv 88) (iv 89) (nI i) sg mi) j = 1 from zb_t ⟨q164, by first | (rw [if_pos q59]; omega) | (rw [if_neg q59]; omega), by first | (rw [if_pos q59]; omega) | (rw [if_neg q59]; omega), by omega, by first | exact fun z => z.1 q135 | (rintro ⟨-, z⟩; omega)⟩]; decide)] at a3
                       exact a3)
                · simp only [nI_clamp (show j < 2 ^ 31 by omega)] at q164
                  refine z_iload_n C dX10_freeOn_167 rfl ?_
                  refine z_iload C dX10_freeOn_168 rfl ?_
                  refine zt_icmp_lt (tgt := 187) C dX10_freeOn_170 rfl rfl (by decide) (fun q170 => ?_) (fun q170 => ?_)
                  · simp only [nI_clamp (show j < 2 ^ 31 by omega)] at q170
                    refine z_iinc (y := 1) (lv' := [some (.ref 41), some (.int _), some (.int sg), some (.int mi), some (.int _), some (.int _), some (.int _), some (.int _), some (.int _)]) C dX10_freeOn_187 rfl (by decide) (by decide) rfl ?_
                    refine z_goto (tgt := 36) C dX10_freeOn_190 (by decide) ?_
                    refine z_sub z_drop678 ?_
                    rw [nI_1 j]
                    have a3 := ih (j + 1) (by omega)
                    rw [zdown_s] at a3
                    first
                      | (rw [if_pos (show (zmtk (iv 84) (iv 85) (iv 86) (iv 87) (iv 88) (iv 89) (nI i) sg mi) j = 0 from zb_f (by
                           rintro ⟨z1, z2, z3, z4, z5⟩
                           first
                             | exact absurd z1 q164
                             | (first | rw [if_pos q59] at z2 | rw [if_neg q59] at z2); omega
                             | (first | rw [if_pos q59] at z3 | rw [if_neg q59] at z3); omega
                             | omega
                             | exact z5 ⟨q135, by omega⟩))] at a3
                         exact a3)
                      | (rw [if_neg (show ¬ (zmtk (iv 84) (iv 85) (iv 86) (iv 87) (iv 88) (iv 89) (nI i) sg mi) j = 0 by
                           rw [show (zmtk (iv 84) (iv 85) (iv 86) (iv 87) (iv 88) (iv 89) (nI i) sg mi) j = 1 from zb_t ⟨q164, by first | (rw [if_pos q59]; omega) | (rw [if_neg q59]; omega), by first | (rw [if_pos q59]; omega) | (rw [if_neg q59]; omega), by omega, by first | exact fun z => z.1 q135 | (rintro ⟨-, z⟩; omega)⟩]; decide)] at a3
                         exact a3)
                  · simp only [nI_clamp (show j < 2 ^ 31 by omega)] at q170
                    refine z_iload_n C dX10_freeOn_173 rfl ?_
                    refine z_iload C dX10_freeOn_174 rfl ?_
                    refine zt_icmp_ge (tgt := 187) C dX10_freeOn_176 rfl rfl (by decide) (fun q176 => ?_) (fun q176 => ?_)
                    · simp only [nI_clamp (show j < 2 ^ 31 by omega)] at q176
                      refine z_iinc (y := 1) (lv' := [some (.ref 41), some (.int _), some (.int sg), some (.int mi), some (.int _), some (.int _), some (.int _), some (.int _), some (.int _)]) C dX10_freeOn_187 rfl (by decide) (by decide) rfl ?_
                      refine z_goto (tgt := 36) C dX10_freeOn_190 (by decide) ?_
                      refine z_sub z_drop678 ?_
                      rw [nI_1 j]
                      have a3 := ih (j + 1) (by omega)
                      rw [zdown_s] at a3
                      first
                        | (rw [if_pos (show (zmtk (iv 84) (iv 85) (iv 86) (iv 87) (iv 88) (iv 89) (nI i) sg mi) j = 0 from zb_f (by
                             rintro ⟨z1, z2, z3, z4, z5⟩
                             first
                               | exact absurd z1 q164
                               | (first | rw [if_pos q59] at z2 | rw [if_neg q59] at z2); omega
                               | (first | rw [if_pos q59] at z3 | rw [if_neg q59] at z3); omega
                               | omega
                               | exact z5 ⟨q135, by omega⟩))] at a3
                           exact a3)
                        | (rw [if_neg (show ¬ (zmtk (iv 84) (iv 85) (iv 86) (iv 87) (iv 88) (iv 89) (nI i) sg mi) j = 0 by
                             rw [show (zmtk (iv 84) (iv 85) (iv 86) (iv 87) (iv 88) (iv 89) (nI i) sg mi) j = 1 from zb_t ⟨q164, by first | (rw [if_pos q59]; omega) | (rw [if_neg q59]; omega), by first | (rw [if_pos q59]; omega) | (rw [if_neg q59]; omega), by omega, by first | exact fun z => z.1 q135 | (rintro ⟨-, z⟩; omega)⟩]; decide)] at a3
                           exact a3)
                    · simp only [nI_clamp (show j < 2 ^ 31 by omega)] at q176
                      refine z_iload C dX10_freeOn_179 rfl ?_
                      refine z_if_eq (tgt := 187) C dX10_freeOn_181 (by decide) (fun q181 => ?_) (fun q181 => ?_)
                      · refine z_iinc (y := 1) (lv' := [some (.ref 41), some (.int _), some (.int sg), some (.int mi), some (.int _), some (.int _), some (.int _), some (.int _), some (.int _)]) C dX10_freeOn_187 rfl (by decide) (by decide) rfl ?_
                        refine z_goto (tgt := 36) C dX10_freeOn_190 (by decide) ?_
                        refine z_sub z_drop678 ?_
                        rw [nI_1 j]
                        have a3 := ih (j + 1) (by omega)
                        rw [zdown_s] at a3
                        first
                          | (rw [if_pos (show (zmtk (iv 84) (iv 85) (iv 86) (iv 87) (iv 88) (iv 89) (nI i) sg mi) j = 0 from zb_f (by
                               rintro ⟨z1, z2, z3, z4, z5⟩
                               first
                                 | exact absurd z1 q164
                                 | (first | rw [if_pos q59] at z2 | rw [if_neg q59] at z2); omega
                                 | (first | rw [if_pos q59] at z3 | rw [if_neg q59] at z3); omega
                                 | omega
                                 | exact z5 ⟨q135, by omega⟩))] at a3
                             exact a3)
                          | (rw [if_neg (show ¬ (zmtk (iv 84) (iv 85) (iv 86) (iv 87) (iv 88) (iv 89) (nI i) sg mi) j = 0 by
                               rw [show (zmtk (iv 84) (iv 85) (iv 86) (iv 87) (iv 88) (iv 89) (nI i) sg mi) j = 1 from zb_t ⟨q164, by first | (rw [if_pos q59]; omega) | (rw [if_neg q59]; omega), by first | (rw [if_pos q59]; omega) | (rw [if_neg q59]; omega), by omega, by first | exact fun z => z.1 q135 | (rintro ⟨-, z⟩; omega)⟩]; decide)] at a3
                             exact a3)
                      · exact absurd q181 (by decide)
              · simp only [nI_clamp (show j < 2 ^ 31 by omega)] at q146
                refine z_iconst (v := 1) C dX10_freeOn_149 (by decide) ?_
                refine z_goto (tgt := 154) C dX10_freeOn_150 (by decide) ?_
                refine z_istore (lv' := [some (.ref 41), some (.int _), some (.int sg), some (.int mi), some (.int _), some (.int _), some (.int _), some (.int _), some (.int _)]) C dX10_freeOn_154 (by decide) rfl ?_
                refine z_aload_n C dX10_freeOn_156 rfl ?_
                refine zs_getR C dX10_freeOn_157 zf_X10_143 zk_41 (by decide) (zr_41_63 n) ?_
                refine z_iload C dX10_freeOn_160 rfl ?_
                refine z_iald C dX10_freeOn_162 zk_84 (by decide) ?_ ?_
                · exact vp_in_nI (by omega) (by decide)
                refine z_iload_n C dX10_freeOn_163 rfl ?_
                refine z_icmp_ne (tgt := 187) C dX10_freeOn_164 (by decide) (fun q164 => ?_) (fun q164 => ?_)
                · simp only [nI_clamp (show j < 2 ^ 31 by omega)] at q164
                  refine z_iinc (y := 1) (lv' := [some (.ref 41), some (.int _), some (.int sg), some (.int mi), some (.int _), some (.int _), some (.int _), some (.int _), some (.int _)]) C dX10_freeOn_187 rfl (by decide) (by decide) rfl ?_
                  refine z_goto (tgt := 36) C dX10_freeOn_190 (by decide) ?_
                  refine z_sub z_drop678 ?_
                  rw [nI_1 j]
                  have a3 := ih (j + 1) (by omega)
                  rw [zdown_s] at a3
                  first
                    | (rw [if_pos (show (zmtk (iv 84) (iv 85) (iv 86) (iv 87) (iv 88) (iv 89) (nI i) sg mi) j = 0 from zb_f (by
                         rintro ⟨z1, z2, z3, z4, z5⟩
                         first
                           | exact absurd z1 q164
                           | (first | rw [if_pos q59] at z2 | rw [if_neg q59] at z2); omega
                           | (first | rw [if_pos q59] at z3 | rw [if_neg q59] at z3); omega
                           | omega
                           | exact z5 ⟨q135, by omega⟩))] at a3
                       exact a3)
                    | (rw [if_neg (show ¬ (zmtk (iv 84) (iv 85) (iv 86) (iv 87) (iv 88) (iv 89) (nI i) sg mi) j = 0 by
                         rw [show (zmtk (iv 84) (iv 85) (iv 86) (iv 87) (iv 88) (iv 89) (nI i) sg mi) j = 1 from zb_t ⟨q164, by first | (rw [if_pos q59]; omega) | (rw [if_neg q59]; omega), by first | (rw [if_pos q59]; omega) | (rw [if_neg q59]; omega), by omega, by first | exact fun z => z.1 q135 | (rintro ⟨-, z⟩; omega)⟩]; decide)] at a3
                       exact a3)
                · simp only [nI_clamp (show j < 2 ^ 31 by omega)] at q164
                  refine z_iload_n C dX10_freeOn_167 rfl ?_
                  refine z_iload C dX10_freeOn_168 rfl ?_
                  refine zt_icmp_lt (tgt := 187) C dX10_freeOn_170 rfl rfl (by decide) (fun q170 => ?_) (fun q170 => ?_)
                  · simp only [nI_clamp (show j < 2 ^ 31 by omega)] at q170
                    refine z_iinc (y := 1) (lv' := [some (.ref 41), some (.int _), some (.int sg), some (.int mi), some (.int _), some (.int _), some (.int _), some (.int _), some (.int _)]) C dX10_freeOn_187 rfl (by decide) (by decide) rfl ?_
                    refine z_goto (tgt := 36) C dX10_freeOn_190 (by decide) ?_
                    refine z_sub z_drop678 ?_
                    rw [nI_1 j]
                    have a3 := ih (j + 1) (by omega)
                    rw [zdown_s] at a3
                    first
                      | (rw [if_pos (show (zmtk (iv 84) (iv 85) (iv 86) (iv 87) (iv 88) (iv 89) (nI i) sg mi) j = 0 from zb_f (by
                           rintro ⟨z1, z2, z3, z4, z5⟩
                           first
                             | exact absurd z1 q164
                             | (first | rw [if_pos q59] at z2 | rw [if_neg q59] at z2); omega
                             | (first | rw [if_pos q59] at z3 | rw [if_neg q59] at z3); omega
                             | omega
                             | exact z5 ⟨q135, by omega⟩))] at a3
                         exact a3)
                      | (rw [if_neg (show ¬ (zmtk (iv 84) (iv 85) (iv 86) (iv 87) (iv 88) (iv 89) (nI i) sg mi) j = 0 by
                           rw [show (zmtk (iv 84) (iv 85) (iv 86) (iv 87) (iv 88) (iv 89) (nI i) sg mi) j = 1 from zb_t ⟨q164, by first | (rw [if_pos q59]; omega) | (rw [if_neg q59]; omega), by first | (rw [if_pos q59]; omega) | (rw [if_neg q59]; omega), by omega, by first | exact fun z => z.1 q135 | (rintro ⟨-, z⟩; omega)⟩]; decide)] at a3
                         exact a3)
                  · simp only [nI_clamp (show j < 2 ^ 31 by omega)] at q170
                    refine z_iload_n C dX10_freeOn_173 rfl ?_
                    refine z_iload C dX10_freeOn_174 rfl ?_
                    refine zt_icmp_ge (tgt := 187) C dX10_freeOn_176 rfl rfl (by decide) (fun q176 => ?_) (fun q176 => ?_)
                    · simp only [nI_clamp (show j < 2 ^ 31 by omega)] at q176
                      refine z_iinc (y := 1) (lv' := [some (.ref 41), some (.int _), some (.int sg), some (.int mi), some (.int _), some (.int _), some (.int _), some (.int _), some (.int _)]) C dX10_freeOn_187 rfl (by decide) (by decide) rfl ?_
                      refine z_goto (tgt := 36) C dX10_freeOn_190 (by decide) ?_
                      refine z_sub z_drop678 ?_
                      rw [nI_1 j]
                      have a3 := ih (j + 1) (by omega)
                      rw [zdown_s] at a3
                      first
                        | (rw [if_pos (show (zmtk (iv 84) (iv 85) (iv 86) (iv 87) (iv 88) (iv 89) (nI i) sg mi) j = 0 from zb_f (by
                             rintro ⟨z1, z2, z3, z4, z5⟩
                             first
                               | exact absurd z1 q164
                               | (first | rw [if_pos q59] at z2 | rw [if_neg q59] at z2); omega
                               | (first | rw [if_pos q59] at z3 | rw [if_neg q59] at z3); omega
                               | omega
                               | exact z5 ⟨q135, by omega⟩))] at a3
                           exact a3)
                        | (rw [if_neg (show ¬ (zmtk (iv 84) (iv 85) (iv 86) (iv 87) (iv 88) (iv 89) (nI i) sg mi) j = 0 by
                             rw [show (zmtk (iv 84) (iv 85) (iv 86) (iv 87) (iv 88) (iv 89) (nI i) sg mi) j = 1 from zb_t ⟨q164, by first | (rw [if_pos q59]; omega) | (rw [if_neg q59]; omega), by first | (rw [if_pos q59]; omega) | (rw [if_neg q59]; omega), by omega, by first | exact fun z => z.1 q135 | (rintro ⟨-, z⟩; omega)⟩]; decide)] at a3
                           exact a3)
                    · simp only [nI_clamp (show j < 2 ^ 31 by omega)] at q176
                      refine z_iload C dX10_freeOn_179 rfl ?_
                      refine z_if_eq (tgt := 187) C dX10_freeOn_181 (by decide) (fun q181 => ?_) (fun q181 => ?_)
                      · exact absurd q181 (by decide)
                      · refine z_iinc (y := (-1)) (lv' := [some (.ref 41), some (.int _), some (.int sg), some (.int mi), some (.int _), some (.int _), some (.int _), some (.int _), some (.int _)]) C dX10_freeOn_184 rfl (by decide) (by decide) rfl ?_
                        refine z_iinc (y := 1) (lv' := [some (.ref 41), some (.int _), some (.int sg), some (.int mi), some (.int _), some (.int _), some (.int _), some (.int _), some (.int _)]) C dX10_freeOn_187 rfl (by decide) (by decide) rfl ?_
                        refine z_goto (tgt := 36) C dX10_freeOn_190 (by decide) ?_
                        refine z_sub z_drop678 ?_
                        rw [nI_1 j]
                        have a3 := ih (j + 1) (by omega)
                        rw [zdown_s] at a3
                        first
                          | (rw [if_pos (show (zmtk (iv 84) (iv 85) (iv 86) (iv 87) (iv 88) (iv 89) (nI i) sg mi) j = 0 from zb_f (by
                               rintro ⟨z1, z2, z3, z4, z5⟩
                               first
                                 | exact absurd z1 q164
                                 | (first | rw [if_pos q59] at z2 | rw [if_neg q59] at z2); omega
                                 | (first | rw [if_pos q59] at z3 | rw [if_neg q59] at z3); omega
                                 | omega
                                 | exact z5 ⟨q135, by omega⟩))] at a3
                             exact a3)
                          | (rw [if_neg (show ¬ (zmtk (iv 84) (iv 85) (iv 86) (iv 87) (iv 88) (iv 89) (nI i) sg mi) j = 0 by
                               rw [show (zmtk (iv 84) (iv 85) (iv 86) (iv 87) (iv 88) (iv 89) (nI i) sg mi) j = 1 from zb_t ⟨q164, by first | (rw [if_pos q59]; omega) | (rw [if_neg q59]; omega), by first | (rw [if_pos q59]; omega) | (rw [if_neg q59]; omega), by omega, by first | exact fun z => z.1 q135 | (rintro ⟨-, z⟩; omega)⟩]; decide)] at a3
                             exact a3)
        · simp only [nI_clamp (show j < 2 ^ 31 by omega)] at q95
          exfalso; omega
      · simp only [nI_clamp (show j < 2 ^ 31 by omega)] at q59
        have q59 : (iv 85 j).toInt < (iv 86 j).toInt := by omega
        refine z_aload_n C dX10_freeOn_62 rfl ?_
        refine zs_getR C dX10_freeOn_63 zf_X10_146 zk_41 (by decide) (zr_41_64 n) ?_
        refine z_iload C dX10_freeOn_66 rfl ?_
        refine z_iald C dX10_freeOn_68 zk_85 (by decide) ?_ ?_
        · exact vp_in_nI (by omega) (by decide)
        refine z_goto (tgt := 79) C dX10_freeOn_69 (by decide) ?_
        refine z_istore (lv' := [some (.ref 41), some (.int _), some (.int sg), some (.int mi), some (.int _), some (.int _), some (.int _), none, none]) C dX10_freeOn_79 (by decide) rfl ?_
        refine z_aload_n C dX10_freeOn_81 rfl ?_
        refine zs_getR C dX10_freeOn_82 zf_X10_146 zk_41 (by decide) (zr_41_64 n) ?_
        refine z_iload C dX10_freeOn_85 rfl ?_
        refine z_iald C dX10_freeOn_87 zk_85 (by decide) ?_ ?_
        · exact vp_in_nI (by omega) (by decide)
        refine z_aload_n C dX10_freeOn_88 rfl ?_
        refine zs_getR C dX10_freeOn_89 zf_X10_149 zk_41 (by decide) (zr_41_65 n) ?_
        refine z_iload C dX10_freeOn_92 rfl ?_
        refine z_iald C dX10_freeOn_94 zk_86 (by decide) ?_ ?_
        · exact vp_in_nI (by omega) (by decide)
        refine zt_icmp_ge (tgt := 108) C dX10_freeOn_95 rfl rfl (by decide) (fun q95 => ?_) (fun q95 => ?_)
        · simp only [nI_clamp (show j < 2 ^ 31 by omega)] at q95
          exfalso; omega
        · simp only [nI_clamp (show j < 2 ^ 31 by omega)] at q95
          refine z_aload_n C dX10_freeOn_98 rfl ?_
          refine zs_getR C dX10_freeOn_99 zf_X10_149 zk_41 (by decide) (zr_41_65 n) ?_
          refine z_iload C dX10_freeOn_102 rfl ?_
          refine z_iald C dX10_freeOn_104 zk_86 (by decide) ?_ ?_
          · exact vp_in_nI (by omega) (by decide)
          refine z_goto (tgt := 115) C dX10_freeOn_105 (by decide) ?_
          refine z_istore (lv' := [some (.ref 41), some (.int _), some (.int sg), some (.int mi), some (.int _), some (.int _), some (.int _), some (.int _), none]) C dX10_freeOn_115 (by decide) rfl ?_
          refine z_aload_n C dX10_freeOn_117 rfl ?_
          refine zs_getR C dX10_freeOn_118 zf_X10_152 zk_41 (by decide) (zr_41_66 n) ?_
          refine z_iload C dX10_freeOn_121 rfl ?_
          refine z_iald C dX10_freeOn_123 zk_87 (by decide) ?_ ?_
          · exact vp_in_nI (by omega) (by decide)
          refine z_iload_n C dX10_freeOn_124 rfl ?_
          refine zt_icmp_gt (tgt := 153) C dX10_freeOn_125 rfl rfl (by decide) (fun q125 => ?_) (fun q125 => ?_)
          · simp only [nI_clamp (show j < 2 ^ 31 by omega)] at q125
            refine z_iconst (v := 0) C dX10_freeOn_153 (by decide) ?_
            refine z_istore (lv' := [some (.ref 41), some (.int _), some (.int sg), some (.int mi), some (.int _), some (.int _), some (.int _), some (.int _), some (.int _)]) C dX10_freeOn_154 (by decide) rfl ?_
            refine z_aload_n C dX10_freeOn_156 rfl ?_
            refine zs_getR C dX10_freeOn_157 zf_X10_143 zk_41 (by decide) (zr_41_63 n) ?_
            refine z_iload C dX10_freeOn_160 rfl ?_
            refine z_iald C dX10_freeOn_162 zk_84 (by decide) ?_ ?_
            · exact vp_in_nI (by omega) (by decide)
            refine z_iload_n C dX10_freeOn_163 rfl ?_
            refine z_icmp_ne (tgt := 187) C dX10_freeOn_164 (by decide) (fun q164 => ?_) (fun q164 => ?_)
            · simp only [nI_clamp (show j < 2 ^ 31 by omega)] at q164
              refine z_iinc (y := 1) (lv' := [some (.ref 41), some (.int _), some (.int sg), some (.int mi), some (.int _), some (.int _), some (.int _), some (.int _), some (.int _)]) C dX10_freeOn_187 rfl (by decide) (by decide) rfl ?_
              refine z_goto (tgt := 36) C dX10_freeOn_190 (by decide) ?_
              refine z_sub z_drop678 ?_
              rw [nI_1 j]
              have a3 := ih (j + 1) (by omega)
              rw [zdown_s] at a3
              first
                | (rw [if_pos (show (zmtk (iv 84) (iv 85) (iv 86) (iv 87) (iv 88) (iv 89) (nI i) sg mi) j = 0 from zb_f (by
                     rintro ⟨z1, z2, z3, z4, z5⟩
                     first
                       | exact absurd z1 q164
                       | (first | rw [if_pos q59] at z2 | rw [if_neg q59] at z2); omega
                       | (first | rw [if_pos q59] at z3 | rw [if_neg q59] at z3); omega
                       | omega
                       | exact z5 ⟨q135, by omega⟩))] at a3
                   exact a3)
                | (rw [if_neg (show ¬ (zmtk (iv 84) (iv 85) (iv 86) (iv 87) (iv 88) (iv 89) (nI i) sg mi) j = 0 by
                     rw [show (zmtk (iv 84) (iv 85) (iv 86) (iv 87) (iv 88) (iv 89) (nI i) sg mi) j = 1 from zb_t ⟨q164, by first | (rw [if_pos q59]; omega) | (rw [if_neg q59]; omega), by first | (rw [if_pos q59]; omega) | (rw [if_neg q59]; omega), by omega, by first | exact fun z => z.1 q135 | (rintro ⟨-, z⟩; omega)⟩]; decide)] at a3
                   exact a3)
            · simp only [nI_clamp (show j < 2 ^ 31 by omega)] at q164
              refine z_iload_n C dX10_freeOn_167 rfl ?_
              refine z_iload C dX10_freeOn_168 rfl ?_
              refine zt_icmp_lt (tgt := 187) C dX10_freeOn_170 rfl rfl (by decide) (fun q170 => ?_) (fun q170 => ?_)
              · simp only [nI_clamp (show j < 2 ^ 31 by omega)] at q170
                refine z_iinc (y := 1) (lv' := [some (.ref 41), some (.int _), some (.int sg), some (.int mi), some (.int _), some (.int _), some (.int _), some (.int _), some (.int _)]) C dX10_freeOn_187 rfl (by decide) (by decide) rfl ?_
                refine z_goto (tgt := 36) C dX10_freeOn_190 (by decide) ?_
                refine z_sub z_drop678 ?_
                rw [nI_1 j]
                have a3 := ih (j + 1) (by omega)
                rw [zdown_s] at a3
                first
                  | (rw [if_pos (show (zmtk (iv 84) (iv 85) (iv 86) (iv 87) (iv 88) (iv 89) (nI i) sg mi) j = 0 from zb_f (by
                       rintro ⟨z1, z2, z3, z4, z5⟩
                       first
                         | exact absurd z1 q164
                         | (first | rw [if_pos q59] at z2 | rw [if_neg q59] at z2); omega
                         | (first | rw [if_pos q59] at z3 | rw [if_neg q59] at z3); omega
                         | omega
                         | exact z5 ⟨q135, by omega⟩))] at a3
                     exact a3)
                  | (rw [if_neg (show ¬ (zmtk (iv 84) (iv 85) (iv 86) (iv 87) (iv 88) (iv 89) (nI i) sg mi) j = 0 by
                       rw [show (zmtk (iv 84) (iv 85) (iv 86) (iv 87) (iv 88) (iv 89) (nI i) sg mi) j = 1 from zb_t ⟨q164, by first | (rw [if_pos q59]; omega) | (rw [if_neg q59]; omega), by first | (rw [if_pos q59]; omega) | (rw [if_neg q59]; omega), by omega, by first | exact fun z => z.1 q135 | (rintro ⟨-, z⟩; omega)⟩]; decide)] at a3
                     exact a3)
              · simp only [nI_clamp (show j < 2 ^ 31 by omega)] at q170
                refine z_iload_n C dX10_freeOn_173 rfl ?_
                refine z_iload C dX10_freeOn_174 rfl ?_
                refine zt_icmp_ge (tgt := 187) C dX10_freeOn_176 rfl rfl (by decide) (fun q176 => ?_) (fun q176 => ?_)
                · simp only [nI_clamp (show j < 2 ^ 31 by omega)] at q176
                  refine z_iinc (y := 1) (lv' := [some (.ref 41), some (.int _), some (.int sg), some (.int mi), some (.int _), some (.int _), some (.int _), some (.int _), some (.int _)]) C dX10_freeOn_187 rfl (by decide) (by decide) rfl ?_
                  refine z_goto (tgt := 36) C dX10_freeOn_190 (by decide) ?_
                  refine z_sub z_drop678 ?_
                  rw [nI_1 j]
                  have a3 := ih (j + 1) (by omega)
                  rw [zdown_s] at a3
                  first
                    | (rw [if_pos (show (zmtk (iv 84) (iv 85) (iv 86) (iv 87) (iv 88) (iv 89) (nI i) sg mi) j = 0 from zb_f (by
                         rintro ⟨z1, z2, z3, z4, z5⟩
                         first
                           | exact absurd z1 q164
                           | (first | rw [if_pos q59] at z2 | rw [if_neg q59] at z2); omega
                           | (first | rw [if_pos q59] at z3 | rw [if_neg q59] at z3); omega
                           | omega
                           | exact z5 ⟨q135, by omega⟩))] at a3
                       exact a3)
                    | (rw [if_neg (show ¬ (zmtk (iv 84) (iv 85) (iv 86) (iv 87) (iv 88) (iv 89) (nI i) sg mi) j = 0 by
                         rw [show (zmtk (iv 84) (iv 85) (iv 86) (iv 87) (iv 88) (iv 89) (nI i) sg mi) j = 1 from zb_t ⟨q164, by first | (rw [if_pos q59]; omega) | (rw [if_neg q59]; omega), by first | (rw [if_pos q59]; omega) | (rw [if_neg q59]; omega), by omega, by first | exact fun z => z.1 q135 | (rintro ⟨-, z⟩; omega)⟩]; decide)] at a3
                       exact a3)
                · simp only [nI_clamp (show j < 2 ^ 31 by omega)] at q176
                  refine z_iload C dX10_freeOn_179 rfl ?_
                  refine z_if_eq (tgt := 187) C dX10_freeOn_181 (by decide) (fun q181 => ?_) (fun q181 => ?_)
                  · refine z_iinc (y := 1) (lv' := [some (.ref 41), some (.int _), some (.int sg), some (.int mi), some (.int _), some (.int _), some (.int _), some (.int _), some (.int _)]) C dX10_freeOn_187 rfl (by decide) (by decide) rfl ?_
                    refine z_goto (tgt := 36) C dX10_freeOn_190 (by decide) ?_
                    refine z_sub z_drop678 ?_
                    rw [nI_1 j]
                    have a3 := ih (j + 1) (by omega)
                    rw [zdown_s] at a3
                    first
                      | (rw [if_pos (show (zmtk (iv 84) (iv 85) (iv 86) (iv 87) (iv 88) (iv 89) (nI i) sg mi) j = 0 from zb_f (by
                           rintro ⟨z1, z2, z3, z4, z5⟩
                           first
                             | exact absurd z1 q164
                             | (first | rw [if_pos q59] at z2 | rw [if_neg q59] at z2); omega
                             | (first | rw [if_pos q59] at z3 | rw [if_neg q59] at z3); omega
                             | omega
                             | exact z5 ⟨q135, by omega⟩))] at a3
                         exact a3)
                      | (rw [if_neg (show ¬ (zmtk (iv 84) (iv 85) (iv 86) (iv 87) (iv 88) (iv 89) (nI i) sg mi) j = 0 by
                           rw [show (zmtk (iv 84) (iv 85) (iv 86) (iv 87) (iv 88) (iv 89) (nI i) sg mi) j = 1 from zb_t ⟨q164, by first | (rw [if_pos q59]; omega) | (rw [if_neg q59]; omega), by first | (rw [if_pos q59]; omega) | (rw [if_neg q59]; omega), by omega, by first | exact fun z => z.1 q135 | (rintro ⟨-, z⟩; omega)⟩]; decide)] at a3
                         exact a3)
                  · exact absurd q181 (by decide)
          · simp only [nI_clamp (show j < 2 ^ 31 by omega)] at q125
            refine z_aload_n C dX10_freeOn_128 rfl ?_
            refine zs_getR C dX10_freeOn_129 zf_X10_158 zk_41 (by decide) (zr_41_68 n) ?_
            refine z_iload C dX10_freeOn_132 rfl ?_
            refine z_zald C dX10_freeOn_134 zk_89 (by decide) ?_ ?_
            · exact vp_in_nI (by omega) (by decide)
            refine z_if_eq (tgt := 149) C dX10_freeOn_135 (by decide) (fun q135 => ?_) (fun q135 => ?_)
            · simp only [nI_clamp (show j < 2 ^ 31 by omega)] at q135
              refine z_iconst (v := 1) C dX10_freeOn_149 (by decide) ?_
              refine z_goto (tgt := 154) C dX10_freeOn_150 (by decide) ?_
              refine z_istore (lv' := [some (.ref 41), some (.int _), some (.int sg), some (.int mi), some (.int _), some (.int _), some (.int _), some (.int _), some (.int _)]) C dX10_freeOn_154 (by decide) rfl ?_
              refine z_aload_n C dX10_freeOn_156 rfl ?_
              refine zs_getR C dX10_freeOn_157 zf_X10_143 zk_41 (by decide) (zr_41_63 n) ?_
              refine z_iload C dX10_freeOn_160 rfl ?_
              refine z_iald C dX10_freeOn_162 zk_84 (by decide) ?_ ?_
              · exact vp_in_nI (by omega) (by decide)
              refine z_iload_n C dX10_freeOn_163 rfl ?_
              refine z_icmp_ne (tgt := 187) C dX10_freeOn_164 (by decide) (fun q164 => ?_) (fun q164 => ?_)
              · simp only [nI_clamp (show j < 2 ^ 31 by omega)] at q164
                refine z_iinc (y := 1) (lv' := [some (.ref 41), some (.int _), some (.int sg), some (.int mi), some (.int _), some (.int _), some (.int _), some (.int _), some (.int _)]) C dX10_freeOn_187 rfl (by decide) (by decide) rfl ?_
                refine z_goto (tgt := 36) C dX10_freeOn_190 (by decide) ?_
                refine z_sub z_drop678 ?_
                rw [nI_1 j]
                have a3 := ih (j + 1) (by omega)
                rw [zdown_s] at a3
                first
                  | (rw [if_pos (show (zmtk (iv 84) (iv 85) (iv 86) (iv 87) (iv 88) (iv 89) (nI i) sg mi) j = 0 from zb_f (by
                       rintro ⟨z1, z2, z3, z4, z5⟩
                       first
                         | exact absurd z1 q164
                         | (first | rw [if_pos q59] at z2 | rw [if_neg q59] at z2); omega
                         | (first | rw [if_pos q59] at z3 | rw [if_neg q59] at z3); omega
                         | omega
                         | exact z5 ⟨q135, by omega⟩))] at a3
                     exact a3)
                  | (rw [if_neg (show ¬ (zmtk (iv 84) (iv 85) (iv 86) (iv 87) (iv 88) (iv 89) (nI i) sg mi) j = 0 by
                       rw [show (zmtk (iv 84) (iv 85) (iv 86) (iv 87) (iv 88) (iv 89) (nI i) sg mi) j = 1 from zb_t ⟨q164, by first | (rw [if_pos q59]; omega) | (rw [if_neg q59]; omega), by first | (rw [if_pos q59]; omega) | (rw [if_neg q59]; omega), by omega, by first | exact fun z => z.1 q135 | (rintro ⟨-, z⟩; omega)⟩]; decide)] at a3
                     exact a3)
              · simp only [nI_clamp (show j < 2 ^ 31 by omega)] at q164
                refine z_iload_n C dX10_freeOn_167 rfl ?_
                refine z_iload C dX10_freeOn_168 rfl ?_
                refine zt_icmp_lt (tgt := 187) C dX10_freeOn_170 rfl rfl (by decide) (fun q170 => ?_) (fun q170 => ?_)
                · simp only [nI_clamp (show j < 2 ^ 31 by omega)] at q170
                  refine z_iinc (y := 1) (lv' := [some (.ref 41), some (.int _), some (.int sg), some (.int mi), some (.int _), some (.int _), some (.int _), some (.int _), some (.int _)]) C dX10_freeOn_187 rfl (by decide) (by decide) rfl ?_
                  refine z_goto (tgt := 36) C dX10_freeOn_190 (by decide) ?_
                  refine z_sub z_drop678 ?_
                  rw [nI_1 j]
                  have a3 := ih (j + 1) (by omega)
                  rw [zdown_s] at a3
                  first
                    | (rw [if_pos (show (zmtk (iv 84) (iv 85) (iv 86) (iv 87) (iv 88) (iv 89) (nI i) sg mi) j = 0 from zb_f (by
                         rintro ⟨z1, z2, z3, z4, z5⟩
                         first
                           | exact absurd z1 q164
                           | (first | rw [if_pos q59] at z2 | rw [if_neg q59] at z2); omega
                           | (first | rw [if_pos q59] at z3 | rw [if_neg q59] at z3); omega
                           | omega
                           | exact z5 ⟨q135, by omega⟩))] at a3
                       exact a3)
                    | (rw [if_neg (show ¬ (zmtk (iv 84) (iv 85) (iv 86) (iv 87) (iv 88) (iv 89) (nI i) sg mi) j = 0 by
                         rw [show (zmtk (iv 84) (iv 85) (iv 86) (iv 87) (iv 88) (iv 89) (nI i) sg mi) j = 1 from zb_t ⟨q164, by first | (rw [if_pos q59]; omega) | (rw [if_neg q59]; omega), by first | (rw [if_pos q59]; omega) | (rw [if_neg q59]; omega), by omega, by first | exact fun z => z.1 q135 | (rintro ⟨-, z⟩; omega)⟩]; decide)] at a3
                       exact a3)
                · simp only [nI_clamp (show j < 2 ^ 31 by omega)] at q170
                  refine z_iload_n C dX10_freeOn_173 rfl ?_
                  refine z_iload C dX10_freeOn_174 rfl ?_
                  refine zt_icmp_ge (tgt := 187) C dX10_freeOn_176 rfl rfl (by decide) (fun q176 => ?_) (fun q176 => ?_)
                  · simp only [nI_clamp (show j < 2 ^ 31 by omega)] at q176
                    refine z_iinc (y := 1) (lv' := [some (.ref 41), some (.int _), some (.int sg), some (.int mi), some (.int _), some (.int _), some (.int _), some (.int _), some (.int _)]) C dX10_freeOn_187 rfl (by decide) (by decide) rfl ?_
                    refine z_goto (tgt := 36) C dX10_freeOn_190 (by decide) ?_
                    refine z_sub z_drop678 ?_
                    rw [nI_1 j]
                    have a3 := ih (j + 1) (by omega)
                    rw [zdown_s] at a3
                    first
                      | (rw [if_pos (show (zmtk (iv 84) (iv 85) (iv 86) (iv 87) (iv 88) (iv 89) (nI i) sg mi) j = 0 from zb_f (by
                           rintro ⟨z1, z2, z3, z4, z5⟩
                           first
                             | exact absurd z1 q164
                             | (first | rw [if_pos q59] at z2 | rw [if_neg q59] at z2); omega
                             | (first | rw [if_pos q59] at z3 | rw [if_neg q59] at z3); omega
                             | omega
                             | exact z5 ⟨q135, by omega⟩))] at a3
                         exact a3)
                      | (rw [if_neg (show ¬ (zmtk (iv 84) (iv 85) (iv 86) (iv 87) (iv 88) (iv 89) (nI i) sg mi) j = 0 by
                           rw [show (zmtk (iv 84) (iv 85) (iv 86) (iv 87) (iv 88) (iv 89) (nI i) sg mi) j = 1 from zb_t ⟨q164, by first | (rw [if_pos q59]; omega) | (rw [if_neg q59]; omega), by first | (rw [if_pos q59]; omega) | (rw [if_neg q59]; omega), by omega, by first | exact fun z => z.1 q135 | (rintro ⟨-, z⟩; omega)⟩]; decide)] at a3
                         exact a3)
                  · simp only [nI_clamp (show j < 2 ^ 31 by omega)] at q176
                    refine z_iload C dX10_freeOn_179 rfl ?_
                    refine z_if_eq (tgt := 187) C dX10_freeOn_181 (by decide) (fun q181 => ?_) (fun q181 => ?_)
                    · exact absurd q181 (by decide)
                    · refine z_iinc (y := (-1)) (lv' := [some (.ref 41), some (.int _), some (.int sg), some (.int mi), some (.int _), some (.int _), some (.int _), some (.int _), some (.int _)]) C dX10_freeOn_184 rfl (by decide) (by decide) rfl ?_
                      refine z_iinc (y := 1) (lv' := [some (.ref 41), some (.int _), some (.int sg), some (.int mi), some (.int _), some (.int _), some (.int _), some (.int _), some (.int _)]) C dX10_freeOn_187 rfl (by decide) (by decide) rfl ?_
                      refine z_goto (tgt := 36) C dX10_freeOn_190 (by decide) ?_
                      refine z_sub z_drop678 ?_
                      rw [nI_1 j]
                      have a3 := ih (j + 1) (by omega)
                      rw [zdown_s] at a3
                      first
                        | (rw [if_pos (show (zmtk (iv 84) (iv 85) (iv 86) (iv 87) (iv 88) (iv 89) (nI i) sg mi) j = 0 from zb_f (by
                             rintro ⟨z1, z2, z3, z4, z5⟩
                             first
                               | exact absurd z1 q164
                               | (first | rw [if_pos q59] at z2 | rw [if_neg q59] at z2); omega
                               | (first | rw [if_pos q59] at z3 | rw [if_neg q59] at z3); omega
                               | omega
                               | exact z5 ⟨q135, by omega⟩))] at a3
                           exact a3)
                        | (rw [if_neg (show ¬ (zmtk (iv 84) (iv 85) (iv 86) (iv 87) (iv 88) (iv 89) (nI i) sg mi) j = 0 by
                             rw [show (zmtk (iv 84) (iv 85) (iv 86) (iv 87) (iv 88) (iv 89) (nI i) sg mi) j = 1 from zb_t ⟨q164, by first | (rw [if_pos q59]; omega) | (rw [if_neg q59]; omega), by first | (rw [if_pos q59]; omega) | (rw [if_neg q59]; omega), by omega, by first | exact fun z => z.1 q135 | (rintro ⟨-, z⟩; omega)⟩]; decide)] at a3
                           exact a3)
            · simp only [nI_clamp (show j < 2 ^ 31 by omega)] at q135
              refine z_aload_n C dX10_freeOn_138 rfl ?_
              refine zs_getR C dX10_freeOn_139 zf_X10_155 zk_41 (by decide) (zr_41_67 n) ?_
              refine z_iload C dX10_freeOn_142 rfl ?_
              refine z_iald C dX10_freeOn_144 zk_88 (by decide) ?_ ?_
              · exact vp_in_nI (by omega) (by decide)
              refine z_iload_n C dX10_freeOn_145 rfl ?_
              refine zt_icmp_le (tgt := 153) C dX10_freeOn_146 rfl rfl (by decide) (fun q146 => ?_) (fun q146 => ?_)
              · simp only [nI_clamp (show j < 2 ^ 31 by omega)] at q146
                refine z_iconst (v := 0) C dX10_freeOn_153 (by decide) ?_
                refine z_istore (lv' := [some (.ref 41), some (.int _), some (.int sg), some (.int mi), some (.int _), some (.int _), some (.int _), some (.int _), some (.int _)]) C dX10_freeOn_154 (by decide) rfl ?_
                refine z_aload_n C dX10_freeOn_156 rfl ?_
                refine zs_getR C dX10_freeOn_157 zf_X10_143 zk_41 (by decide) (zr_41_63 n) ?_
                refine z_iload C dX10_freeOn_160 rfl ?_
                refine z_iald C dX10_freeOn_162 zk_84 (by decide) ?_ ?_
                · exact vp_in_nI (by omega) (by decide)
                refine z_iload_n C dX10_freeOn_163 rfl ?_
                refine z_icmp_ne (tgt := 187) C dX10_freeOn_164 (by decide) (fun q164 => ?_) (fun q164 => ?_)
                · simp only [nI_clamp (show j < 2 ^ 31 by omega)] at q164
                  refine z_iinc (y := 1) (lv' := [some (.ref 41), some (.int _), some (.int sg), some (.int mi), some (.int _), some (.int _), some (.int _), some (.int _), some (.int _)]) C dX10_freeOn_187 rfl (by decide) (by decide) rfl ?_
                  refine z_goto (tgt := 36) C dX10_freeOn_190 (by decide) ?_
                  refine z_sub z_drop678 ?_
                  rw [nI_1 j]
                  have a3 := ih (j + 1) (by omega)
                  rw [zdown_s] at a3
                  first
                    | (rw [if_pos (show (zmtk (iv 84) (iv 85) (iv 86) (iv 87) (iv 88) (iv 89) (nI i) sg mi) j = 0 from zb_f (by
                         rintro ⟨z1, z2, z3, z4, z5⟩
                         first
                           | exact absurd z1 q164
                           | (first | rw [if_pos q59] at z2 | rw [if_neg q59] at z2); omega
                           | (first | rw [if_pos q59] at z3 | rw [if_neg q59] at z3); omega
                           | omega
                           | exact z5 ⟨q135, by omega⟩))] at a3
                       exact a3)
                    | (rw [if_neg (show ¬ (zmtk (iv 84) (iv 85) (iv 86) (iv 87) (iv 88) (iv 89) (nI i) sg mi) j = 0 by
                         rw [show (zmtk (iv 84) (iv 85) (iv 86) (iv 87) (iv 88) (iv 89) (nI i) sg mi) j = 1 from zb_t ⟨q164, by first | (rw [if_pos q59]; omega) | (rw [if_neg q59]; omega), by first | (rw [if_pos q59]; omega) | (rw [if_neg q59]; omega), by omega, by first | exact fun z => z.1 q135 | (rintro ⟨-, z⟩; omega)⟩]; decide)] at a3
                       exact a3)
                · simp only [nI_clamp (show j < 2 ^ 31 by omega)] at q164
                  refine z_iload_n C dX10_freeOn_167 rfl ?_
                  refine z_iload C dX10_freeOn_168 rfl ?_
                  refine zt_icmp_lt (tgt := 187) C dX10_freeOn_170 rfl rfl (by decide) (fun q170 => ?_) (fun q170 => ?_)
                  · simp only [nI_clamp (show j < 2 ^ 31 by omega)] at q170
                    refine z_iinc (y := 1) (lv' := [some (.ref 41), some (.int _), some (.int sg), some (.int mi), some (.int _), some (.int _), some (.int _), some (.int _), some (.int _)]) C dX10_freeOn_187 rfl (by decide) (by decide) rfl ?_
                    refine z_goto (tgt := 36) C dX10_freeOn_190 (by decide) ?_
                    refine z_sub z_drop678 ?_
                    rw [nI_1 j]
                    have a3 := ih (j + 1) (by omega)
                    rw [zdown_s] at a3
                    first
                      | (rw [if_pos (show (zmtk (iv 84) (iv 85) (iv 86) (iv 87) (iv 88) (iv 89) (nI i) sg mi) j = 0 from zb_f (by
                           rintro ⟨z1, z2, z3, z4, z5⟩
                           first
                             | exact absurd z1 q164
                             | (first | rw [if_pos q59] at z2 | rw [if_neg q59] at z2); omega
                             | (first | rw [if_pos q59] at z3 | rw [if_neg q59] at z3); omega
                             | omega
                             | exact z5 ⟨q135, by omega⟩))] at a3
                         exact a3)
                      | (rw [if_neg (show ¬ (zmtk (iv 84) (iv 85) (iv 86) (iv 87) (iv 88) (iv 89) (nI i) sg mi) j = 0 by
                           rw [show (zmtk (iv 84) (iv 85) (iv 86) (iv 87) (iv 88) (iv 89) (nI i) sg mi) j = 1 from zb_t ⟨q164, by first | (rw [if_pos q59]; omega) | (rw [if_neg q59]; omega), by first | (rw [if_pos q59]; omega) | (rw [if_neg q59]; omega), by omega, by first | exact fun z => z.1 q135 | (rintro ⟨-, z⟩; omega)⟩]; decide)] at a3
                         exact a3)
                  · simp only [nI_clamp (show j < 2 ^ 31 by omega)] at q170
                    refine z_iload_n C dX10_freeOn_173 rfl ?_
                    refine z_iload C dX10_freeOn_174 rfl ?_
                    refine zt_icmp_ge (tgt := 187) C dX10_freeOn_176 rfl rfl (by decide) (fun q176 => ?_) (fun q176 => ?_)
                    · simp only [nI_clamp (show j < 2 ^ 31 by omega)] at q176
                      refine z_iinc (y := 1) (lv' := [some (.ref 41), some (.int _), some (.int sg), some (.int mi), some (.int _), some (.int _), some (.int _), some (.int _), some (.int _)]) C dX10_freeOn_187 rfl (by decide) (by decide) rfl ?_
                      refine z_goto (tgt := 36) C dX10_freeOn_190 (by decide) ?_
                      refine z_sub z_drop678 ?_
                      rw [nI_1 j]
                      have a3 := ih (j + 1) (by omega)
                      rw [zdown_s] at a3
                      first
                        | (rw [if_pos (show (zmtk (iv 84) (iv 85) (iv 86) (iv 87) (iv 88) (iv 89) (nI i) sg mi) j = 0 from zb_f (by
                             rintro ⟨z1, z2, z3, z4, z5⟩
                             first
                               | exact absurd z1 q164
                               | (first | rw [if_pos q59] at z2 | rw [if_neg q59] at z2); omega
                               | (first | rw [if_pos q59] at z3 | rw [if_neg q59] at z3); omega
                               | omega
                               | exact z5 ⟨q135, by omega⟩))] at a3
                           exact a3)
                        | (rw [if_neg (show ¬ (zmtk (iv 84) (iv 85) (iv 86) (iv 87) (iv 88) (iv 89) (nI i) sg mi) j = 0 by
                             rw [show (zmtk (iv 84) (iv 85) (iv 86) (iv 87) (iv 88) (iv 89) (nI i) sg mi) j = 1 from zb_t ⟨q164, by first | (rw [if_pos q59]; omega) | (rw [if_neg q59]; omega), by first | (rw [if_pos q59]; omega) | (rw [if_neg q59]; omega), by omega, by first | exact fun z => z.1 q135 | (rintro ⟨-, z⟩; omega)⟩]; decide)] at a3
                           exact a3)
                    · simp only [nI_clamp (show j < 2 ^ 31 by omega)] at q176
                      refine z_iload C dX10_freeOn_179 rfl ?_
                      refine z_if_eq (tgt := 187) C dX10_freeOn_181 (by decide) (fun q181 => ?_) (fun q181 => ?_)
                      · refine z_iinc (y := 1) (lv' := [some (.ref 41), some (.int _), some (.int sg), some (.int mi), some (.int _), some (.int _), some (.int _), some (.int _), some (.int _)]) C dX10_freeOn_187 rfl (by decide) (by decide) rfl ?_
                        refine z_goto (tgt := 36) C dX10_freeOn_190 (by decide) ?_
                        refine z_sub z_drop678 ?_
                        rw [nI_1 j]
                        have a3 := ih (j + 1) (by omega)
                        rw [zdown_s] at a3
                        first
                          | (rw [if_pos (show (zmtk (iv 84) (iv 85) (iv 86) (iv 87) (iv 88) (iv 89) (nI i) sg mi) j = 0 from zb_f (by
                               rintro ⟨z1, z2, z3, z4, z5⟩
                               first
                                 | exact absurd z1 q164
                                 | (first | rw [if_pos q59] at z2 | rw [if_neg q59] at z2); omega
                                 | (first | rw [if_pos q59] at z3 | rw [if_neg q59] at z3); omega
                                 | omega
                                 | exact z5 ⟨q135, by omega⟩))] at a3
                             exact a3)
                          | (rw [if_neg (show ¬ (zmtk (iv 84) (iv 85) (iv 86) (iv 87) (iv 88) (iv 89) (nI i) sg mi) j = 0 by
                               rw [show (zmtk (iv 84) (iv 85) (iv 86) (iv 87) (iv 88) (iv 89) (nI i) sg mi) j = 1 from zb_t ⟨q164, by first | (rw [if_pos q59]; omega) | (rw [if_neg q59]; omega), by first | (rw [if_pos q59]; omega) | (rw [if_neg q59]; omega), by omega, by first | exact fun z => z.1 q135 | (rintro ⟨-, z⟩; omega)⟩]; decide)] at a3
                             exact a3)
                      · exact absurd q181 (by decide)
              · simp only [nI_clamp (show j < 2 ^ 31 by omega)] at q146
                refine z_iconst (v := 1) C dX10_freeOn_149 (by decide) ?_
                refine z_goto (tgt := 154) C dX10_freeOn_150 (by decide) ?_
                refine z_istore (lv' := [some (.ref 41), some (.int _), some (.int sg), some (.int mi), some (.int _), some (.int _), some (.int _), some (.int _), some (.int _)]) C dX10_freeOn_154 (by decide) rfl ?_
                refine z_aload_n C dX10_freeOn_156 rfl ?_
                refine zs_getR C dX10_freeOn_157 zf_X10_143 zk_41 (by decide) (zr_41_63 n) ?_
                refine z_iload C dX10_freeOn_160 rfl ?_
                refine z_iald C dX10_freeOn_162 zk_84 (by decide) ?_ ?_
                · exact vp_in_nI (by omega) (by decide)
                refine z_iload_n C dX10_freeOn_163 rfl ?_
                refine z_icmp_ne (tgt := 187) C dX10_freeOn_164 (by decide) (fun q164 => ?_) (fun q164 => ?_)
                · simp only [nI_clamp (show j < 2 ^ 31 by omega)] at q164
                  refine z_iinc (y := 1) (lv' := [some (.ref 41), some (.int _), some (.int sg), some (.int mi), some (.int _), some (.int _), some (.int _), some (.int _), some (.int _)]) C dX10_freeOn_187 rfl (by decide) (by decide) rfl ?_
                  refine z_goto (tgt := 36) C dX10_freeOn_190 (by decide) ?_
                  refine z_sub z_drop678 ?_
                  rw [nI_1 j]
                  have a3 := ih (j + 1) (by omega)
                  rw [zdown_s] at a3
                  first
                    | (rw [if_pos (show (zmtk (iv 84) (iv 85) (iv 86) (iv 87) (iv 88) (iv 89) (nI i) sg mi) j = 0 from zb_f (by
                         rintro ⟨z1, z2, z3, z4, z5⟩
                         first
                           | exact absurd z1 q164
                           | (first | rw [if_pos q59] at z2 | rw [if_neg q59] at z2); omega
                           | (first | rw [if_pos q59] at z3 | rw [if_neg q59] at z3); omega
                           | omega
                           | exact z5 ⟨q135, by omega⟩))] at a3
                       exact a3)
                    | (rw [if_neg (show ¬ (zmtk (iv 84) (iv 85) (iv 86) (iv 87) (iv 88) (iv 89) (nI i) sg mi) j = 0 by
                         rw [show (zmtk (iv 84) (iv 85) (iv 86) (iv 87) (iv 88) (iv 89) (nI i) sg mi) j = 1 from zb_t ⟨q164, by first | (rw [if_pos q59]; omega) | (rw [if_neg q59]; omega), by first | (rw [if_pos q59]; omega) | (rw [if_neg q59]; omega), by omega, by first | exact fun z => z.1 q135 | (rintro ⟨-, z⟩; omega)⟩]; decide)] at a3
                       exact a3)
                · simp only [nI_clamp (show j < 2 ^ 31 by omega)] at q164
                  refine z_iload_n C dX10_freeOn_167 rfl ?_
                  refine z_iload C dX10_freeOn_168 rfl ?_
                  refine zt_icmp_lt (tgt := 187) C dX10_freeOn_170 rfl rfl (by decide) (fun q170 => ?_) (fun q170 => ?_)
                  · simp only [nI_clamp (show j < 2 ^ 31 by omega)] at q170
                    refine z_iinc (y := 1) (lv' := [some (.ref 41), some (.int _), some (.int sg), some (.int mi), some (.int _), some (.int _), some (.int _), some (.int _), some (.int _)]) C dX10_freeOn_187 rfl (by decide) (by decide) rfl ?_
                    refine z_goto (tgt := 36) C dX10_freeOn_190 (by decide) ?_
                    refine z_sub z_drop678 ?_
                    rw [nI_1 j]
                    have a3 := ih (j + 1) (by omega)
                    rw [zdown_s] at a3
                    first
                      | (rw [if_pos (show (zmtk (iv 84) (iv 85) (iv 86) (iv 87) (iv 88) (iv 89) (nI i) sg mi) j = 0 from zb_f (by
                           rintro ⟨z1, z2, z3, z4, z5⟩
                           first
                             | exact absurd z1 q164
                             | (first | rw [if_pos q59] at z2 | rw [if_neg q59] at z2); omega
                             | (first | rw [if_pos q59] at z3 | rw [if_neg q59] at z3); omega
                             | omega
                             | exact z5 ⟨q135, by omega⟩))] at a3
                         exact a3)
                      | (rw [if_neg (show ¬ (zmtk (iv 84) (iv 85) (iv 86) (iv 87) (iv 88) (iv 89) (nI i) sg mi) j = 0 by
                           rw [show (zmtk (iv 84) (iv 85) (iv 86) (iv 87) (iv 88) (iv 89) (nI i) sg mi) j = 1 from zb_t ⟨q164, by first | (rw [if_pos q59]; omega) | (rw [if_neg q59]; omega), by first | (rw [if_pos q59]; omega) | (rw [if_neg q59]; omega), by omega, by first | exact fun z => z.1 q135 | (rintro ⟨-, z⟩; omega)⟩]; decide)] at a3
                         exact a3)
                  · simp only [nI_clamp (show j < 2 ^ 31 by omega)] at q170
                    refine z_iload_n C dX10_freeOn_173 rfl ?_
                    refine z_iload C dX10_freeOn_174 rfl ?_
                    refine zt_icmp_ge (tgt := 187) C dX10_freeOn_176 rfl rfl (by decide) (fun q176 => ?_) (fun q176 => ?_)
                    · simp only [nI_clamp (show j < 2 ^ 31 by omega)] at q176
                      refine z_iinc (y := 1) (lv' := [some (.ref 41), some (.int _), some (.int sg), some (.int mi), some (.int _), some (.int _), some (.int _), some (.int _), some (.int _)]) C dX10_freeOn_187 rfl (by decide) (by decide) rfl ?_
                      refine z_goto (tgt := 36) C dX10_freeOn_190 (by decide) ?_
                      refine z_sub z_drop678 ?_
                      rw [nI_1 j]
                      have a3 := ih (j + 1) (by omega)
                      rw [zdown_s] at a3
                      first
                        | (rw [if_pos (show (zmtk (iv 84) (iv 85) (iv 86) (iv 87) (iv 88) (iv 89) (nI i) sg mi) j = 0 from zb_f (by
                             rintro ⟨z1, z2, z3, z4, z5⟩
                             first
                               | exact absurd z1 q164
                               | (first | rw [if_pos q59] at z2 | rw [if_neg q59] at z2); omega
                               | (first | rw [if_pos q59] at z3 | rw [if_neg q59] at z3); omega
                               | omega
                               | exact z5 ⟨q135, by omega⟩))] at a3
                           exact a3)
                        | (rw [if_neg (show ¬ (zmtk (iv 84) (iv 85) (iv 86) (iv 87) (iv 88) (iv 89) (nI i) sg mi) j = 0 by
                             rw [show (zmtk (iv 84) (iv 85) (iv 86) (iv 87) (iv 88) (iv 89) (nI i) sg mi) j = 1 from zb_t ⟨q164, by first | (rw [if_pos q59]; omega) | (rw [if_neg q59]; omega), by first | (rw [if_pos q59]; omega) | (rw [if_neg q59]; omega), by omega, by first | exact fun z => z.1 q135 | (rintro ⟨-, z⟩; omega)⟩]; decide)] at a3
                           exact a3)
                    · simp only [nI_clamp (show j < 2 ^ 31 by omega)] at q176
                      refine z_iload C dX10_freeOn_179 rfl ?_
                      refine z_if_eq (tgt := 187) C dX10_freeOn_181 (by decide) (fun q181 => ?_) (fun q181 => ?_)
                      · exact absurd q181 (by decide)
                      · refine z_iinc (y := (-1)) (lv' := [some (.ref 41), some (.int _), some (.int sg), some (.int mi), some (.int _), some (.int _), some (.int _), some (.int _), some (.int _)]) C dX10_freeOn_184 rfl (by decide) (by decide) rfl ?_
                        refine z_iinc (y := 1) (lv' := [some (.ref 41), some (.int _), some (.int sg), some (.int mi), some (.int _), some (.int _), some (.int _), some (.int _), some (.int _)]) C dX10_freeOn_187 rfl (by decide) (by decide) rfl ?_
                        refine z_goto (tgt := 36) C dX10_freeOn_190 (by decide) ?_
                        refine z_sub z_drop678 ?_
                        rw [nI_1 j]
                        have a3 := ih (j + 1) (by omega)
                        rw [zdown_s] at a3
                        first
                          | (rw [if_pos (show (zmtk (iv 84) (iv 85) (iv 86) (iv 87) (iv 88) (iv 89) (nI i) sg mi) j = 0 from zb_f (by
                               rintro ⟨z1, z2, z3, z4, z5⟩
                               first
                                 | exact absurd z1 q164
                                 | (first | rw [if_pos q59] at z2 | rw [if_neg q59] at z2); omega
                                 | (first | rw [if_pos q59] at z3 | rw [if_neg q59] at z3); omega
                                 | omega
                                 | exact z5 ⟨q135, by omega⟩))] at a3
                             exact a3)
                          | (rw [if_neg (show ¬ (zmtk (iv 84) (iv 85) (iv 86) (iv 87) (iv 88) (iv 89) (nI i) sg mi) j = 0 by
                               rw [show (zmtk (iv 84) (iv 85) (iv 86) (iv 87) (iv 88) (iv 89) (nI i) sg mi) j = 1 from zb_t ⟨q164, by first | (rw [if_pos q59]; omega) | (rw [if_neg q59]; omega), by first | (rw [if_pos q59]; omega) | (rw [if_neg q59]; omega), by omega, by first | exact fun z => z.1 q135 | (rintro ⟨-, z⟩; omega)⟩]; decide)] at a3
                             exact a3)

set_option maxRecDepth 4000 in
theorem m_freeOn (n : Nat) (iv : zI) (lw : zG) (i : Nat) (hi : i < 8) (sg mi : Int32) (t : Nat) (ht : iv 41 62 = nI t) (ht2 : t ≤ 100) : zMi yX10_freeOn cX10_freeOn 9 (some .int) 0 [.ref 41, .int (nI i), .int sg, .int mi] n iv lw (zdown (zseats (iv 50 i)) (zmtk (iv 84) (iv 85) (iv 86) (iv 87) (iv 88) (iv 89) (nI i) sg mi) t) iv lw := by
  refine zM.of (by decide) (Nat.le_of_ble_eq_true rfl) (fun X C E => ?_)
  change zJs X n 9 0 [some (.ref 41), some (.int (nI i)), some (.int sg), some (.int mi), none, none, none, none, none] [] iv lw
  refine z_aload_n C dX10_freeOn_0 rfl ?_
  refine zs_getR C dX10_freeOn_1 zf_X10_38 zk_41 (by decide) (zr_41_12 n) ?_
  refine z_iload_n C dX10_freeOn_4 rfl ?_
  refine z_iald C dX10_freeOn_5 zk_50 (by decide) ?_ ?_
  · exact vp_in_nI (by omega) (by decide)
  refine z_iconst (v := 1) C dX10_freeOn_6 (by decide) ?_
  refine z_icmp_ne (tgt := 14) C dX10_freeOn_7 (by decide) (fun q7 => ?_) (fun q7 => ?_)
  · refine z_aload_n C dX10_freeOn_14 rfl ?_
    refine zs_getR C dX10_freeOn_15 zf_X10_38 zk_41 (by decide) (zr_41_12 n) ?_
    refine z_iload_n C dX10_freeOn_18 rfl ?_
    refine z_iald C dX10_freeOn_19 zk_50 (by decide) ?_ ?_
    · exact vp_in_nI (by omega) (by decide)
    refine z_iconst (v := 2) C dX10_freeOn_20 (by decide) ?_
    refine z_icmp_ne (tgt := 29) C dX10_freeOn_21 (by decide) (fun q21 => ?_) (fun q21 => ?_)
    · refine z_bipush (v := 12) C dX10_freeOn_29 (by decide) ?_
      refine z_istore (lv' := [some (.ref 41), some (.int _), some (.int sg), some (.int mi), some (.int _), none, none, none, none]) C dX10_freeOn_31 (by decide) rfl ?_
      refine z_iconst (v := 0) C dX10_freeOn_33 (by decide) ?_
      refine z_istore (lv' := [some (.ref 41), some (.int _), some (.int sg), some (.int mi), some (.int _), some (.int _), none, none, none]) C dX10_freeOn_34 (by decide) rfl ?_
      first
        | (rw [nI_clamp (by omega)] at q7; have es : zseats (iv 50 i) = 4 := by unfold zseats; rw [if_pos q7]
           rw [← es]; exact lm_freeOn n iv lw i hi sg mi t ht ht2 C E t 0 (by omega))
        | (rw [nI_clamp (by omega)] at q7 q21; have es : zseats (iv 50 i) = 8 := by unfold zseats; rw [if_neg q7, if_pos q21]
           rw [← es]; exact lm_freeOn n iv lw i hi sg mi t ht ht2 C E t 0 (by omega))
        | (rw [nI_clamp (by omega)] at q7 q21; have es : zseats (iv 50 i) = 12 := by unfold zseats; rw [if_neg q7, if_neg q21]
           rw [← es]; exact lm_freeOn n iv lw i hi sg mi t ht ht2 C E t 0 (by omega))
    · refine z_bipush (v := 8) C dX10_freeOn_24 (by decide) ?_
      refine z_goto (tgt := 31) C dX10_freeOn_26 (by decide) ?_
      refine z_istore (lv' := [some (.ref 41), some (.int _), some (.int sg), some (.int mi), some (.int _), none, none, none, none]) C dX10_freeOn_31 (by decide) rfl ?_
      refine z_iconst (v := 0) C dX10_freeOn_33 (by decide) ?_
      refine z_istore (lv' := [some (.ref 41), some (.int _), some (.int sg), some (.int mi), some (.int _), some (.int _), none, none, none]) C dX10_freeOn_34 (by decide) rfl ?_
      first
        | (rw [nI_clamp (by omega)] at q7; have es : zseats (iv 50 i) = 4 := by unfold zseats; rw [if_pos q7]
           rw [← es]; exact lm_freeOn n iv lw i hi sg mi t ht ht2 C E t 0 (by omega))
        | (rw [nI_clamp (by omega)] at q7 q21; have es : zseats (iv 50 i) = 8 := by unfold zseats; rw [if_neg q7, if_pos q21]
           rw [← es]; exact lm_freeOn n iv lw i hi sg mi t ht ht2 C E t 0 (by omega))
        | (rw [nI_clamp (by omega)] at q7 q21; have es : zseats (iv 50 i) = 12 := by unfold zseats; rw [if_neg q7, if_neg q21]
           rw [← es]; exact lm_freeOn n iv lw i hi sg mi t ht ht2 C E t 0 (by omega))
  · refine z_iconst (v := 4) C dX10_freeOn_10 (by decide) ?_
    refine z_goto (tgt := 31) C dX10_freeOn_11 (by decide) ?_
    refine z_istore (lv' := [some (.ref 41), some (.int _), some (.int sg), some (.int mi), some (.int _), none, none, none, none]) C dX10_freeOn_31 (by decide) rfl ?_
    refine z_iconst (v := 0) C dX10_freeOn_33 (by decide) ?_
    refine z_istore (lv' := [some (.ref 41), some (.int _), some (.int sg), some (.int mi), some (.int _), some (.int _), none, none, none]) C dX10_freeOn_34 (by decide) rfl ?_
    first
      | (rw [nI_clamp (by omega)] at q7; have es : zseats (iv 50 i) = 4 := by unfold zseats; rw [if_pos q7]
         rw [← es]; exact lm_freeOn n iv lw i hi sg mi t ht ht2 C E t 0 (by omega))
      | (rw [nI_clamp (by omega)] at q7 q21; have es : zseats (iv 50 i) = 8 := by unfold zseats; rw [if_neg q7, if_pos q21]
         rw [← es]; exact lm_freeOn n iv lw i hi sg mi t ht ht2 C E t 0 (by omega))
      | (rw [nI_clamp (by omega)] at q7 q21; have es : zseats (iv 50 i) = 12 := by unfold zseats; rw [if_neg q7, if_neg q21]
         rw [← es]; exact lm_freeOn n iv lw i hi sg mi t ht ht2 C E t 0 (by omega))

set_option maxRecDepth 4000 in
theorem m_free1 (n : Nat) (iv : zI) (lw : zG) (hc : iv 41 11 = nI n) (hn : n ≤ 8) (i : Nat) (hi : i < n) (sg mi : Int32) (hI : 2 ≤ (iv 41 1).toInt ∧ (iv 41 1).toInt ≤ 8) (t : Nat) (ht : iv 41 62 = nI t) (ht2 : t ≤ 100) : zMi yX10_free cX10_free 4 (some .int) 2 [.ref 41, .int (nI i), .int sg, .int mi] n iv lw (if ((0 ≤ sg.toInt ∧ sg.toInt < (iv 41 1).toInt - 1) ∧ (((iv 52 i).toInt < (iv 53 i).toInt ∧ (iv 52 i).toInt ≤ sg.toInt ∧ sg.toInt < (iv 53 i).toInt) ∨ (¬ (iv 52 i).toInt < (iv 53 i).toInt ∧ (iv 53 i).toInt ≤ sg.toInt ∧ sg.toInt < (iv 52 i).toInt))) then zdown (zseats (iv 50 i)) (zmtk (iv 84) (iv 85) (iv 86) (iv 87) (iv 88) (iv 89) (nI i) sg mi) t else -1) iv lw := by
  refine zM.of (by decide) (Nat.le_of_ble_eq_true rfl) (fun X C E => ?_)
  change zJs X n 4 0 [some (.ref 41), some (.int (nI i)), some (.int sg), some (.int mi)] [] iv lw
  refine z_aload_n C dX10_free_0 rfl ?_
  refine z_iload_n C dX10_free_1 rfl ?_
  refine zs_callVi C dX10_free_2 zm_X10_202 zyX10_isCoach (m_isCoach _ _ _ _) zc_10 rfl zk_41 (by decide) (by decide) rfl rfl (Nat.le_of_ble_eq_true rfl) (by decide) (by decide) ?_
  refine zb_if_eq (tgt := 35) C dX10_free_5 (by decide) (fun q5 => ?_) (fun q5 => ?_)
  · exfalso; apply q5; rw [nI_toInt (by omega), zt_nI hc (by omega)]; omega
  · refine z_aload_n C dX10_free_8 rfl ?_
    refine z_iload_n C dX10_free_9 rfl ?_
    refine zs_callVi C dX10_free_10 zm_X10_176 zyX10_isStage (m_isStage _ _ _ _ hI) zc_10 rfl zk_41 (by decide) (by decide) rfl rfl (Nat.le_of_ble_eq_true rfl) (by decide) (by decide) ?_
    refine zb_if_eq (tgt := 35) C dX10_free_13 (by decide) (fun q13 => ?_) (fun q13 => ?_)
    · refine z_iconst (v := (-1)) C dX10_free_35 (by decide) ?_
      refine zs_iret C E dX10_free_36 rfl ?_ ?_ ?_
      · first | exact (if_pos ⟨q13, q22⟩).symm | exact (if_neg (fun z => by first | exact q13 z.1 | exact q22 z.2)).symm
      · rfl
      · rfl
    · refine z_aload_n C dX10_free_16 rfl ?_
      refine z_iload_n C dX10_free_17 rfl ?_
      refine z_iload_n C dX10_free_18 rfl ?_
      refine zs_callVi C dX10_free_19 zm_X10_393 zyX10_isStageOf (m_isStageOf _ _ _ i (by omega) _) zc_10 rfl zk_41 (by decide) (by decide) rfl rfl (Nat.le_of_ble_eq_true rfl) (by decide) (by decide) ?_
      refine zb_if_eq (tgt := 35) C dX10_free_22 (by decide) (fun q22 => ?_) (fun q22 => ?_)
      · refine z_iconst (v := (-1)) C dX10_free_35 (by decide) ?_
        refine zs_iret C E dX10_free_36 rfl ?_ ?_ ?_
        · first | exact (if_pos ⟨q13, q22⟩).symm | exact (if_neg (fun z => by first | exact q13 z.1 | exact q22 z.2)).symm
        · rfl
        · rfl
      · refine z_aload_n C dX10_free_25 rfl ?_
        refine z_iload_n C dX10_free_26 rfl ?_
        refine z_iload_n C dX10_free_27 rfl ?_
        refine z_iload_n C dX10_free_28 rfl ?_
        refine zs_callVi C dX10_free_29 zm_X10_396 zyX10_freeOn (m_freeOn _ _ _ i (by omega) _ _ t ht ht2) zc_10 rfl zk_41 (by decide) (by decide) rfl rfl (Nat.le_of_ble_eq_true rfl) (by decide) (by decide) ?_
        refine z_goto (tgt := 36) C dX10_free_32 (by decide) ?_
        refine zs_iret C E dX10_free_36 rfl ?_ ?_ ?_
        · first | exact (if_pos ⟨q13, q22⟩).symm | exact (if_neg (fun z => by first | exact q13 z.1 | exact q22 z.2)).symm
        · rfl
        · rfl

set_option maxRecDepth 4000 in
theorem m_free0 (n : Nat) (iv : zI) (lw : zG) (co sg mi : Int32) (hv : ¬ (0 ≤ co.toInt ∧ co.toInt < (iv 41 11).toInt)) : zMi yX10_free cX10_free 4 (some .int) 1 [.ref 41, .int co, .int sg, .int mi] n iv lw (-1) iv lw := by
  refine zM.of (by decide) (Nat.le_of_ble_eq_true rfl) (fun X C E => ?_)
  change zJs X n 4 0 [some (.ref 41), some (.int co), some (.int sg), some (.int mi)] [] iv lw
  refine z_aload_n C dX10_free_0 rfl ?_
  refine z_iload_n C dX10_free_1 rfl ?_
  refine zs_callVi C dX10_free_2 zm_X10_202 zyX10_isCoach (m_isCoach _ _ _ _) zc_10 rfl zk_41 (by decide) (by decide) rfl rfl (Nat.le_of_ble_eq_true rfl) (by decide) (by decide) ?_
  refine zb_if_eq (tgt := 35) C dX10_free_5 (by decide) (fun q5 => ?_) (fun q5 => ?_)
  · refine z_iconst (v := (-1)) C dX10_free_35 (by decide) ?_
    refine zs_iret C E dX10_free_36 rfl ?_ ?_ ?_
    · rfl
    · rfl
    · rfl
  · exact absurd q5 hv

set_option maxRecDepth 4000 in
theorem m_untell (n : Nat) (iv : zI) (lw : zG) (bo : Int32) (hT : (iv 41 62).toInt ≤ 100) : zMi yX10_untell cX10_untell 2 (some .boolean) 0 [.ref 41, .int bo] n iv lw (zb (0 ≤ bo.toInt ∧ bo.toInt < (iv 41 62).toInt ∧ iv 89 bo.toNatClampNeg = 0)) (if (0 ≤ bo.toInt ∧ bo.toInt < (iv 41 62).toInt ∧ iv 89 bo.toNatClampNeg = 0) then zu (zu iv 89 bo.toNatClampNeg 1) 88 bo.toNatClampNeg (iv 41 0) else iv) lw := by
  refine zM.of (by decide) (Nat.le_of_ble_eq_true rfl) (fun X C E => ?_)
  change zJs X n 2 0 [some (.ref 41), some (.int bo)] [] iv lw
  refine z_iload_n C dX10_untell_0 rfl ?_
  refine zt_if_lt (tgt := 21) C dX10_untell_1 rfl (by decide) (fun q1 => ?_) (fun q1 => ?_)
  · refine z_iconst (v := 0) C dX10_untell_21 (by decide) ?_
    refine zs_iret C E dX10_untell_22 rfl ?_ ?_ ?_
    · exact (zb_f (fun z => by first | exact q18 z.2.2 | (have := z.1; have := z.2.1; omega))).symm
    · exact (if_neg (fun z => by first | exact q18 z.2.2 | (have := z.1; have := z.2.1; omega))).symm
    · rfl
  · refine z_iload_n C dX10_untell_4 rfl ?_
    refine z_aload_n C dX10_untell_5 rfl ?_
    refine z_getI C dX10_untell_6 zf_X10_390 zk_41 (by decide) ?_
    refine zt_icmp_ge (tgt := 21) C dX10_untell_9 rfl rfl (by decide) (fun q9 => ?_) (fun q9 => ?_)
    · refine z_iconst (v := 0) C dX10_untell_21 (by decide) ?_
      refine zs_iret C E dX10_untell_22 rfl ?_ ?_ ?_
      · exact (zb_f (fun z => by first | exact q18 z.2.2 | (have := z.1; have := z.2.1; omega))).symm
      · exact (if_neg (fun z => by first | exact q18 z.2.2 | (have := z.1; have := z.2.1; omega))).symm
      · rfl
    · refine z_aload_n C dX10_untell_12 rfl ?_
      refine zs_getR C dX10_untell_13 zf_X10_158 zk_41 (by decide) (zr_41_68 n) ?_
      refine z_iload_n C dX10_untell_16 rfl ?_
      refine z_zald C dX10_untell_17 zk_89 (by decide) ?_ ?_
      · exact vp_in_iff.mpr (by omega)
      refine z_if_eq (tgt := 23) C dX10_untell_18 (by decide) (fun q18 => ?_) (fun q18 => ?_)
      · refine z_aload_n C dX10_untell_23 rfl ?_
        refine zs_getR C dX10_untell_24 zf_X10_158 zk_41 (by decide) (zr_41_68 n) ?_
        refine z_iload_n C dX10_untell_27 rfl ?_
        refine z_iconst (v := 1) C dX10_untell_28 (by decide) ?_
        refine z_zast C dX10_untell_29 zk_89 (by decide) ?_ ?_
        · exact vp_in_iff.mpr (by omega)
        refine z_aload_n C dX10_untell_30 rfl ?_
        refine zs_getR C dX10_untell_31 zf_X10_155 zk_41 (by decide) (zr_41_67 n) ?_
        refine z_iload_n C dX10_untell_34 rfl ?_
        refine z_aload_n C dX10_untell_35 rfl ?_
        refine z_getI C dX10_untell_36 zf_X10_187 zk_41 (by decide) ?_
        refine z_iast C dX10_untell_39 zk_88 (by decide) ?_ ?_
        · exact vp_in_iff.mpr (by omega)
        refine z_iconst (v := 1) C dX10_untell_40 (by decide) ?_
        refine zs_iret C E dX10_untell_41 rfl ?_ ?_ ?_
        · exact (zb_t ⟨by omega, by omega, q18⟩).symm
        · rw [if_pos ⟨by omega, by omega, q18⟩, vp_nb1]
          rfl
        · rfl
      · refine z_iconst (v := 0) C dX10_untell_21 (by decide) ?_
        refine zs_iret C E dX10_untell_22 rfl ?_ ?_ ?_
        · exact (zb_f (fun z => by first | exact q18 z.2.2 | (have := z.1; have := z.2.1; omega))).symm
        · exact (if_neg (fun z => by first | exact q18 z.2.2 | (have := z.1; have := z.2.1; omega))).symm
        · rfl

set_option maxRecDepth 4000 in
theorem m_about (n : Nat) (iv : zI) (lw : zG) (wh : Int32) : zMi yX10_about cX10_about 2 (some .int) 0 [.ref 41, .int wh] n iv lw (zabout (iv 41 0) (iv 41 1) (iv 41 7) (iv 41 11) (iv 41 30) (iv 41 53) (iv 41 62) (iv 41 39) wh) iv lw := by
  refine zM.of (by decide) (Nat.le_of_ble_eq_true rfl) (fun X C E => ?_)
  change zJs X n 2 0 [some (.ref 41), some (.int wh)] [] iv lw
  refine z_iload_n C dX10_about_0 rfl ?_
  by_cases qs1_0 : wh = 0
  · refine z_tabIn (tgt := 48) C dX10_about_1 (by rw [qs1_0]; decide) (by rw [qs1_0]; decide) (by rw [qs1_0]; rfl) (by decide) ?_
    refine z_aload_n C dX10_about_48 rfl ?_
    refine z_getI C dX10_about_49 zf_X10_187 zk_41 (by decide) ?_
    refine zs_iret C E dX10_about_52 rfl ?_ ?_ ?_
    · unfold zabout
      simp [*]
    · rfl
    · rfl
  by_cases qs1_1 : wh = 1
  · refine z_tabIn (tgt := 53) C dX10_about_1 (by rw [qs1_1]; decide) (by rw [qs1_1]; decide) (by rw [qs1_1]; rfl) (by decide) ?_
    refine z_aload_n C dX10_about_53 rfl ?_
    refine z_getI C dX10_about_54 zf_X10_7 zk_41 (by decide) ?_
    refine zs_iret C E dX10_about_57 rfl ?_ ?_ ?_
    · unfold zabout
      simp [*]
    · rfl
    · rfl
  by_cases qs1_2 : wh = 2
  · refine z_tabIn (tgt := 58) C dX10_about_1 (by rw [qs1_2]; decide) (by rw [qs1_2]; decide) (by rw [qs1_2]; rfl) (by decide) ?_
    refine z_aload_n C dX10_about_58 rfl ?_
    refine z_getI C dX10_about_59 zf_X10_184 zk_41 (by decide) ?_
    refine zs_iret C E dX10_about_62 rfl ?_ ?_ ?_
    · unfold zabout
      simp [*]
    · rfl
    · rfl
  by_cases qs1_3 : wh = 3
  · refine z_tabIn (tgt := 63) C dX10_about_1 (by rw [qs1_3]; decide) (by rw [qs1_3]; decide) (by rw [qs1_3]; rfl) (by decide) ?_
    refine z_aload_n C dX10_about_63 rfl ?_
    refine z_getI C dX10_about_64 zf_X10_165 zk_41 (by decide) ?_
    refine zs_iret C E dX10_about_67 rfl ?_ ?_ ?_
    · unfold zabout
      simp [*]
    · rfl
    · rfl
  by_cases qs1_4 : wh = 4
  · refine z_tabIn (tgt := 68) C dX10_about_1 (by rw [qs1_4]; decide) (by rw [qs1_4]; decide) (by rw [qs1_4]; rfl) (by decide) ?_
    refine z_aload_n C dX10_about_68 rfl ?_
    refine z_getI C dX10_about_69 zf_X10_348 zk_41 (by decide) ?_
    refine zs_iret C E dX10_about_72 rfl ?_ ?_ ?_
    · unfold zabout
      simp [*]
    · rfl
    · rfl
  by_cases qs1_5 : wh = 5
  · refine z_tabIn (tgt := 73) C dX10_about_1 (by rw [qs1_5]; decide) (by rw [qs1_5]; decide) (by rw [qs1_5]; rfl) (by decide) ?_
    refine z_aload_n C dX10_about_73 rfl ?_
    refine z_getI C dX10_about_74 zf_X10_381 zk_41 (by decide) ?_
    refine zs_iret C E dX10_about_77 rfl ?_ ?_ ?_
    · unfold zabout
      simp [*]
    · rfl
    · rfl
  by_cases qs1_6 : wh = 6
  · refine z_tabIn (tgt := 78) C dX10_about_1 (by rw [qs1_6]; decide) (by rw [qs1_6]; decide) (by rw [qs1_6]; rfl) (by decide) ?_
    refine z_aload_n C dX10_about_78 rfl ?_
    refine z_getI C dX10_about_79 zf_X10_390 zk_41 (by decide) ?_
    refine zs_iret C E dX10_about_82 rfl ?_ ?_ ?_
    · unfold zabout
      simp [*]
    · rfl
    · rfl
  by_cases qs1_7 : wh = 7
  · refine z_tabIn (tgt := 83) C dX10_about_1 (by rw [qs1_7]; decide) (by rw [qs1_7]; decide) (by rw [qs1_7]; rfl) (by decide) ?_
    refine z_aload_n C dX10_about_83 rfl ?_
    refine z_getI C dX10_about_84 zf_X10_212 zk_41 (by decide) ?_
    refine zs_iret C E dX10_about_87 rfl ?_ ?_ ?_
    · unfold zabout
      simp [*]
    · rfl
    · rfl
  have qo : (wh : Int32).toInt < 0 ∨ 7 < (wh : Int32).toInt := by
    have h0 : ¬ (wh : Int32).toInt = 0 := fun z => qs1_0 (Int32.toInt_inj.mp z)
    have h1 : ¬ (wh : Int32).toInt = 1 := fun z => qs1_1 (Int32.toInt_inj.mp z)
    have h2 : ¬ (wh : Int32).toInt = 2 := fun z => qs1_2 (Int32.toInt_inj.mp z)
    have h3 : ¬ (wh : Int32).toInt = 3 := fun z => qs1_3 (Int32.toInt_inj.mp z)
    have h4 : ¬ (wh : Int32).toInt = 4 := fun z => qs1_4 (Int32.toInt_inj.mp z)
    have h5 : ¬ (wh : Int32).toInt = 5 := fun z => qs1_5 (Int32.toInt_inj.mp z)
    have h6 : ¬ (wh : Int32).toInt = 6 := fun z => qs1_6 (Int32.toInt_inj.mp z)
    have h7 : ¬ (wh : Int32).toInt = 7 := fun z => qs1_7 (Int32.toInt_inj.mp z)
    omega
  refine z_tabOut (tgt := 88) C dX10_about_1 qo (by decide) ?_
  refine z_iconst (v := (-1)) C dX10_about_88 (by decide) ?_
  refine zs_iret C E dX10_about_89 rfl ?_ ?_ ?_
  · unfold zabout
    simp [*]
  · rfl
  · rfl

set_option maxRecDepth 4000 in
theorem m_road (n : Nat) (iv : zI) (lw : zG) (k wh : Int32) (hI : 2 ≤ (iv 41 1).toInt ∧ (iv 41 1).toInt ≤ 8) : zMi yX10_road cX10_road 3 (some .int) 1 [.ref 41, .int k, .int wh] n iv lw (zroad (iv 41 1).toInt (iv 42) (iv 43) (iv 44) (iv 45) (iv 46) k wh) iv lw := by
  refine zM.of (by decide) (Nat.le_of_ble_eq_true rfl) (fun X C E => ?_)
  change zJs X n 3 0 [some (.ref 41), some (.int k), some (.int wh)] [] iv lw
  refine z_iload_n C dX10_road_0 rfl ?_
  refine z_iconst (v := 4) C dX10_road_1 (by decide) ?_
  refine z_icmp_ne (tgt := 24) C dX10_road_2 (by decide) (fun q2 => ?_) (fun q2 => ?_)
  · refine z_aload_n C dX10_road_24 rfl ?_
    refine z_iload_n C dX10_road_25 rfl ?_
    refine zs_callVi C dX10_road_26 zm_X10_176 zyX10_isStage (m_isStage _ _ _ _ hI) zc_10 rfl zk_41 (by decide) (by decide) rfl rfl (Nat.le_of_ble_eq_true rfl) (by decide) (by decide) ?_
    refine zb_if_ne (tgt := 34) C dX10_road_29 (by decide) (fun q29 => ?_) (fun q29 => ?_)
    · refine z_iload_n C dX10_road_34 rfl ?_
      by_cases qs35_0 : wh = 0
      · refine z_tabIn (tgt := 64) C dX10_road_35 (by rw [qs35_0]; decide) (by rw [qs35_0]; decide) (by rw [qs35_0]; rfl) (by decide) ?_
        refine z_aload_n C dX10_road_64 rfl ?_
        refine zs_getR C dX10_road_65 zf_X10_13 zk_41 (by decide) (zr_41_2 n) ?_
        refine z_iload_n C dX10_road_68 rfl ?_
        refine z_iald C dX10_road_69 zk_42 (by decide) ?_ ?_
        · exact vp_in_iff.mpr (by omega)
        refine zs_iret C E dX10_road_70 rfl ?_ ?_ ?_
        · unfold zroad
          simp [*]
        · rfl
        · rfl
      by_cases qs35_1 : wh = 1
      · refine z_tabIn (tgt := 71) C dX10_road_35 (by rw [qs35_1]; decide) (by rw [qs35_1]; decide) (by rw [qs35_1]; rfl) (by decide) ?_
        refine z_aload_n C dX10_road_71 rfl ?_
        refine zs_getR C dX10_road_72 zf_X10_17 zk_41 (by decide) (zr_41_3 n) ?_
        refine z_iload_n C dX10_road_75 rfl ?_
        refine z_iald C dX10_road_76 zk_43 (by decide) ?_ ?_
        · exact vp_in_iff.mpr (by omega)
        refine zs_iret C E dX10_road_77 rfl ?_ ?_ ?_
        · unfold zroad
          simp [*]
        · rfl
        · rfl
      by_cases qs35_2 : wh = 2
      · refine z_tabIn (tgt := 78) C dX10_road_35 (by rw [qs35_2]; decide) (by rw [qs35_2]; decide) (by rw [qs35_2]; rfl) (by decide) ?_
        refine z_aload_n C dX10_road_78 rfl ?_
        refine zs_getR C dX10_road_79 zf_X10_20 zk_41 (by decide) (zr_41_4 n) ?_
        refine z_iload_n C dX10_road_82 rfl ?_
        refine z_iald C dX10_road_83 zk_44 (by decide) ?_ ?_
        · exact vp_in_iff.mpr (by omega)
        refine zs_iret C E dX10_road_84 rfl ?_ ?_ ?_
        · unfold zroad
          simp [*]
        · rfl
        · rfl
      by_cases qs35_3 : wh = 3
      · refine z_tabIn (tgt := 85) C dX10_road_35 (by rw [qs35_3]; decide) (by rw [qs35_3]; decide) (by rw [qs35_3]; rfl) (by decide) ?_
        refine z_aload_n C dX10_road_85 rfl ?_
        refine zs_getR C dX10_road_86 zf_X10_23 zk_41 (by decide) (zr_41_5 n) ?_
        refine z_iload_n C dX10_road_89 rfl ?_
        refine z_iald C dX10_road_90 zk_45 (by decide) ?_ ?_
        · exact vp_in_iff.mpr (by omega)
        refine zs_iret C E dX10_road_91 rfl ?_ ?_ ?_
        · unfold zroad
          simp [*]
        · rfl
        · rfl
      have qo : (wh : Int32).toInt < 0 ∨ 3 < (wh : Int32).toInt := by
        have h0 : ¬ (wh : Int32).toInt = 0 := fun z => qs35_0 (Int32.toInt_inj.mp z)
        have h1 : ¬ (wh : Int32).toInt = 1 := fun z => qs35_1 (Int32.toInt_inj.mp z)
        have h2 : ¬ (wh : Int32).toInt = 2 := fun z => qs35_2 (Int32.toInt_inj.mp z)
        have h3 : ¬ (wh : Int32).toInt = 3 := fun z => qs35_3 (Int32.toInt_inj.mp z)
        omega
      refine z_tabOut (tgt := 92) C dX10_road_35 qo (by decide) ?_
      refine z_iconst (v := (-1)) C dX10_road_92 (by decide) ?_
      refine zs_iret C E dX10_road_93 rfl ?_ ?_ ?_
      · unfold zroad
        simp [*]
      · rfl
      · rfl
    · refine z_iconst (v := (-1)) C dX10_road_32 (by decide) ?_
      refine zs_iret C E dX10_road_33 rfl ?_ ?_ ?_
      · unfold zroad
        simp [*]
      · rfl
      · rfl
  · refine z_aload_n C dX10_road_5 rfl ?_
    refine z_iload_n C dX10_road_6 rfl ?_
    refine zs_callVi C dX10_road_7 zm_X10_180 zyX10_isInn (m_isInn _ _ _ _) zc_10 rfl zk_41 (by decide) (by decide) rfl rfl (Nat.le_of_ble_eq_true rfl) (by decide) (by decide) ?_
    refine zb_if_eq (tgt := 22) C dX10_road_10 (by decide) (fun q10 => ?_) (fun q10 => ?_)
    · refine z_iconst (v := (-1)) C dX10_road_22 (by decide) ?_
      refine zs_iret C E dX10_road_23 rfl ?_ ?_ ?_
      · unfold zroad
        simp [*]
      · rfl
      · rfl
    · refine z_aload_n C dX10_road_13 rfl ?_
      refine zs_getR C dX10_road_14 zf_X10_26 zk_41 (by decide) (zr_41_6 n) ?_
      refine z_iload_n C dX10_road_17 rfl ?_
      refine z_iald C dX10_road_18 zk_46 (by decide) ?_ ?_
      · exact vp_in_iff.mpr (by omega)
      refine z_goto (tgt := 23) C dX10_road_19 (by decide) ?_
      refine zs_iret C E dX10_road_23 rfl ?_ ?_ ?_
      · unfold zroad
        simp [*]
      · rfl
      · rfl

def zmwr (iv : zI) (v : Int32) : Nat → zI
  | 0 => iv
  | j + 1 => zu (zu (zmwr iv v j) 72 (zmwr iv v j 41 39).toNatClampNeg (v >>> (zsh j &&& 31) &&& 255)) 41 39 (zmwr iv v j 41 39 + 1)
theorem zmwr_len (iv : zI) (v : Int32) : ∀ j, zmwr iv v j 41 39 = iv 41 39 + nI j
  | 0 => by show iv 41 39 = iv 41 39 + nI 0; rw [nI_0, Int32.add_zero]
  | j + 1 => by
    show zmwr iv v j 41 39 + 1 = _
    rw [zmwr_len iv v j, nI_succ, Int32.add_assoc]

set_option maxRecDepth 4000 in
theorem lm_four (n : Nat) (iv : zI) (lw : zG) (v : Int32) (hT : 0 ≤ (iv 41 39).toInt ∧ (iv 41 39).toInt ≤ 796) {X : zX} (C : zC X cX10_four 3 RX10 none "four" 0 0 0) (E : zEnd X (91 + 3 * n) 0 0 (zQ n (zQv (zmwr iv v 4) lw))) : ∀ (k : Nat) (j : Nat), j + k = 4 → zJs X n 3 3 [some (.ref 41), some (.int v), some (.int (zsh j))] [] (zmwr iv v j) lw := by
  intro k
  induction k with
  | zero =>
    intro j hk
    have e1 := zmwr_len iv v j
    have e2 : (zmwr iv v j 41 39).toInt = (iv 41 39).toInt + j := by
      rw [e1, zt_add (by rw [nI_toInt (by omega)]; omega) (by rw [nI_toInt (by omega)]; omega), nI_toInt (by omega)]
    refine z_iload_n C dX10_four_3 rfl ?_
    refine zt_if_lt (tgt := 39) C dX10_four_4 rfl (by decide) (fun q4 => ?_) (fun q4 => ?_)
    · refine zs_vret C E dX10_four_39 ?_ rfl
      rw [show j = 4 by omega]
    · exfalso; rw [show j = 4 by omega] at q4; exact q4 zsh_4
  | succ k ih =>
    intro j hk
    have e1 := zmwr_len iv v j
    have e2 : (zmwr iv v j 41 39).toInt = (iv 41 39).toInt + j := by
      rw [e1, zt_add (by rw [nI_toInt (by omega)]; omega) (by rw [nI_toInt (by omega)]; omega), nI_toInt (by omega)]
    refine z_iload_n C dX10_four_3 rfl ?_
    refine zt_if_lt (tgt := 39) C dX10_four_4 rfl (by decide) (fun q4 => ?_) (fun q4 => ?_)
    · exfalso; have := zsh_lt j (by omega); omega
    · refine z_aload_n C dX10_four_7 rfl ?_
      refine zs_getR C dX10_four_8 zf_X10_104 zk_41 (by decide) (zr_41_38 n) ?_
      refine z_aload_n C dX10_four_11 rfl ?_
      refine z_getI C dX10_four_12 zf_X10_212 zk_41 (by decide) ?_
      refine z_iload_n C dX10_four_15 rfl ?_
      refine z_iload_n C dX10_four_16 rfl ?_
      refine z_ishr C dX10_four_17 ?_
      refine z_sipush (v := 255) C dX10_four_18 (by decide) ?_
      refine z_iand C dX10_four_21 ?_
      refine z_iast C dX10_four_22 zk_72 (by decide) ?_ ?_
      · exact vp_in_iff.mpr (by omega)
      refine z_aload_n C dX10_four_23 rfl ?_
      refine z_dup C dX10_four_24 rfl ?_
      refine z_getI C dX10_four_25 zf_X10_212 zk_41 (by decide) ?_
      refine z_iconst (v := 1) C dX10_four_28 (by decide) ?_
      refine z_iadd C dX10_four_29 ?_
      refine z_putI C dX10_four_30 zf_X10_212 zk_41 (by decide) ?_
      refine z_iinc (y := (-8)) (lv' := [some (.ref 41), some (.int v), some (.int _)]) C dX10_four_33 rfl (by decide) (by decide) rfl ?_
      refine z_goto (tgt := 3) C dX10_four_36 (by decide) ?_
      rw [zsh_s j]
      exact ih (j + 1) (by omega)

set_option maxRecDepth 4000 in
theorem m_four (n : Nat) (iv : zI) (lw : zG) (v : Int32) (hT : 0 ≤ (iv 41 39).toInt ∧ (iv 41 39).toInt ≤ 796) : zMv yX10_four cX10_four 3 none 0 [.ref 41, .int v] n iv lw (zmwr iv v 4) lw := by
  refine zM.of (by decide) (Nat.le_of_ble_eq_true rfl) (fun X C E => ?_)
  change zJs X n 3 0 [some (.ref 41), some (.int v), none] [] iv lw
  refine z_bipush (v := 24) C dX10_four_0 (by decide) ?_
  refine z_istore_n (lv' := [some (.ref 41), some (.int v), some (.int _)]) C dX10_four_2 (by decide) rfl ?_
  exact lm_four n iv lw v hT C E 4 0 (by omega)

set_option maxRecDepth 4000 in
theorem m_feed (n : Nat) (iv : zI) (lw : zG) (a b c d e : Int32) (hT : 0 ≤ (iv 41 39).toInt ∧ (iv 41 39).toInt ≤ 800) : zMi yX10_feed cX10_feed 6 (some .int) 1 [.ref 41, .int a, .int b, .int c, .int d, .int e] n iv lw (if (iv 41 39).toInt ≤ 780 then (zmwr (zmwr (zmwr (zmwr (zmwr iv a 4) b 4) c 4) d 4) e 4) 41 39 else -1) (if (iv 41 39).toInt ≤ 780 then (zmwr (zmwr (zmwr (zmwr (zmwr iv a 4) b 4) c 4) d 4) e 4) else iv) lw := by
  refine zM.of (by decide) (Nat.le_of_ble_eq_true rfl) (fun X C E => ?_)
  change zJs X n 6 0 [some (.ref 41), some (.int a), some (.int b), some (.int c), some (.int d), some (.int e)] [] iv lw
  refine z_aload_n C dX10_feed_0 rfl ?_
  refine z_getI C dX10_feed_1 zf_X10_212 zk_41 (by decide) ?_
  refine z_bipush (v := 20) C dX10_feed_4 (by decide) ?_
  refine z_iadd C dX10_feed_6 ?_
  refine z_sipush (v := 800) C dX10_feed_7 (by decide) ?_
  refine zt_icmp_le (tgt := 15) C dX10_feed_10 (show (iv 41 39 + 20).toInt = (iv 41 39).toInt + 20 by rw [zt_add (by rw [show (20 : Int32).toInt = 20 by decide]; omega) (by rw [show (20 : Int32).toInt = 20 by decide]; omega), show (20 : Int32).toInt = 20 by decide]) (show (800 : Int32).toInt = 800 by decide) (by decide) (fun q10 => ?_) (fun q10 => ?_)
  · have l1 := zmwr_len iv a 4
    have l2 := zmwr_len (zmwr iv a 4) b 4
    have l3 := zmwr_len (zmwr (zmwr iv a 4) b 4) c 4
    have l4 := zmwr_len (zmwr (zmwr (zmwr iv a 4) b 4) c 4) d 4
    have k4 : (nI 4).toInt = 4 := by decide
    have t1 : (zmwr iv a 4 41 39).toInt = (iv 41 39).toInt + 4 := by rw [l1, zt_add (by rw [k4]; omega) (by rw [k4]; omega), k4]
    have t2 : (zmwr (zmwr iv a 4) b 4 41 39).toInt = (iv 41 39).toInt + 8 := by rw [l2, zt_add (by rw [k4]; omega) (by rw [k4]; omega), k4]; omega
    have t3 : (zmwr (zmwr (zmwr iv a 4) b 4) c 4 41 39).toInt = (iv 41 39).toInt + 12 := by rw [l3, zt_add (by rw [k4]; omega) (by rw [k4]; omega), k4]; omega
    have t4 : (zmwr (zmwr (zmwr (zmwr iv a 4) b 4) c 4) d 4 41 39).toInt = (iv 41 39).toInt + 16 := by rw [l4, zt_add (by rw [k4]; omega) (by rw [k4]; omega), k4]; omega
    refine z_aload_n C dX10_feed_15 rfl ?_
    refine z_iload_n C dX10_feed_16 rfl ?_
    refine zs_callVv C dX10_feed_17 zm_X10_215 zyX10_four (m_four _ _ _ _ (by omega)) zc_10 rfl zk_41 (by decide) (by decide) rfl rfl (Nat.le_of_ble_eq_true rfl) (by decide) (by decide) ?_
    refine z_aload_n C dX10_feed_20 rfl ?_
    refine z_iload_n C dX10_feed_21 rfl ?_
    refine zs_callVv C dX10_feed_22 zm_X10_215 zyX10_four (m_four _ _ _ _ (by omega)) zc_10 rfl zk_41 (by decide) (by decide) rfl rfl (Nat.le_of_ble_eq_true rfl) (by decide) (by decide) ?_
    refine z_aload_n C dX10_feed_25 rfl ?_
    refine z_iload_n C dX10_feed_26 rfl ?_
    refine zs_callVv C dX10_feed_27 zm_X10_215 zyX10_four (m_four _ _ _ _ (by omega)) zc_10 rfl zk_41 (by decide) (by decide) rfl rfl (Nat.le_of_ble_eq_true rfl) (by decide) (by decide) ?_
    refine z_aload_n C dX10_feed_30 rfl ?_
    refine z_iload C dX10_feed_31 rfl ?_
    refine zs_callVv C dX10_feed_33 zm_X10_215 zyX10_four (m_four _ _ _ _ (by omega)) zc_10 rfl zk_41 (by decide) (by decide) rfl rfl (Nat.le_of_ble_eq_true rfl) (by decide) (by decide) ?_
    refine z_aload_n C dX10_feed_36 rfl ?_
    refine z_iload C dX10_feed_37 rfl ?_
    refine zs_callVv C dX10_feed_39 zm_X10_215 zyX10_four (m_four _ _ _ _ (by omega)) zc_10 rfl zk_41 (by decide) (by decide) rfl rfl (Nat.le_of_ble_eq_true rfl) (by decide) (by decide) ?_
    refine z_aload_n C dX10_feed_42 rfl ?_
    refine z_getI C dX10_feed_43 zf_X10_212 zk_41 (by decide) ?_
    refine zs_iret C E dX10_feed_46 rfl ?_ ?_ ?_
    · exact (if_pos (by omega)).symm
    · exact (if_pos (by omega)).symm
    · rfl
  · refine z_iconst (v := (-1)) C dX10_feed_13 (by decide) ?_
    refine zs_iret C E dX10_feed_14 rfl ?_ ?_ ?_
    · exact (if_neg (by omega)).symm
    · exact (if_neg (by omega)).symm
    · rfl

set_option maxRecDepth 4000 in
theorem m_end (n : Nat) (iv : zI) (lw : zG) (m : Int32) : zMi yX10_end cX10_end 2 (some .int) 0 [.ref 41, .int m] n iv lw (if (0 ≤ m.toInt ∧ m.toInt ≤ (iv 41 39).toInt) then m else -1) (if (0 ≤ m.toInt ∧ m.toInt ≤ (iv 41 39).toInt) then zu iv 41 39 m else iv) lw := by
  refine zM.of (by decide) (Nat.le_of_ble_eq_true rfl) (fun X C E => ?_)
  change zJs X n 2 0 [some (.ref 41), some (.int m)] [] iv lw
  refine z_iload_n C dX10_end_0 rfl ?_
  refine zt_if_lt (tgt := 12) C dX10_end_1 rfl (by decide) (fun q1 => ?_) (fun q1 => ?_)
  · refine z_iconst (v := (-1)) C dX10_end_12 (by decide) ?_
    refine zs_iret C E dX10_end_13 rfl ?_ ?_ ?_
    · exact (if_neg (by omega)).symm
    · exact (if_neg (by omega)).symm
    · rfl
  · refine z_iload_n C dX10_end_4 rfl ?_
    refine z_aload_n C dX10_end_5 rfl ?_
    refine z_getI C dX10_end_6 zf_X10_212 zk_41 (by decide) ?_
    refine zt_icmp_le (tgt := 14) C dX10_end_9 rfl rfl (by decide) (fun q9 => ?_) (fun q9 => ?_)
    · refine z_aload_n C dX10_end_14 rfl ?_
      refine z_iload_n C dX10_end_15 rfl ?_
      refine z_putI C dX10_end_16 zf_X10_212 zk_41 (by decide) ?_
      refine z_iload_n C dX10_end_19 rfl ?_
      refine zs_iret C E dX10_end_20 rfl ?_ ?_ ?_
      · exact (if_pos (by omega)).symm
      · exact (if_pos (by omega)).symm
      · rfl
    · refine z_iconst (v := (-1)) C dX10_end_12 (by decide) ?_
      refine zs_iret C E dX10_end_13 rfl ?_ ?_ ?_
      · exact (if_neg (by omega)).symm
      · exact (if_neg (by omega)).symm
      · rfl

set_option maxRecDepth 4000 in
theorem m_fault (n : Nat) (iv : zI) (lw : zG) (wh : Int32) : zMi yX10_fault cX10_fault 2 (some .int) 0 [.ref 41, .int wh] n iv lw (if wh = 0 then iv 41 40 else if wh = 1 then iv 41 41 else -1) iv lw := by
  refine zM.of (by decide) (Nat.le_of_ble_eq_true rfl) (fun X C E => ?_)
  change zJs X n 2 0 [some (.ref 41), some (.int wh)] [] iv lw
  refine z_iload_n C dX10_fault_0 rfl ?_
  refine z_if_ne (tgt := 11) C dX10_fault_1 (by decide) (fun q1 => ?_) (fun q1 => ?_)
  · refine z_iload_n C dX10_fault_11 rfl ?_
    refine z_iconst (v := 1) C dX10_fault_12 (by decide) ?_
    refine z_icmp_ne (tgt := 23) C dX10_fault_13 (by decide) (fun q13 => ?_) (fun q13 => ?_)
    · refine z_iconst (v := (-1)) C dX10_fault_23 (by decide) ?_
      refine zs_iret C E dX10_fault_24 rfl ?_ ?_ ?_
      · simp [*]
      · rfl
      · rfl
    · refine z_aload_n C dX10_fault_16 rfl ?_
      refine z_getI C dX10_fault_17 zf_X10_107 zk_41 (by decide) ?_
      refine z_goto (tgt := 24) C dX10_fault_20 (by decide) ?_
      refine zs_iret C E dX10_fault_24 rfl ?_ ?_ ?_
      · simp [*]
      · rfl
      · rfl
  · refine z_aload_n C dX10_fault_4 rfl ?_
    refine z_getI C dX10_fault_5 zf_X10_250 zk_41 (by decide) ?_
    refine z_goto (tgt := 24) C dX10_fault_8 (by decide) ?_
    refine zs_iret C E dX10_fault_24 rfl ?_ ?_ ?_
    · simp [*]
    · rfl
    · rfl
