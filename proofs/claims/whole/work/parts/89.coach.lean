set_option maxRecDepth 4000 in
theorem m_coach2 (sh n : Nat) (iv : zI) (lw : zG) (hc : iv 41 11 = nI n) (hn : n ≤ 8) (ki lo fr to st : Int32) (hP : zPco n (iv 41 1).toInt (iv 41 0) ki lo fr to st) : zMi yX10_coach cX10_coach 7 (some .int) 1 [.ref 41, .int ki, .int lo, .int fr, .int to, .int st] sh iv lw (nI n) (zmcoach iv n ki lo fr to st) lw := by
  refine zM.of (by decide) (Nat.le_of_ble_eq_true rfl) (fun X C E => ?_)
  change zJs X sh 7 0 [some (.ref 41), some (.int ki), some (.int lo), some (.int fr), some (.int to), some (.int st), none] [] iv lw
  obtain ⟨p1, p2, p3, p4, p5, p6, p7⟩ := hP
  have p1 : n < 8 := by omega
  refine z_aload_n C dX10_coach_0 rfl ?_
  refine z_getI C dX10_coach_1 zf_X10_165 zk_41 (by decide) ?_
  refine z_bipush (v := 8) C dX10_coach_4 (by decide) ?_
  refine z_icmp_eq (tgt := 67) C dX10_coach_6 (by decide) (fun q6 => ?_) (fun q6 => ?_)
  · rw [hc] at q6; have q7 := congrArg Int32.toInt q6; rw [nI_toInt (by omega), show (8 : Int32).toInt = 8 by decide] at q7; omega
  · refine z_iload_n C dX10_coach_9 rfl ?_
    refine zt_if_lt (tgt := 67) C dX10_coach_10 rfl (by decide) (fun q10 => ?_) (fun q10 => ?_)
    · exfalso; omega
    · refine z_iload_n C dX10_coach_13 rfl ?_
      refine z_iconst (v := 2) C dX10_coach_14 (by decide) ?_
      refine zt_icmp_gt (tgt := 67) C dX10_coach_15 rfl (show (2 : Int32).toInt = 2 by decide) (by decide) (fun q15 => ?_) (fun q15 => ?_)
      · exfalso; omega
      · refine z_iload_n C dX10_coach_18 rfl ?_
        refine zt_if_lt (tgt := 67) C dX10_coach_19 rfl (by decide) (fun q19 => ?_) (fun q19 => ?_)
        · exfalso; omega
        · refine z_iload_n C dX10_coach_22 rfl ?_
          refine z_bipush (v := 50) C dX10_coach_23 (by decide) ?_
          refine zt_icmp_gt (tgt := 67) C dX10_coach_25 rfl (show (50 : Int32).toInt = 50 by decide) (by decide) (fun q25 => ?_) (fun q25 => ?_)
          · exfalso; omega
          · refine z_aload_n C dX10_coach_28 rfl ?_
            refine z_iload_n C dX10_coach_29 rfl ?_
            refine zs_callVi C dX10_coach_30 zm_X10_180 zyX10_isInn (m_isInn _ _ _ _) zc_10 rfl zk_41 (by decide) (by decide) rfl rfl (Nat.le_of_ble_eq_true rfl) (by decide) (by decide) ?_
            refine zb_if_eq (tgt := 67) C dX10_coach_33 (by decide) (fun q33 => ?_) (fun q33 => ?_)
            · exact absurd p5 q33
            · refine z_aload_n C dX10_coach_36 rfl ?_
              refine z_iload C dX10_coach_37 rfl ?_
              refine zs_callVi C dX10_coach_39 zm_X10_180 zyX10_isInn (m_isInn _ _ _ _) zc_10 rfl zk_41 (by decide) (by decide) rfl rfl (Nat.le_of_ble_eq_true rfl) (by decide) (by decide) ?_
              refine zb_if_eq (tgt := 67) C dX10_coach_42 (by decide) (fun q42 => ?_) (fun q42 => ?_)
              · exact absurd p6 q42
              · refine z_iload_n C dX10_coach_45 rfl ?_
                refine z_iload C dX10_coach_46 rfl ?_
                refine z_icmp_eq (tgt := 67) C dX10_coach_48 (by decide) (fun q48 => ?_) (fun q48 => ?_)
                · exact absurd q48 p7
                · refine z_iload C dX10_coach_51 rfl ?_
                  refine z_aload_n C dX10_coach_53 rfl ?_
                  refine z_getI C dX10_coach_54 zf_X10_187 zk_41 (by decide) ?_
                  refine zt_icmp_lt (tgt := 67) C dX10_coach_57 rfl rfl (by decide) (fun q57 => ?_) (fun q57 => ?_)
                  · exfalso; omega
                  · refine z_iload C dX10_coach_60 rfl ?_
                    refine z_ldc C dX10_coach_62 zk_X10_190 ?_
                    refine zt_icmp_le (tgt := 69) C dX10_coach_64 rfl (show (10000000 : Int32).toInt = 10000000 by decide) (by decide) (fun q64 => ?_) (fun q64 => ?_)
                    · refine z_aload_n C dX10_coach_69 rfl ?_
                      refine z_getI C dX10_coach_70 zf_X10_165 zk_41 (by decide) ?_
                      refine z_eqi hc ?_
                      refine z_istore (lv' := [some (.ref 41), some (.int ki), some (.int lo), some (.int fr), some (.int to), some (.int st), some (.int _)]) C dX10_coach_73 (by decide) rfl ?_
                      refine z_aload_n C dX10_coach_75 rfl ?_
                      refine zs_getR C dX10_coach_76 zf_X10_38 zk_41 (by decide) (zr_41_12 sh) ?_
                      refine z_iload C dX10_coach_79 rfl ?_
                      refine z_iload_n C dX10_coach_81 rfl ?_
                      refine z_iast C dX10_coach_82 zk_50 (by decide) ?_ ?_
                      · exact vp_in_nI (by omega) (by decide)
                      refine z_aload_n C dX10_coach_83 rfl ?_
                      refine zs_getR C dX10_coach_84 zf_X10_41 zk_41 (by decide) (zr_41_13 sh) ?_
                      refine z_iload C dX10_coach_87 rfl ?_
                      refine z_iload_n C dX10_coach_89 rfl ?_
                      refine z_iast C dX10_coach_90 zk_51 (by decide) ?_ ?_
                      · exact vp_in_nI (by omega) (by decide)
                      refine z_aload_n C dX10_coach_91 rfl ?_
                      refine zs_getR C dX10_coach_92 zf_X10_44 zk_41 (by decide) (zr_41_14 sh) ?_
                      refine z_iload C dX10_coach_95 rfl ?_
                      refine z_iload_n C dX10_coach_97 rfl ?_
                      refine z_iast C dX10_coach_98 zk_52 (by decide) ?_ ?_
                      · exact vp_in_nI (by omega) (by decide)
                      refine z_aload_n C dX10_coach_99 rfl ?_
                      refine zs_getR C dX10_coach_100 zf_X10_47 zk_41 (by decide) (zr_41_15 sh) ?_
                      refine z_iload C dX10_coach_103 rfl ?_
                      refine z_iload C dX10_coach_105 rfl ?_
                      refine z_iast C dX10_coach_107 zk_53 (by decide) ?_ ?_
                      · exact vp_in_nI (by omega) (by decide)
                      refine z_aload_n C dX10_coach_108 rfl ?_
                      refine zs_getR C dX10_coach_109 zf_X10_50 zk_41 (by decide) (zr_41_16 sh) ?_
                      refine z_iload C dX10_coach_112 rfl ?_
                      refine z_iload C dX10_coach_114 rfl ?_
                      refine z_iast C dX10_coach_116 zk_54 (by decide) ?_ ?_
                      · exact vp_in_nI (by omega) (by decide)
                      refine z_aload_n C dX10_coach_117 rfl ?_
                      refine zs_getR C dX10_coach_118 zf_X10_53 zk_41 (by decide) (zr_41_17 sh) ?_
                      refine z_iload C dX10_coach_121 rfl ?_
                      refine z_iconst (v := 0) C dX10_coach_123 (by decide) ?_
                      refine z_iast C dX10_coach_124 zk_55 (by decide) ?_ ?_
                      · exact vp_in_nI (by omega) (by decide)
                      refine z_aload_n C dX10_coach_125 rfl ?_
                      refine zs_getR C dX10_coach_126 zf_X10_56 zk_41 (by decide) (zr_41_18 sh) ?_
                      refine z_iload C dX10_coach_129 rfl ?_
                      refine z_iload_n C dX10_coach_131 rfl ?_
                      refine z_iast C dX10_coach_132 zk_56 (by decide) ?_ ?_
                      · exact vp_in_nI (by omega) (by decide)
                      refine z_aload_n C dX10_coach_133 rfl ?_
                      refine zs_getR C dX10_coach_134 zf_X10_59 zk_41 (by decide) (zr_41_19 sh) ?_
                      refine z_iload C dX10_coach_137 rfl ?_
                      refine z_iconst (v := (-1)) C dX10_coach_139 (by decide) ?_
                      refine z_iast C dX10_coach_140 zk_57 (by decide) ?_ ?_
                      · exact vp_in_nI (by omega) (by decide)
                      refine z_aload_n C dX10_coach_141 rfl ?_
                      refine zs_getR C dX10_coach_142 zf_X10_62 zk_41 (by decide) (zr_41_20 sh) ?_
                      refine z_iload C dX10_coach_145 rfl ?_
                      refine z_iconst (v := (-1)) C dX10_coach_147 (by decide) ?_
                      refine z_iast C dX10_coach_148 zk_58 (by decide) ?_ ?_
                      · exact vp_in_nI (by omega) (by decide)
                      refine z_aload_n C dX10_coach_149 rfl ?_
                      refine zs_getR C dX10_coach_150 zf_X10_65 zk_41 (by decide) (zr_41_21 sh) ?_
                      refine z_iload C dX10_coach_153 rfl ?_
                      refine z_iconst (v := (-1)) C dX10_coach_155 (by decide) ?_
                      refine z_iast C dX10_coach_156 zk_59 (by decide) ?_ ?_
                      · exact vp_in_nI (by omega) (by decide)
                      refine z_aload_n C dX10_coach_157 rfl ?_
                      refine z_dup C dX10_coach_158 rfl ?_
                      refine z_getI C dX10_coach_159 zf_X10_165 zk_41 (by decide) ?_
                      refine z_iconst (v := 1) C dX10_coach_162 (by decide) ?_
                      refine z_iadd C dX10_coach_163 ?_
                      refine z_putI C dX10_coach_164 zf_X10_165 zk_41 (by decide) ?_
                      refine z_iload C dX10_coach_167 rfl ?_
                      refine zs_iret C E dX10_coach_169 rfl ?_ ?_ ?_
                      · rfl
                      · simp only [nI_clamp (show n < 2 ^ 31 by omega)]
                        unfold zmcoach
                        rw [show zu (zu (zu (zu (zu (zu (zu (zu (zu (zu iv 50 n ki) 51 n lo) 52 n fr) 53 n to) 54 n st) 55 n 0) 56 n fr) 57 n (-1)) 58 n (-1)) 59 n (-1) 41 11 = nI n from hc, nI_1]
                      · rfl
                    · exfalso; omega

/-! money parted -/

/-! a new coach -/
def zco0 (ki lo fr to st : Int32) : Nat → Int32 := upd (upd (upd (upd (upd (upd (upd (upd (upd (fun _ => 0) 0 ki) 1 lo) 2 fr) 3 to) 4 st) 5 0) 6 fr) 7 (-1)) 11 st
def zQc (n : Nat) (ki lo fr to st : Int32) (kd : zD) (iv : zI) (rf : zF) : zP := fun v N2 kd2 iv2 rf2 _ => v = none ∧ N2 = 91 + 3 * n + 3 ∧ (∀ k, k < 91 + 3 * n → kd2 k = kd k ∧ iv2 k = iv k ∧ rf2 k = rf k) ∧ kd2 (91 + 3 * n) = (0 + 4, 0) ∧ kd2 (91 + 3 * n + 1) = (0, 5) ∧ kd2 (91 + 3 * n + 2) = (0, 5) ∧ iv2 (91 + 3 * n) = zco0 ki lo fr to st ∧ iv2 (91 + 3 * n + 1) = (fun _ => 0) ∧ iv2 (91 + 3 * n + 2) = (fun _ => 0) ∧ (rf2 (91 + 3 * n) = va_up (va_up (fun _ => none) 13 (some (91 + 3 * n + 1))) 14 (some (91 + 3 * n + 2))) ∧ rf2 (91 + 3 * n + 1) = (fun _ => none) ∧ rf2 (91 + 3 * n + 2) = (fun _ => none)

set_option maxHeartbeats 2000000 in
set_option maxRecDepth 8000 in
theorem i_coach (n : Nat) (hn : n ≤ 8) (ki lo fr to st : Int32) (kd : zD) (iv : zI) (rf : zF) (lw : zG) (hk : kd (91 + 3 * n) = (0 + 4, 0)) (hi : iv (91 + 3 * n) = fun _ => 0) (hr : rf (91 + 3 * n) = fun _ => none) : zM yX0_init cX0_init 6 none 1 2 10 [.ref (91 + 3 * n), .int ki, .int lo, .int fr, .int to, .int st] (91 + 3 * n + 1) kd iv rf lw (zQc n ki lo fr to st kd iv rf) := by
  refine zM.of (by decide) (Nat.le_of_ble_eq_true rfl) (fun X C E => ?_)
  change zJ X (91 + 3 * n + 1) 6 0 [some (.ref (91 + 3 * n)), some (.int ki), some (.int lo), some (.int fr), some (.int to), some (.int st)] [] (91 + 3 * n + 1) kd iv rf lw 0 0
  have hk1 : va_up kd (91 + 3 * n + 1) (0, 5) (91 + 3 * n) = (0 + 4, 0) := (va_upn _ _ (by omega)).trans hk
  have hk2 : va_up (va_up kd (91 + 3 * n + 1) (0, 5)) (91 + 3 * n + 1 + 1) (0, 5) (91 + 3 * n) = (0 + 4, 0) := (va_upn _ _ (by omega)).trans hk1
  refine z_aload_n C dX0_init_0 rfl ?_
  refine z_obj C dX0_init_1 zm_X0_3 (by decide) (Nat.le_of_ble_eq_true rfl) ?_
  refine z_aload_n C dX0_init_4 rfl ?_
  refine z_iload_n C dX0_init_5 rfl ?_
  refine z_putIF C dX0_init_6 zf_X0_9 rfl rfl hk (by omega) ?_
  refine z_aload_n C dX0_init_9 rfl ?_
  refine z_iload_n C dX0_init_10 rfl ?_
  refine z_putIF C dX0_init_11 zf_X0_15 rfl rfl hk (by omega) ?_
  refine z_aload_n C dX0_init_14 rfl ?_
  refine z_iload_n C dX0_init_15 rfl ?_
  refine z_putIF C dX0_init_16 zf_X0_18 rfl rfl hk (by omega) ?_
  refine z_aload_n C dX0_init_19 rfl ?_
  refine z_iload C dX0_init_20 rfl ?_
  refine z_putIF C dX0_init_22 zf_X0_21 rfl rfl hk (by omega) ?_
  refine z_aload_n C dX0_init_25 rfl ?_
  refine z_iload C dX0_init_26 rfl ?_
  refine z_putIF C dX0_init_28 zf_X0_24 rfl rfl hk (by omega) ?_
  refine z_aload_n C dX0_init_31 rfl ?_
  refine z_iconst (v := 0) C dX0_init_32 (by decide) ?_
  refine z_putI C dX0_init_33 zf_X0_27 hk (by omega) ?_
  refine z_aload_n C dX0_init_36 rfl ?_
  refine z_iload_n C dX0_init_37 rfl ?_
  refine z_putI C dX0_init_38 zf_X0_30 hk (by omega) ?_
  refine z_aload_n C dX0_init_41 rfl ?_
  refine z_iconst (v := (-1)) C dX0_init_42 (by decide) ?_
  refine z_putI C dX0_init_43 zf_X0_33 hk (by omega) ?_
  refine z_aload_n C dX0_init_46 rfl ?_
  refine z_iload C dX0_init_47 rfl ?_
  refine z_putI C dX0_init_49 zf_X0_36 hk (by omega) ?_
  refine z_aload_n C dX0_init_52 rfl ?_
  refine z_iconst (v := 5) C dX0_init_53 (by decide) ?_
  refine z_newI (n := 5) C dX0_init_54 (by decide) (by decide) (by decide) (by decide) (by decide) (by omega) ?_
  refine z_putRF C dX0_init_56 zf_X0_39 rfl rfl (by omega) hk1 (by omega) ?_
  refine z_aload_n C dX0_init_59 rfl ?_
  refine z_iconst (v := 5) C dX0_init_60 (by decide) ?_
  refine z_newI (n := 5) C dX0_init_61 (by decide) (by decide) (by decide) (by decide) (by decide) (by omega) ?_
  refine z_putRF C dX0_init_63 zf_X0_43 rfl rfl (by omega) hk2 (by omega) ?_
  refine z_vret C E dX0_init_66 (by decide) (by decide) ?_
  refine ⟨rfl, rfl, fun k hk3 => ⟨?_, ?_, ?_⟩, hk2, ?_, ?_, ?_, ?_, ?_, ?_, ?_, ?_⟩
  · repeat (first | rw [va_upn _ _ (by omega)] | rw [zu_n _ _ _ (by omega)] | rw [zuR_n _ _ _ (by omega)])
  · repeat (first | rw [va_upn _ _ (by omega)] | rw [zu_n _ _ _ (by omega)] | rw [zuR_n _ _ _ (by omega)])
  · repeat (first | rw [va_upn _ _ (by omega)] | rw [zu_n _ _ _ (by omega)] | rw [zuR_n _ _ _ (by omega)])
  · rw [va_upn _ _ (by omega)]; exact if_pos rfl
  · exact if_pos rfl
  · rw [va_upn _ _ (by omega), va_upn _ _ (by omega)]
    repeat rw [zu_s]
    rw [hi]
    rfl
  · rw [va_upn _ _ (by omega)]; exact if_pos rfl
  · exact if_pos rfl
  · rw [zuR_s, va_upn _ _ (by omega), zuR_s, va_upn _ _ (by omega), hr]
  · rw [zuR_n _ _ _ (by omega), va_upn _ _ (by omega), zuR_n _ _ _ (by omega)]; exact if_pos rfl
  · rw [zuR_n _ _ _ (by omega)]; exact if_pos rfl

def zcoach (iv : zI) (n : Nat) (ki lo fr to st : Int32) : zI := zu (fun k => if k = 91 + 3 * n then zco0 ki lo fr to st else if k = 91 + 3 * n + 1 ∨ k = 91 + 3 * n + 2 then (fun _ => 0) else iv k) 0 3 (nI (n + 1))
def zQco (n : Nat) (iv : zI) (ki lo fr to st : Int32) : zP := fun v N2 kd2 iv2 rf2 _ => (¬ zPco n (iv 1 0).toInt (iv 0 10) ki lo fr to st ∧ v = some (.int (-1)) ∧ N2 = 91 + 3 * n ∧ kd2 = skd ∧ rf2 = srf n ∧ iv2 = iv) ∨ (zPco n (iv 1 0).toInt (iv 0 10) ki lo fr to st ∧ v = some (.int (nI n)) ∧ N2 = 91 + 3 * (n + 1) ∧ kd2 = skd ∧ rf2 = srf (n + 1) ∧ iv2 = zcoach iv n ki lo fr to st)
theorem srf_s (n k : Nat) (hk : k < 91 + 3 * n) (h11 : k ≠ 11) : srf (n + 1) k = srf n k := by
  funext j
  unfold srf
  rw [if_neg h11, if_neg h11]
  by_cases h : k < 91
  · rw [if_pos h, if_pos h]
  · rw [if_neg h, if_neg h]
    by_cases q : (k - 91) % 3 = 0
    · rw [if_pos (show (k - 91) % 3 = 0 ∧ k < 91 + 3 * (n + 1) from ⟨q, by omega⟩), if_pos (show (k - 91) % 3 = 0 ∧ k < 91 + 3 * n from ⟨q, hk⟩)]
    · rw [if_neg (fun z => q z.1), if_neg (fun z => q z.1)]
theorem srf_11 (n : Nat) : va_up (srf n 11) n (some (91 + 3 * n)) = srf (n + 1) 11 := by
  funext j
  unfold va_up srf
  rw [if_pos rfl, if_pos rfl]
  by_cases q : j = n
  · subst q; rw [if_pos rfl, if_pos (by omega)]
  · rw [if_neg q]
    by_cases z : j < n
    · rw [if_pos z, if_pos (by omega)]
    · rw [if_neg z, if_neg (by omega)]
theorem srf_c (n : Nat) : va_up (va_up (fun _ => none) 13 (some (91 + 3 * n + 1))) 14 (some (91 + 3 * n + 2)) = srf (n + 1) (91 + 3 * n) ∧ (fun _ => none) = srf (n + 1) (91 + 3 * n + 1) ∧ (fun _ => none) = srf (n + 1) (91 + 3 * n + 2) := by
  refine ⟨?_, ?_, ?_⟩
  · funext j
    unfold va_up srf
    rw [if_neg (show ¬ 91 + 3 * n = 11 by omega), if_neg (show ¬ 91 + 3 * n < 91 by omega), if_pos (show (91 + 3 * n - 91) % 3 = 0 ∧ 91 + 3 * n < 91 + 3 * (n + 1) by omega)]
    by_cases q : j = 13
    · rw [if_neg (by omega), if_pos q, if_pos q]
    · by_cases q2 : j = 14
      · rw [if_pos q2, if_neg q, if_pos q2]
      · rw [if_neg q2, if_neg q, if_neg q, if_neg q2]
  · funext j
    unfold srf
    rw [if_neg (by omega), if_neg (by omega), if_neg (fun z => by omega)]
  · funext j
    unfold srf
    rw [if_neg (by omega), if_neg (by omega), if_neg (fun z => by omega)]

set_option maxHeartbeats 2000000 in
set_option maxRecDepth 8000 in
theorem x_coach (n : Nat) (iv : zI) (lw : zG) (hc : iv 0 3 = nI n) (hn : n ≤ 8) (ki lo fr to st : Int32) : zM yX9_coach cX9_coach 6 (some .int) 3 3 25 [.ref 0, .int ki, .int lo, .int fr, .int to, .int st] (91 + 3 * n) skd iv (srf n) lw (zQco n iv ki lo fr to st) := by
  refine zM.of (by decide) (Nat.le_of_ble_eq_true rfl) (fun X C E => ?_)
  change zJs X n 6 0 [some (.ref 0), some (.int ki), some (.int lo), some (.int fr), some (.int to), some (.int st)] [] iv lw
  refine z_aload_n C dX9_coach_0 rfl ?_
  refine z_getI C dX9_coach_1 zf_X9_76 zk_0 (by decide) ?_
  refine z_bipush (v := 8) C dX9_coach_4 (by decide) ?_
  refine zt_icmp_ge (tgt := 18) C dX9_coach_6 (zt_nI hc (by omega)) (show (8 : Int32).toInt = 8 by decide) (by decide) (fun q6 => ?_) (fun q6 => ?_)
  · refine z_iconst (v := (-1)) C dX9_coach_18 (by decide) ?_
    refine z_iret C E dX9_coach_19 rfl (by decide) (by decide) ?_
    exact Or.inl ⟨fun z => by obtain ⟨z1, z2, z3, z4, z5, z6, z7⟩ := z; omega, rfl, rfl, rfl, rfl, rfl⟩
  · refine z_iload_n C dX9_coach_9 rfl ?_
    refine zt_if_lt (tgt := 18) C dX9_coach_10 rfl (by decide) (fun q10 => ?_) (fun q10 => ?_)
    · refine z_iconst (v := (-1)) C dX9_coach_18 (by decide) ?_
      refine z_iret C E dX9_coach_19 rfl (by decide) (by decide) ?_
      exact Or.inl ⟨fun z => by obtain ⟨z1, z2, z3, z4, z5, z6, z7⟩ := z; omega, rfl, rfl, rfl, rfl, rfl⟩
    · refine z_iload_n C dX9_coach_13 rfl ?_
      refine z_iconst (v := 2) C dX9_coach_14 (by decide) ?_
      refine zt_icmp_le (tgt := 20) C dX9_coach_15 rfl (show (2 : Int32).toInt = 2 by decide) (by decide) (fun q15 => ?_) (fun q15 => ?_)
      · refine z_iload_n C dX9_coach_20 rfl ?_
        refine zt_if_lt (tgt := 46) C dX9_coach_21 rfl (by decide) (fun q21 => ?_) (fun q21 => ?_)
        · refine z_iconst (v := (-1)) C dX9_coach_46 (by decide) ?_
          refine z_iret C E dX9_coach_47 rfl (by decide) (by decide) ?_
          exact Or.inl ⟨fun z => by obtain ⟨z1, z2, z3, z4, z5, z6, z7⟩ := z; omega, rfl, rfl, rfl, rfl, rfl⟩
        · refine z_iload_n C dX9_coach_24 rfl ?_
          refine z_bipush (v := 50) C dX9_coach_25 (by decide) ?_
          refine zt_icmp_gt (tgt := 46) C dX9_coach_27 rfl (show (50 : Int32).toInt = 50 by decide) (by decide) (fun q27 => ?_) (fun q27 => ?_)
          · refine z_iconst (v := (-1)) C dX9_coach_46 (by decide) ?_
            refine z_iret C E dX9_coach_47 rfl (by decide) (by decide) ?_
            exact Or.inl ⟨fun z => by obtain ⟨z1, z2, z3, z4, z5, z6, z7⟩ := z; omega, rfl, rfl, rfl, rfl, rfl⟩
          · refine z_iload C dX9_coach_30 rfl ?_
            refine z_aload_n C dX9_coach_32 rfl ?_
            refine z_getI C dX9_coach_33 zf_X9_115 zk_0 (by decide) ?_
            refine zt_icmp_lt (tgt := 46) C dX9_coach_36 rfl rfl (by decide) (fun q36 => ?_) (fun q36 => ?_)
            · refine z_iconst (v := (-1)) C dX9_coach_46 (by decide) ?_
              refine z_iret C E dX9_coach_47 rfl (by decide) (by decide) ?_
              exact Or.inl ⟨fun z => by obtain ⟨z1, z2, z3, z4, z5, z6, z7⟩ := z; omega, rfl, rfl, rfl, rfl, rfl⟩
            · refine z_iload C dX9_coach_39 rfl ?_
              refine z_ldc C dX9_coach_41 zk_X9_118 ?_
              refine zt_icmp_le (tgt := 48) C dX9_coach_43 rfl (show (10000000 : Int32).toInt = 10000000 by decide) (by decide) (fun q43 => ?_) (fun q43 => ?_)
              · refine z_aload_n C dX9_coach_48 rfl ?_
                refine zs_getR C dX9_coach_49 zf_X9_10 zk_0 (by decide) (zr_0_0 n) ?_
                refine z_iload_n C dX9_coach_52 rfl ?_
                refine zs_callVi C dX9_coach_53 zm_X9_107 zyX2_hasInn (c_hasInn _ _ _ _) zc_2 rfl zk_1 (by decide) (by decide) rfl rfl (Nat.le_of_ble_eq_true rfl) (by decide) (by decide) ?_
                refine zb_if_eq (tgt := 77) C dX9_coach_56 (by decide) (fun q56 => ?_) (fun q56 => ?_)
                · refine z_iconst (v := (-1)) C dX9_coach_77 (by decide) ?_
                  refine z_iret C E dX9_coach_78 rfl (by decide) (by decide) ?_
                  exact Or.inl ⟨fun z => by obtain ⟨z1, z2, z3, z4, z5, z6, z7⟩ := z; exact q56 z5, rfl, rfl, rfl, rfl, rfl⟩
                · refine z_aload_n C dX9_coach_59 rfl ?_
                  refine zs_getR C dX9_coach_60 zf_X9_10 zk_0 (by decide) (zr_0_0 n) ?_
                  refine z_iload C dX9_coach_63 rfl ?_
                  refine zs_callVi C dX9_coach_65 zm_X9_107 zyX2_hasInn (c_hasInn _ _ _ _) zc_2 rfl zk_1 (by decide) (by decide) rfl rfl (Nat.le_of_ble_eq_true rfl) (by decide) (by decide) ?_
                  refine zb_if_eq (tgt := 77) C dX9_coach_68 (by decide) (fun q68 => ?_) (fun q68 => ?_)
                  · refine z_iconst (v := (-1)) C dX9_coach_77 (by decide) ?_
                    refine z_iret C E dX9_coach_78 rfl (by decide) (by decide) ?_
                    exact Or.inl ⟨fun z => by obtain ⟨z1, z2, z3, z4, z5, z6, z7⟩ := z; exact q68 z6, rfl, rfl, rfl, rfl, rfl⟩
                  · refine z_iload_n C dX9_coach_71 rfl ?_
                    refine z_iload C dX9_coach_72 rfl ?_
                    refine z_icmp_ne (tgt := 79) C dX9_coach_74 (by decide) (fun q74 => ?_) (fun q74 => ?_)
                    · refine z_aload_n C dX9_coach_79 rfl ?_
                      refine zs_getR C dX9_coach_80 zf_X9_25 zk_0 (by decide) (zr_0_2 n) ?_
                      refine z_aload_n C dX9_coach_83 rfl ?_
                      refine z_getI C dX9_coach_84 zf_X9_76 zk_0 (by decide) ?_
                      rw [hc]
                      refine z_new C dX9_coach_87 zl_X9_23 zc_0 (by decide) (by decide) (by decide) (by omega) ?_
                      refine z_dup C dX9_coach_90 rfl ?_
                      refine z_iload_n C dX9_coach_91 rfl ?_
                      refine z_iload_n C dX9_coach_92 rfl ?_
                      refine z_iload_n C dX9_coach_93 rfl ?_
                      refine z_iload C dX9_coach_94 rfl ?_
                      refine z_iload C dX9_coach_96 rfl ?_
                      refine z_callI C dX9_coach_98 zm_X9_119 zyX0_init (i_coach n (by omega) _ _ _ _ _ _ _ _ _ (if_pos rfl) (if_pos rfl) (if_pos rfl)) (by decide) rfl rfl (Nat.le_of_ble_eq_true rfl) (by decide) (by decide) (fun v98 N98 kd98 iv98 rf98 lw98 hq98 => ?_)
                      obtain ⟨rfl, rfl, hu, k0, k1, k2, i0, i1, i2, r0, r1, r2⟩ := hq98
                      have u0 : ∀ k, k < 91 + 3 * n → kd98 k = skd k ∧ iv98 k = iv k ∧ rf98 k = srf n k := fun k hk => ⟨(hu k hk).1.trans (va_upn _ _ (by omega)), (hu k hk).2.1.trans (va_upn _ _ (by omega)), (hu k hk).2.2.trans (va_upn _ _ (by omega))⟩
                      refine z_aast (n := 8) C dX9_coach_101 ((u0 11 (by omega)).1.trans zk_11) (by decide) k0 (by omega) ?_ ?_
                      · exact vp_in_nI (by omega) (by decide)
                      rw [nI_clamp (by omega)]
                      refine z_aload_n C dX9_coach_102 rfl ?_
                      refine z_dup C dX9_coach_103 rfl ?_
                      refine z_getI C dX9_coach_104 zf_X9_76 ((u0 0 (by omega)).1.trans zk_0) (by decide) ?_
                      rw [(u0 0 (by omega)).2.1, hc]
                      refine z_iconst (v := 1) C dX9_coach_107 (by decide) ?_
                      refine z_iadd C dX9_coach_108 ?_
                      rw [nI_1]
                      refine z_putI C dX9_coach_109 zf_X9_76 ((u0 0 (by omega)).1.trans zk_0) (by decide) ?_
                      refine z_aload_n C dX9_coach_112 rfl ?_
                      refine z_getI C dX9_coach_113 zf_X9_76 ((u0 0 (by omega)).1.trans zk_0) (by decide) ?_
                      rw [zu_ss]
                      refine z_iconst (v := 1) C dX9_coach_116 (by decide) ?_
                      refine z_isub C dX9_coach_117 ?_
                      rw [nI_prd (by omega)]
                      have eN : 91 + 3 * n + 3 = 91 + 3 * (n + 1) := by omega
                      refine z_cg (kd2 := skd) (iv2 := zcoach iv n ki lo fr to st) (rf2 := srf (n + 1)) (fun cA ad k hk => ?_) (by rw [eN]; exact srf_ok (n + 1)) ?_
                      · have hiv : zu iv98 0 3 (nI (n + 1)) k = zcoach iv n ki lo fr to st k := by
                          unfold zcoach
                          by_cases q0 : k = 0
                          · subst q0
                            rw [zu_s, zu_s, (u0 0 (by omega)).2.1, if_neg (by omega), if_neg (by omega)]
                          · rw [zu_n _ _ _ q0, zu_n _ _ _ q0]
                            by_cases q : k < 91 + 3 * n
                            · rw [if_neg (by omega), if_neg (by omega)]; exact (u0 k q).2.1
                            · have q3 : k = 91 + 3 * n ∨ k = 91 + 3 * n + 1 ∨ k = 91 + 3 * n + 2 := by omega
                              rcases q3 with z | z | z
                              · subst z; rw [if_pos rfl]; exact i0
                              · subst z; rw [if_neg (by omega), if_pos (Or.inl rfl)]; exact i1
                              · subst z; rw [if_neg (by omega), if_pos (Or.inr rfl)]; exact i2
                        have hkd : kd98 k = skd k := by
                          by_cases q : k < 91 + 3 * n
                          · exact (u0 k q).1
                          · have q3 : k = 91 + 3 * n ∨ k = 91 + 3 * n + 1 ∨ k = 91 + 3 * n + 2 := by omega
                            rcases q3 with z | z | z
                            · subst z; exact k0.trans (zkc n).symm
                            · subst z; exact k1.trans (zkc1 n).symm
                            · subst z; exact k2.trans (zkc2 n).symm
                        have hrf : zuR rf98 11 n (some (91 + 3 * n)) k = srf (n + 1) k := by
                          by_cases q11 : k = 11
                          · subst q11
                            rw [zuR_s, (u0 11 (by omega)).2.2]
                            exact srf_11 n
                          · rw [zuR_n _ _ _ q11]
                            by_cases q : k < 91 + 3 * n
                            · rw [(u0 k q).2.2, srf_s n k q q11]
                            · have q3 : k = 91 + 3 * n ∨ k = 91 + 3 * n + 1 ∨ k = 91 + 3 * n + 2 := by omega
                              rcases q3 with z | z | z
                              · subst z; exact r0.trans (srf_c n).1
                              · subst z; exact r1.trans (srf_c n).2.1
                              · subst z; exact r2.trans (srf_c n).2.2
                        rw [hiv, hkd, hrf]
                      refine z_iret C E dX9_coach_118 rfl (by decide) (by decide) ?_
                      exact Or.inr ⟨⟨by omega, by omega, by omega, by omega, q56, q68, q74⟩, rfl, eN, rfl, rfl, rfl⟩
                    · refine z_iconst (v := (-1)) C dX9_coach_77 (by decide) ?_
                      refine z_iret C E dX9_coach_78 rfl (by decide) (by decide) ?_
                      exact Or.inl ⟨fun z => by obtain ⟨z1, z2, z3, z4, z5, z6, z7⟩ := z; exact z7 q74, rfl, rfl, rfl, rfl, rfl⟩
              · refine z_iconst (v := (-1)) C dX9_coach_46 (by decide) ?_
                refine z_iret C E dX9_coach_47 rfl (by decide) (by decide) ?_
                exact Or.inl ⟨fun z => by obtain ⟨z1, z2, z3, z4, z5, z6, z7⟩ := z; omega, rfl, rfl, rfl, rfl, rfl⟩
      · refine z_iconst (v := (-1)) C dX9_coach_18 (by decide) ?_
        refine z_iret C E dX9_coach_19 rfl (by decide) (by decide) ?_
        exact Or.inl ⟨fun z => by obtain ⟨z1, z2, z3, z4, z5, z6, z7⟩ := z; omega, rfl, rfl, rfl, rfl, rfl⟩
