/-- what coach() asks -/
def zPco (n inns : Int) (ck ki lo fr to st : Int32) : Prop := n < 8 ∧ (0 ≤ ki.toInt ∧ ki.toInt ≤ 2) ∧ (0 ≤ lo.toInt ∧ lo.toInt ≤ 50) ∧ (ck.toInt ≤ st.toInt ∧ st.toInt ≤ 10000000) ∧ (0 ≤ fr.toInt ∧ fr.toInt < inns) ∧ (0 ≤ to.toInt ∧ to.toInt < inns) ∧ ¬ fr = to
def zmcoach (iv : zI) (n : Nat) (ki lo fr to st : Int32) : zI := zu (zu (zu (zu (zu (zu (zu (zu (zu (zu (zu iv 50 n ki) 51 n lo) 52 n fr) 53 n to) 54 n st) 55 n 0) 56 n fr) 57 n (-1)) 58 n (-1)) 59 n (-1)) 41 11 (nI (n + 1))

set_option maxRecDepth 4000 in
theorem m_coach0 (n : Nat) (iv : zI) (lw : zG) (hc : iv 41 11 = nI n) (hn : n ≤ 8) (ki lo fr to st : Int32) (hP : ¬ zPco n (iv 41 1).toInt (iv 41 0) ki lo fr to st) : zMi yX10_coach cX10_coach 7 (some .int) 1 [.ref 41, .int ki, .int lo, .int fr, .int to, .int st] n iv lw (-1) iv lw := by
  refine zM.of (by decide) (Nat.le_of_ble_eq_true rfl) (fun X C E => ?_)
  change zJs X n 7 0 [some (.ref 41), some (.int ki), some (.int lo), some (.int fr), some (.int to), some (.int st), none] [] iv lw
  refine z_aload_n C dX10_coach_0 rfl ?_
  refine z_getI C dX10_coach_1 zf_X10_165 zk_41 (by decide) ?_
  refine z_bipush (v := 8) C dX10_coach_4 (by decide) ?_
  refine z_icmp_eq (tgt := 67) C dX10_coach_6 (by decide) (fun q6 => ?_) (fun q6 => ?_)
  · refine z_iconst (v := (-1)) C dX10_coach_67 (by decide) ?_
    refine zs_iret C E dX10_coach_68 rfl ?_ ?_ ?_
    · rfl
    · rfl
    · rfl
  · have h6 : ¬ n = 8 := fun z => q6 (by rw [hc, z]; rfl)
    refine z_iload_n C dX10_coach_9 rfl ?_
    refine zt_if_lt (tgt := 67) C dX10_coach_10 rfl (by decide) (fun q10 => ?_) (fun q10 => ?_)
    · refine z_iconst (v := (-1)) C dX10_coach_67 (by decide) ?_
      refine zs_iret C E dX10_coach_68 rfl ?_ ?_ ?_
      · rfl
      · rfl
      · rfl
    · refine z_iload_n C dX10_coach_13 rfl ?_
      refine z_iconst (v := 2) C dX10_coach_14 (by decide) ?_
      refine zt_icmp_gt (tgt := 67) C dX10_coach_15 rfl (show (2 : Int32).toInt = 2 by decide) (by decide) (fun q15 => ?_) (fun q15 => ?_)
      · refine z_iconst (v := (-1)) C dX10_coach_67 (by decide) ?_
        refine zs_iret C E dX10_coach_68 rfl ?_ ?_ ?_
        · rfl
        · rfl
        · rfl
      · refine z_iload_n C dX10_coach_18 rfl ?_
        refine zt_if_lt (tgt := 67) C dX10_coach_19 rfl (by decide) (fun q19 => ?_) (fun q19 => ?_)
        · refine z_iconst (v := (-1)) C dX10_coach_67 (by decide) ?_
          refine zs_iret C E dX10_coach_68 rfl ?_ ?_ ?_
          · rfl
          · rfl
          · rfl
        · refine z_iload_n C dX10_coach_22 rfl ?_
          refine z_bipush (v := 50) C dX10_coach_23 (by decide) ?_
          refine zt_icmp_gt (tgt := 67) C dX10_coach_25 rfl (show (50 : Int32).toInt = 50 by decide) (by decide) (fun q25 => ?_) (fun q25 => ?_)
          · refine z_iconst (v := (-1)) C dX10_coach_67 (by decide) ?_
            refine zs_iret C E dX10_coach_68 rfl ?_ ?_ ?_
            · rfl
            · rfl
            · rfl
          · refine z_aload_n C dX10_coach_28 rfl ?_
            refine z_iload_n C dX10_coach_29 rfl ?_
            refine zs_callVi C dX10_coach_30 zm_X10_180 zyX10_isInn (m_isInn _ _ _ _) zc_10 rfl zk_41 (by decide) (by decide) rfl rfl (Nat.le_of_ble_eq_true rfl) (by decide) (by decide) ?_
            refine zb_if_eq (tgt := 67) C dX10_coach_33 (by decide) (fun q33 => ?_) (fun q33 => ?_)
            · refine z_iconst (v := (-1)) C dX10_coach_67 (by decide) ?_
              refine zs_iret C E dX10_coach_68 rfl ?_ ?_ ?_
              · rfl
              · rfl
              · rfl
            · refine z_aload_n C dX10_coach_36 rfl ?_
              refine z_iload C dX10_coach_37 rfl ?_
              refine zs_callVi C dX10_coach_39 zm_X10_180 zyX10_isInn (m_isInn _ _ _ _) zc_10 rfl zk_41 (by decide) (by decide) rfl rfl (Nat.le_of_ble_eq_true rfl) (by decide) (by decide) ?_
              refine zb_if_eq (tgt := 67) C dX10_coach_42 (by decide) (fun q42 => ?_) (fun q42 => ?_)
              · refine z_iconst (v := (-1)) C dX10_coach_67 (by decide) ?_
                refine zs_iret C E dX10_coach_68 rfl ?_ ?_ ?_
                · rfl
                · rfl
                · rfl
              · refine z_iload_n C dX10_coach_45 rfl ?_
                refine z_iload C dX10_coach_46 rfl ?_
                refine z_icmp_eq (tgt := 67) C dX10_coach_48 (by decide) (fun q48 => ?_) (fun q48 => ?_)
                · refine z_iconst (v := (-1)) C dX10_coach_67 (by decide) ?_
                  refine zs_iret C E dX10_coach_68 rfl ?_ ?_ ?_
                  · rfl
                  · rfl
                  · rfl
                · refine z_iload C dX10_coach_51 rfl ?_
                  refine z_aload_n C dX10_coach_53 rfl ?_
                  refine z_getI C dX10_coach_54 zf_X10_187 zk_41 (by decide) ?_
                  refine zt_icmp_lt (tgt := 67) C dX10_coach_57 rfl rfl (by decide) (fun q57 => ?_) (fun q57 => ?_)
                  · refine z_iconst (v := (-1)) C dX10_coach_67 (by decide) ?_
                    refine zs_iret C E dX10_coach_68 rfl ?_ ?_ ?_
                    · rfl
                    · rfl
                    · rfl
                  · refine z_iload C dX10_coach_60 rfl ?_
                    refine z_ldc C dX10_coach_62 zk_X10_190 ?_
                    refine zt_icmp_le (tgt := 69) C dX10_coach_64 rfl (show (10000000 : Int32).toInt = 10000000 by decide) (by decide) (fun q64 => ?_) (fun q64 => ?_)
                    · exact absurd ⟨by omega, by omega, by omega, by omega, q33, q42, q48⟩ hP
                    · refine z_iconst (v := (-1)) C dX10_coach_67 (by decide) ?_
                      refine zs_iret C E dX10_coach_68 rfl ?_ ?_ ?_
                      · rfl
                      · rfl
                      · rfl

set_option maxRecDepth 4000 in
theorem m_coach1 (n : Nat) (iv : zI) (lw : zG) (hc : iv 41 11 = nI n) (hn : n ≤ 8) (ki lo fr to st : Int32) (hP : zPco n (iv 41 1).toInt (iv 41 0) ki lo fr to st) : zMi yX10_coach cX10_coach 7 (some .int) 1 [.ref 41, .int ki, .int lo, .int fr, .int to, .int st] n iv lw (nI n) (zmcoach iv n ki lo fr to st) lw := by
  refine zM.of (by decide) (Nat.le_of_ble_eq_true rfl) (fun X C E => ?_)
  change zJs X n 7 0 [some (.ref 41), some (.int ki), some (.int lo), some (.int fr), some (.int to), some (.int st), none] [] iv lw
  obtain ⟨p1, p2, p3, p4, p5, p6, p7⟩ := hP
  have p1 : n < 8 := by omega
  refine z_aload_n C dX10_coach_0 rfl ?_
  refine z_getI C dX10_coach_1 zf_X10_165 zk_41 (by decide) ?_
  refine z_bipush (v := 8) C dX10_coach_4 (by decide) ?_
  refine z_icmp_eq (tgt := 67) C dX10_coach_6 (by decide) (fun q6 => ?_) (fun q6 => ?_)
  · rw [hc] at q6; have q7 := congrArg Int32.toInt q6; rw [nI_toInt (by omega), show (8 : Int32).toInt = 8 by decide] at q7; omega
  · refine z_iload_n C dX10_coach_9 rfl ?_
    refine zt_if_lt (tgt := 67) C dX10_coach_10 rfl (by decide) (fun q10 => ?_) (fun q10 => ?_)
    · exfalso; omega
    · refine z_iload_n C dX10_coach_13 rfl ?_
      refine z_iconst (v := 2) C dX10_coach_14 (by decide) ?_
      refine zt_icmp_gt (tgt := 67) C dX10_coach_15 rfl (show (2 : Int32).toInt = 2 by decide) (by decide) (fun q15 => ?_) (fun q15 => ?_)
      · exfalso; omega
      · refine z_iload_n C dX10_coach_18 rfl ?_
        refine zt_if_lt (tgt := 67) C dX10_coach_19 rfl (by decide) (fun q19 => ?_) (fun q19 => ?_)
        · exfalso; omega
        · refine z_iload_n C dX10_coach_22 rfl ?_
          refine z_bipush (v := 50) C dX10_coach_23 (by decide) ?_
          refine zt_icmp_gt (tgt := 67) C dX10_coach_25 rfl (show (50 : Int32).toInt = 50 by decide) (by decide) (fun q25 => ?_) (fun q25 => ?_)
          · exfalso; omega
          · refine z_aload_n C dX10_coach_28 rfl ?_
            refine z_iload_n C dX10_coach_29 rfl ?_
            refine zs_callVi C dX10_coach_30 zm_X10_180 zyX10_isInn (m_isInn _ _ _ _) zc_10 rfl zk_41 (by decide) (by decide) rfl rfl (Nat.le_of_ble_eq_true rfl) (by decide) (by decide) ?_
            refine zb_if_eq (tgt := 67) C dX10_coach_33 (by decide) (fun q33 => ?_) (fun q33 => ?_)
            · exact absurd p5 q33
            · refine z_aload_n C dX10_coach_36 rfl ?_
              refine z_iload C dX10_coach_37 rfl ?_
              refine zs_callVi C dX10_coach_39 zm_X10_180 zyX10_isInn (m_isInn _ _ _ _) zc_10 rfl zk_41 (by decide) (by decide) rfl rfl (Nat.le_of_ble_eq_true rfl) (by decide) (by decide) ?_
              refine zb_if_eq (tgt := 67) C dX10_coach_42 (by decide) (fun q42 => ?_) (fun q42 => ?_)
              · exact absurd p6 q42
              · refine z_iload_n C dX10_coach_45 rfl ?_
                refine z_iload C dX10_coach_46 rfl ?_
                refine z_icmp_eq (tgt := 67) C dX10_coach_48 (by decide) (fun q48 => ?_) (fun q48 => ?_)
                · exact absurd q48 p7
                · refine z_iload C dX10_coach_51 rfl ?_
                  refine z_aload_n C dX10_coach_53 rfl ?_
                  refine z_getI C dX10_coach_54 zf_X10_187 zk_41 (by decide) ?_
                  refine zt_icmp_lt (tgt := 67) C dX10_coach_57 rfl rfl (by decide) (fun q57 => ?_) (fun q57 => ?_)
                  · exfalso; omega
                  · refine z_iload C dX10_coach_60 rfl ?_
                    refine z_ldc C dX10_coach_62 zk_X10_190 ?_
                    refine zt_icmp_le (tgt := 69) C dX10_coach_64 rfl (show (10000000 : Int32).toInt = 10000000 by decide) (by decide) (fun q64 => ?_) (fun q64 => ?_)
                    · refine z_aload_n C dX10_coach_69 rfl ?_
                      refine z_getI C dX10_coach_70 zf_X10_165 zk_41 (by decide) ?_
                      refine z_eqi hc ?_
                      refine z_istore (lv' := [some (.ref 41), some (.int ki), some (.int lo), some (.int fr), some (.int to), some (.int st), some (.int _)]) C dX10_coach_73 (by decide) rfl ?_
                      refine z_aload_n C dX10_coach_75 rfl ?_
                      refine zs_getR C dX10_coach_76 zf_X10_38 zk_41 (by decide) (zr_41_12 n) ?_
                      refine z_iload C dX10_coach_79 rfl ?_
                      refine z_iload_n C dX10_coach_81 rfl ?_
                      refine z_iast C dX10_coach_82 zk_50 (by decide) ?_ ?_
                      · exact vp_in_nI (by omega) (by decide)
                      refine z_aload_n C dX10_coach_83 rfl ?_
                      refine zs_getR C dX10_coach_84 zf_X10_41 zk_41 (by decide) (zr_41_13 n) ?_
                      refine z_iload C dX10_coach_87 rfl ?_
                      refine z_iload_n C dX10_coach_89 rfl ?_
                      refine z_iast C dX10_coach_90 zk_51 (by decide) ?_ ?_
                      · exact vp_in_nI (by omega) (by decide)
                      refine z_aload_n C dX10_coach_91 rfl ?_
                      refine zs_getR C dX10_coach_92 zf_X10_44 zk_41 (by decide) (zr_41_14 n) ?_
                      refine z_iload C dX10_coach_95 rfl ?_
                      refine z_iload_n C dX10_coach_97 rfl ?_
                      refine z_iast C dX10_coach_98 zk_52 (by decide) ?_ ?_
                      · exact vp_in_nI (by omega) (by decide)
                      refine z_aload_n C dX10_coach_99 rfl ?_
                      refine zs_getR C dX10_coach_100 zf_X10_47 zk_41 (by decide) (zr_41_15 n) ?_
                      refine z_iload C dX10_coach_103 rfl ?_
                      refine z_iload C dX10_coach_105 rfl ?_
                      refine z_iast C dX10_coach_107 zk_53 (by decide) ?_ ?_
                      · exact vp_in_nI (by omega) (by decide)
                      refine z_aload_n C dX10_coach_108 rfl ?_
                      refine zs_getR C dX10_coach_109 zf_X10_50 zk_41 (by decide) (zr_41_16 n) ?_
                      refine z_iload C dX10_coach_112 rfl ?_
                      refine z_iload C dX10_coach_114 rfl ?_
                      refine z_iast C dX10_coach_116 zk_54 (by decide) ?_ ?_
                      · exact vp_in_nI (by omega) (by decide)
                      refine z_aload_n C dX10_coach_117 rfl ?_
                      refine zs_getR C dX10_coach_118 zf_X10_53 zk_41 (by decide) (zr_41_17 n) ?_
                      refine z_iload C dX10_coach_121 rfl ?_
                      refine z_iconst (v := 0) C dX10_coach_123 (by decide) ?_
                      refine z_iast C dX10_coach_124 zk_55 (by decide) ?_ ?_
                      · exact vp_in_nI (by omega) (by decide)
                      refine z_aload_n C dX10_coach_125 rfl ?_
                      refine zs_getR C dX10_coach_126 zf_X10_56 zk_41 (by decide) (zr_41_18 n) ?_
                      refine z_iload C dX10_coach_129 rfl ?_
                      refine z_iload_n C dX10_coach_131 rfl ?_
                      refine z_iast C dX10_coach_132 zk_56 (by decide) ?_ ?_
                      · exact vp_in_nI (by omega) (by decide)
                      refine z_aload_n C dX10_coach_133 rfl ?_
                      refine zs_getR C dX10_coach_134 zf_X10_59 zk_41 (by decide) (zr_41_19 n) ?_
                      refine z_iload C dX10_coach_137 rfl ?_
                      refine z_iconst (v := (-1)) C dX10_coach_139 (by decide) ?_
                      refine z_iast C dX10_coach_140 zk_57 (by decide) ?_ ?_
                      · exact vp_in_nI (by omega) (by decide)
                      refine z_aload_n C dX10_coach_141 rfl ?_
                      refine zs_getR C dX10_coach_142 zf_X10_62 zk_41 (by decide) (zr_41_20 n) ?_
                      refine z_iload C dX10_coach_145 rfl ?_
                      refine z_iconst (v := (-1)) C dX10_coach_147 (by decide) ?_
                      refine z_iast C dX10_coach_148 zk_58 (by decide) ?_ ?_
                      · exact vp_in_nI (by omega) (by decide)
                      refine z_aload_n C dX10_coach_149 rfl ?_
                      refine zs_getR C dX10_coach_150 zf_X10_65 zk_41 (by decide) (zr_41_21 n) ?_
                      refine z_iload C dX10_coach_153 rfl ?_
                      refine z_iconst (v := (-1)) C dX10_coach_155 (by decide) ?_
                      refine z_iast C dX10_coach_156 zk_59 (by decide) ?_ ?_
                      · exact vp_in_nI (by omega) (by decide)
                      refine z_aload_n C dX10_coach_157 rfl ?_
                      refine z_dup C dX10_coach_158 rfl ?_
                      refine z_getI C dX10_coach_159 zf_X10_165 zk_41 (by decide) ?_
                      refine z_iconst (v := 1) C dX10_coach_162 (by decide) ?_
                      refine z_iadd C dX10_coach_163 ?_
                      refine z_putI C dX10_coach_164 zf_X10_165 zk_41 (by decide) ?_
                      refine z_iload C dX10_coach_167 rfl ?_
                      refine zs_iret C E dX10_coach_169 rfl ?_ ?_ ?_
                      · rfl
                      · simp only [nI_clamp (show n < 2 ^ 31 by omega)]
                        unfold zmcoach
                        rw [show zu (zu (zu (zu (zu (zu (zu (zu (zu (zu iv 50 n ki) 51 n lo) 52 n fr) 53 n to) 54 n st) 55 n 0) 56 n fr) 57 n (-1)) 58 n (-1)) 59 n (-1) 41 11 = nI n from hc, nI_1]
                      · rfl
                    · exfalso; omega

/-! money parted -/
def zpq (am all f : Int32) : Int64 := am.toInt64 * f.toInt64 / all.toInt64
def zpr (am all f : Int32) : Int64 := am.toInt64 * f.toInt64 - am.toInt64 * f.toInt64 / all.toInt64 * all.toInt64
def zpleft (am all : Int32) (F : Nat → Int32) : Nat → Int64
  | 0 => am.toInt64
  | m + 1 => zpleft am all F m - zpq am all (F m)
def zpah (am all : Int32) (F : Nat → Int32) (w : Int32) : Nat → Int32
  | 0 => 0
  | m + 1 => zpah am all F w m + (if 0 < (lg_cmp (zpr am all (F m)) (zpr am all (F w.toNatClampNeg))).toInt ∨ (lg_cmp (zpr am all (F m)) (zpr am all (F w.toNatClampNeg)) = 0 ∧ (m : Int) < w.toInt) then 1 else 0)
def zpart (am all : Int32) (F : Nat → Int32) (w : Int32) : Int32 := (zpq am all (F w.toNatClampNeg)).toInt32 + (if (lg_cmp (zpah am all F w 4).toInt64 (zpleft am all F 4)).toInt < 0 then 1 else 0)
theorem z64ne {x : Int32} (h : 0 < x.toInt) : ¬ x.toInt64 = 0 := by
  intro z
  have := congrArg Int64.toInt z
  rw [Int32.toInt_toInt64, show (0 : Int64).toInt = 0 by decide] at this
  omega
/-- locals fewer of which are known -/
def zdp : zLs → zLs → Prop
  | [], _ => True
  | none :: a, _ :: b => zdp a b
  | some x :: a, y :: b => some x = y ∧ zdp a b
  | _ :: _, [] => False
theorem zdp.sub : ∀ {lv lv2 : zLs}, zdp lv lv2 → ∀ (k : Nat) (v : Value), lv[k]? = some (some v) → lv2[k]? = some (some v)
  | [], _, _, k, v, hv => by simp at hv
  | none :: a, y :: b, h, 0, v, hv => by simp at hv
  | none :: a, y :: b, h, k + 1, v, hv => zdp.sub (lv := a) (lv2 := b) h k v hv
  | some x :: a, y :: b, h, 0, v, hv => by rw [← h.1]; exact hv
  | some x :: a, y :: b, h, k + 1, v, hv => zdp.sub (lv := a) (lv2 := b) h.2 k v hv
  | none :: a, [], h, _, _, _ => absurd h (by simp [zdp])
  | some x :: a, [], h, _, _, _ => absurd h (by simp [zdp])
theorem lg_zt {x y : Int64} : (lg_cmp x y).toInt = (lg_cmp x y).toInt := rfl

theorem zlv_i {a : Nat} {X : zX} {N0 nL pc : Nat} {l1 : zLs} {x y : Int64} {l2 : zLs} {st : List Value} {N : Nat} {kd : zD} {iv : zI} {rf : zF} {lw : zG} {cells slots : Nat} (h : x = y) (k : zJ X N0 nL pc (l1 ++ some (.long y) :: l2) st N kd iv rf lw cells slots) : zJ X N0 nL pc (l1 ++ some (.long x) :: l2) st N kd iv rf lw cells slots := h ▸ k

set_option maxHeartbeats 1000000 in
set_option maxRecDepth 4000 in
theorem lp_share (n : Nat) (iv : zI) (lw : zG) (am w : Int32) (hI : 2 ≤ (iv 1 0).toInt ∧ (iv 1 0).toInt ≤ 8) (m : Nat) (hm : ((m : Nat) : Int) = (iv 1 0).toInt - 1) (hA : 0 < (zsum (iv 2) m).toInt) (hw : 0 ≤ w.toInt ∧ w.toInt < 4) (F : Nat → Int32) (hF : ∀ o, F o = zsum (fun j => if iv 5 j = nI o then iv 2 j else 0) m) {X : zX} (C : zC X cX2_shareOf 14 RX2 (some .int) "shareOf" 1 0 0) (E : zEnd X (91 + 3 * n) 0 0 (zQ n (zQi (zpart am (zsum (iv 2) m) F w) iv lw))) : ∀ (k : Nat) (i : Nat), i + k = 4 → zJs X n 14 53 [some (.ref 1), some (.int am), some (.int w), some (.int (zsum (iv 2) m)), some (.long (am.toInt64 * (F w.toNatClampNeg).toInt64)), none, some (.long (zpleft am (zsum (iv 2) m) F i)), none, some (.int (zpah am (zsum (iv 2) m) F w i)), some (.int (nI i)), none, none, none, none] [] iv lw := by
  intro k
  induction k with
  | zero =>
    intro i hk
    refine z_iload C dX2_shareOf_53 rfl ?_
    refine z_iconst (v := 4) C dX2_shareOf_55 (by decide) ?_
    refine zt_icmp_ge (tgt := 155) C dX2_shareOf_56 (nI_toInt (by omega)) (show (4 : Int32).toInt = 4 by decide) (by decide) (fun q56 => ?_) (fun q56 => ?_)
    · refine z_lload C dX2_shareOf_155 rfl ?_
      refine z_iload_n C dX2_shareOf_157 rfl ?_
      refine z_i2l C dX2_shareOf_158 ?_
      refine z_ldiv C dX2_shareOf_159 (z64ne hA) ?_
      refine z_l2i C dX2_shareOf_160 ?_
      refine z_iload C dX2_shareOf_161 rfl ?_
      refine z_i2l C dX2_shareOf_163 ?_
      refine z_lload C dX2_shareOf_164 rfl ?_
      refine z_lcmp C dX2_shareOf_166 ?_
      refine zt_if_ge (tgt := 174) C dX2_shareOf_167 rfl (by decide) (fun q167 => ?_) (fun q167 => ?_)
      · refine z_iconst (v := 0) C dX2_shareOf_174 (by decide) ?_
        refine z_iadd C dX2_shareOf_175 ?_
        refine zs_iret C E dX2_shareOf_176 rfl ?_ ?_ ?_
        · have e4 : i = 4 := by omega
          subst e4
          exact congrArg _ (if_neg (show ¬ (lg_cmp (zpah am (zsum (iv 2) m) F w 4).toInt64 (zpleft am (zsum (iv 2) m) F 4)).toInt < 0 by omega)).symm
        · rfl
        · rfl
      · refine z_iconst (v := 1) C dX2_shareOf_170 (by decide) ?_
        refine z_goto (tgt := 175) C dX2_shareOf_171 (by decide) ?_
        refine z_iadd C dX2_shareOf_175 ?_
        refine zs_iret C E dX2_shareOf_176 rfl ?_ ?_ ?_
        · have e4 : i = 4 := by omega
          subst e4
          exact congrArg _ (if_pos (show (lg_cmp (zpah am (zsum (iv 2) m) F w 4).toInt64 (zpleft am (zsum (iv 2) m) F 4)).toInt < 0 by omega)).symm
        · rfl
        · rfl
    · exfalso; omega
  | succ k ih =>
    intro i hk
    refine z_iload C dX2_shareOf_53 rfl ?_
    refine z_iconst (v := 4) C dX2_shareOf_55 (by decide) ?_
    refine zt_icmp_ge (tgt := 155) C dX2_shareOf_56 (nI_toInt (by omega)) (show (4 : Int32).toInt = 4 by decide) (by decide) (fun q56 => ?_) (fun q56 => ?_)
    · exfalso; omega
    · refine z_iload_n C dX2_shareOf_59 rfl ?_
      refine z_i2l C dX2_shareOf_60 ?_
      refine z_aload_n C dX2_shareOf_61 rfl ?_
      refine z_iload C dX2_shareOf_62 rfl ?_
      refine zs_callVi C dX2_shareOf_64 zm_X2_52 zyX2_milesOf (c_milesOf n iv _ hI (nI i) m hm) zc_2 rfl zk_1 (by decide) (by decide) rfl rfl (Nat.le_of_ble_eq_true rfl) (by decide) (by decide) ?_
      refine z_eqi (hF i).symm ?_
      refine z_i2l C dX2_shareOf_67 ?_
      refine z_lmul C dX2_shareOf_68 ?_
      refine z_lstore (lv' := [some (.ref 1), some (.int am), some (.int w), some (.int _), some (.long _), none, some (.long _), none, some (.int _), some (.int _), some (.long _), none, none, none]) C dX2_shareOf_69 (by decide) rfl ?_
      refine z_lload C dX2_shareOf_71 rfl ?_
      refine z_lload C dX2_shareOf_73 rfl ?_
      refine z_iload_n C dX2_shareOf_75 rfl ?_
      refine z_i2l C dX2_shareOf_76 ?_
      refine z_ldiv C dX2_shareOf_77 (z64ne hA) ?_
      refine z_lsub C dX2_shareOf_78 ?_
      refine z_lstore (lv' := [some (.ref 1), some (.int am), some (.int w), some (.int _), some (.long _), none, some (.long _), none, some (.int _), some (.int _), some (.long _), none, none, none]) C dX2_shareOf_79 (by decide) rfl ?_
      refine z_lload C dX2_shareOf_81 rfl ?_
      refine z_iload_n C dX2_shareOf_83 rfl ?_
      refine z_i2l C dX2_shareOf_84 ?_
      refine z_lrem C dX2_shareOf_85 (z64ne hA) ?_
      refine z_lload C dX2_shareOf_86 rfl ?_
      refine z_iload_n C dX2_shareOf_88 rfl ?_
      refine z_i2l C dX2_shareOf_89 ?_
      refine z_lrem C dX2_shareOf_90 (z64ne hA) ?_
      refine z_lcmp C dX2_shareOf_91 ?_
      refine zt_if_le (tgt := 99) C dX2_shareOf_92 rfl (by decide) (fun q92 => ?_) (fun q92 => ?_)
      · refine z_iconst (v := 0) C dX2_shareOf_99 (by decide) ?_
        refine z_istore (lv' := [some (.ref 1), some (.int am), some (.int w), some (.int _), some (.long _), none, some (.long _), none, some (.int _), some (.int _), some (.long _), none, some (.int _), none]) C dX2_shareOf_100 (by decide) rfl ?_
        refine z_lload C dX2_shareOf_102 rfl ?_
        refine z_iload_n C dX2_shareOf_104 rfl ?_
        refine z_i2l C dX2_shareOf_105 ?_
        refine z_lrem C dX2_shareOf_106 (z64ne hA) ?_
        refine z_lload C dX2_shareOf_107 rfl ?_
        refine z_iload_n C dX2_shareOf_109 rfl ?_
        refine z_i2l C dX2_shareOf_110 ?_
        refine z_lrem C dX2_shareOf_111 (z64ne hA) ?_
        refine z_lcmp C dX2_shareOf_112 ?_
        refine z_if_ne (tgt := 126) C dX2_shareOf_113 (by decide) (fun q113 => ?_) (fun q113 => ?_)
        · refine z_iconst (v := 0) C dX2_shareOf_126 (by decide) ?_
          refine z_istore (lv' := [some (.ref 1), some (.int am), some (.int w), some (.int _), some (.long _), none, some (.long _), none, some (.int _), some (.int _), some (.long _), none, some (.int _), some (.int _)]) C dX2_shareOf_127 (by decide) rfl ?_
          refine z_iload C dX2_shareOf_129 rfl ?_
          refine z_iload C dX2_shareOf_131 rfl ?_
          refine z_if_ne (tgt := 141) C dX2_shareOf_133 (by decide) (fun q133 => ?_) (fun q133 => ?_)
          · exact absurd q133 (by decide)
          · refine z_iload C dX2_shareOf_136 rfl ?_
            refine z_if_eq (tgt := 145) C dX2_shareOf_138 (by decide) (fun q138 => ?_) (fun q138 => ?_)
            · refine z_iconst (v := 0) C dX2_shareOf_145 (by decide) ?_
              refine z_iadd C dX2_shareOf_146 ?_
              refine z_istore (lv' := [some (.ref 1), some (.int am), some (.int w), some (.int _), some (.long _), none, some (.long _), none, some (.int _), some (.int _), some (.long _), none, some (.int _), some (.int _)]) C dX2_shareOf_147 (by decide) rfl ?_
              refine z_iinc (y := 1) (lv' := [some (.ref 1), some (.int am), some (.int w), some (.int _), some (.long _), none, some (.long _), none, some (.int _), some (.int _), some (.long _), none, some (.int _), some (.int _)]) C dX2_shareOf_149 rfl (by decide) (by decide) rfl ?_
              refine z_goto (tgt := 53) C dX2_shareOf_152 (by decide) ?_
              rw [nI_1 i]
              have g1 : (lg_cmp (zpr am (zsum (iv 2) m) (F i)) (zpr am (zsum (iv 2) m) (F w.toNatClampNeg))).toInt ≤ 0 := q92
              have g2 : ¬ (lg_cmp (zpr am (zsum (iv 2) m) (F i)) (zpr am (zsum (iv 2) m) (F w.toNatClampNeg))) = 0 := q113
              have e1 : zpah am (zsum (iv 2) m) F w i + 0 = zpah am (zsum (iv 2) m) F w (i + 1) := by
                rw [zpah, if_neg (fun z => by rcases z with z | ⟨z1, z2⟩ <;> first | omega | exact g2 z1)]
              rw [e1]
              have e := ih (i + 1) (by omega)
              exact z_sub (zdp.sub (by repeat (first | exact True.intro | refine And.intro rfl ?_))) e
            · exact absurd q138 (by decide)
        · refine z_iload C dX2_shareOf_116 rfl ?_
          refine z_iload_n C dX2_shareOf_118 rfl ?_
          refine zt_icmp_ge (tgt := 126) C dX2_shareOf_119 (nI_toInt (by omega)) rfl (by decide) (fun q119 => ?_) (fun q119 => ?_)
          · refine z_iconst (v := 0) C dX2_shareOf_126 (by decide) ?_
            refine z_istore (lv' := [some (.ref 1), some (.int am), some (.int w), some (.int _), some (.long _), none, some (.long _), none, some (.int _), some (.int _), some (.long _), none, some (.int _), some (.int _)]) C dX2_shareOf_127 (by decide) rfl ?_
            refine z_iload C dX2_shareOf_129 rfl ?_
            refine z_iload C dX2_shareOf_131 rfl ?_
            refine z_if_ne (tgt := 141) C dX2_shareOf_133 (by decide) (fun q133 => ?_) (fun q133 => ?_)
            · exact absurd q133 (by decide)
            · refine z_iload C dX2_shareOf_136 rfl ?_
              refine z_if_eq (tgt := 145) C dX2_shareOf_138 (by decide) (fun q138 => ?_) (fun q138 => ?_)
              · refine z_iconst (v := 0) C dX2_shareOf_145 (by decide) ?_
                refine z_iadd C dX2_shareOf_146 ?_
                refine z_istore (lv' := [some (.ref 1), some (.int am), some (.int w), some (.int _), some (.long _), none, some (.long _), none, some (.int _), some (.int _), some (.long _), none, some (.int _), some (.int _)]) C dX2_shareOf_147 (by decide) rfl ?_
                refine z_iinc (y := 1) (lv' := [some (.ref 1), some (.int am), some (.int w), some (.int _), some (.long _), none, some (.long _), none, some (.int _), some (.int _), some (.long _), none, some (.int _), some (.int _)]) C dX2_shareOf_149 rfl (by decide) (by decide) rfl ?_
                refine z_goto (tgt := 53) C dX2_shareOf_152 (by decide) ?_
                rw [nI_1 i]
                have g1 : (lg_cmp (zpr am (zsum (iv 2) m) (F i)) (zpr am (zsum (iv 2) m) (F w.toNatClampNeg))).toInt ≤ 0 := q92
                have g2 : (lg_cmp (zpr am (zsum (iv 2) m) (F i)) (zpr am (zsum (iv 2) m) (F w.toNatClampNeg))) = 0 := q113
                have e1 : zpah am (zsum (iv 2) m) F w i + 0 = zpah am (zsum (iv 2) m) F w (i + 1) := by
                  rw [zpah, if_neg (fun z => by rcases z with z | ⟨z1, z2⟩ <;> first | omega | exact g2 z1)]
                rw [e1]
                have e := ih (i + 1) (by omega)
                exact z_sub (zdp.sub (by repeat (first | exact True.intro | refine And.intro rfl ?_))) e
              · exact absurd q138 (by decide)
          · refine z_iconst (v := 1) C dX2_shareOf_122 (by decide) ?_
            refine z_goto (tgt := 127) C dX2_shareOf_123 (by decide) ?_
            refine z_istore (lv' := [some (.ref 1), some (.int am), some (.int w), some (.int _), some (.long _), none, some (.long _), none, some (.int _), some (.int _), some (.long _), none, some (.int _), some (.int _)]) C dX2_shareOf_127 (by decide) rfl ?_
            refine z_iload C dX2_shareOf_129 rfl ?_
            refine z_iload C dX2_shareOf_131 rfl ?_
            refine z_if_ne (tgt := 141) C dX2_shareOf_133 (by decide) (fun q133 => ?_) (fun q133 => ?_)
            · exact absurd q133 (by decide)
            · refine z_iload C dX2_shareOf_136 rfl ?_
              refine z_if_eq (tgt := 145) C dX2_shareOf_138 (by decide) (fun q138 => ?_) (fun q138 => ?_)
              · exact absurd q138 (by decide)
              · refine z_iconst (v := 1) C dX2_shareOf_141 (by decide) ?_
                refine z_goto (tgt := 146) C dX2_shareOf_142 (by decide) ?_
                refine z_iadd C dX2_shareOf_146 ?_
                refine z_istore (lv' := [some (.ref 1), some (.int am), some (.int w), some (.int _), some (.long _), none, some (.long _), none, some (.int _), some (.int _), some (.long _), none, some (.int _), some (.int _)]) C dX2_shareOf_147 (by decide) rfl ?_
                refine z_iinc (y := 1) (lv' := [some (.ref 1), some (.int am), some (.int w), some (.int _), some (.long _), none, some (.long _), none, some (.int _), some (.int _), some (.long _), none, some (.int _), some (.int _)]) C dX2_shareOf_149 rfl (by decide) (by decide) rfl ?_
                refine z_goto (tgt := 53) C dX2_shareOf_152 (by decide) ?_
                rw [nI_1 i]
                have g1 : (lg_cmp (zpr am (zsum (iv 2) m) (F i)) (zpr am (zsum (iv 2) m) (F w.toNatClampNeg))).toInt ≤ 0 := q92
                have g2 : (lg_cmp (zpr am (zsum (iv 2) m) (F i)) (zpr am (zsum (iv 2) m) (F w.toNatClampNeg))) = 0 := q113
                have e1 : zpah am (zsum (iv 2) m) F w i + 1 = zpah am (zsum (iv 2) m) F w (i + 1) := by
                  rw [zpah, if_pos (Or.inr ⟨g2, by omega⟩)]
                rw [e1]
                have e := ih (i + 1) (by omega)
                exact z_sub (zdp.sub (by repeat (first | exact True.intro | refine And.intro rfl ?_))) e
      · refine z_iconst (v := 1) C dX2_shareOf_95 (by decide) ?_
        refine z_goto (tgt := 100) C dX2_shareOf_96 (by decide) ?_
        refine z_istore (lv' := [some (.ref 1), some (.int am), some (.int w), some (.int _), some (.long _), none, some (.long _), none, some (.int _), some (.int _), some (.long _), none, some (.int _), none]) C dX2_shareOf_100 (by decide) rfl ?_
        refine z_lload C dX2_shareOf_102 rfl ?_
        refine z_iload_n C dX2_shareOf_104 rfl ?_
        refine z_i2l C dX2_shareOf_105 ?_
        refine z_lrem C dX2_shareOf_106 (z64ne hA) ?_
        refine z_lload C dX2_shareOf_107 rfl ?_
        refine z_iload_n C dX2_shareOf_109 rfl ?_
        refine z_i2l C dX2_shareOf_110 ?_
        refine z_lrem C dX2_shareOf_111 (z64ne hA) ?_
        refine z_lcmp C dX2_shareOf_112 ?_
        refine z_if_ne (tgt := 126) C dX2_shareOf_113 (by decide) (fun q113 => ?_) (fun q113 => ?_)
        · refine z_iconst (v := 0) C dX2_shareOf_126 (by decide) ?_
          refine z_istore (lv' := [some (.ref 1), some (.int am), some (.int w), some (.int _), some (.long _), none, some (.long _), none, some (.int _), some (.int _), some (.long _), none, some (.int _), some (.int _)]) C dX2_shareOf_127 (by decide) rfl ?_
          refine z_iload C dX2_shareOf_129 rfl ?_
          refine z_iload C dX2_shareOf_131 rfl ?_
          refine z_if_ne (tgt := 141) C dX2_shareOf_133 (by decide) (fun q133 => ?_) (fun q133 => ?_)
          · refine z_iconst (v := 1) C dX2_shareOf_141 (by decide) ?_
            refine z_goto (tgt := 146) C dX2_shareOf_142 (by decide) ?_
            refine z_iadd C dX2_shareOf_146 ?_
            refine z_istore (lv' := [some (.ref 1), some (.int am), some (.int w), some (.int _), some (.long _), none, some (.long _), none, some (.int _), some (.int _), some (.long _), none, some (.int _), some (.int _)]) C dX2_shareOf_147 (by decide) rfl ?_
            refine z_iinc (y := 1) (lv' := [some (.ref 1), some (.int am), some (.int w), some (.int _), some (.long _), none, some (.long _), none, some (.int _), some (.int _), some (.long _), none, some (.int _), some (.int _)]) C dX2_shareOf_149 rfl (by decide) (by decide) rfl ?_
            refine z_goto (tgt := 53) C dX2_shareOf_152 (by decide) ?_
            rw [nI_1 i]
            have g1 : ¬ (lg_cmp (zpr am (zsum (iv 2) m) (F i)) (zpr am (zsum (iv 2) m) (F w.toNatClampNeg))).toInt ≤ 0 := q92
            have g2 : ¬ (lg_cmp (zpr am (zsum (iv 2) m) (F i)) (zpr am (zsum (iv 2) m) (F w.toNatClampNeg))) = 0 := q113
            have e1 : zpah am (zsum (iv 2) m) F w i + 1 = zpah am (zsum (iv 2) m) F w (i + 1) := by
              rw [zpah, if_pos (Or.inl (by omega))]
            rw [e1]
            have e := ih (i + 1) (by omega)
            exact z_sub (zdp.sub (by repeat (first | exact True.intro | refine And.intro rfl ?_))) e
          · exact absurd q133 (by decide)
        · refine z_iload C dX2_shareOf_116 rfl ?_
          refine z_iload_n C dX2_shareOf_118 rfl ?_
          refine zt_icmp_ge (tgt := 126) C dX2_shareOf_119 (nI_toInt (by omega)) rfl (by decide) (fun q119 => ?_) (fun q119 => ?_)
          · refine z_iconst (v := 0) C dX2_shareOf_126 (by decide) ?_
            refine z_istore (lv' := [some (.ref 1), some (.int am), some (.int w), some (.int _), some (.long _), none, some (.long _), none, some (.int _), some (.int _), some (.long _), none, some (.int _), some (.int _)]) C dX2_shareOf_127 (by decide) rfl ?_
            refine z_iload C dX2_shareOf_129 rfl ?_
            refine z_iload C dX2_shareOf_131 rfl ?_
            refine z_if_ne (tgt := 141) C dX2_shareOf_133 (by decide) (fun q133 => ?_) (fun q133 => ?_)
            · refine z_iconst (v := 1) C dX2_shareOf_141 (by decide) ?_
              refine z_goto (tgt := 146) C dX2_shareOf_142 (by decide) ?_
              refine z_iadd C dX2_shareOf_146 ?_
              refine z_istore (lv' := [some (.ref 1), some (.int am), some (.int w), some (.int _), some (.long _), none, some (.long _), none, some (.int _), some (.int _), some (.long _), none, some (.int _), some (.int _)]) C dX2_shareOf_147 (by decide) rfl ?_
              refine z_iinc (y := 1) (lv' := [some (.ref 1), some (.int am), some (.int w), some (.int _), some (.long _), none, some (.long _), none, some (.int _), some (.int _), some (.long _), none, some (.int _), some (.int _)]) C dX2_shareOf_149 rfl (by decide) (by decide) rfl ?_
              refine z_goto (tgt := 53) C dX2_shareOf_152 (by decide) ?_
              rw [nI_1 i]
              have g1 : ¬ (lg_cmp (zpr am (zsum (iv 2) m) (F i)) (zpr am (zsum (iv 2) m) (F w.toNatClampNeg))).toInt ≤ 0 := q92
              have g2 : (lg_cmp (zpr am (zsum (iv 2) m) (F i)) (zpr am (zsum (iv 2) m) (F w.toNatClampNeg))) = 0 := q113
              have e1 : zpah am (zsum (iv 2) m) F w i + 1 = zpah am (zsum (iv 2) m) F w (i + 1) := by
                rw [zpah, if_pos (Or.inl (by omega))]
              rw [e1]
              have e := ih (i + 1) (by omega)
              exact z_sub (zdp.sub (by repeat (first | exact True.intro | refine And.intro rfl ?_))) e
            · exact absurd q133 (by decide)
          · refine z_iconst (v := 1) C dX2_shareOf_122 (by decide) ?_
            refine z_goto (tgt := 127) C dX2_shareOf_123 (by decide) ?_
            refine z_istore (lv' := [some (.ref 1), some (.int am), some (.int w), some (.int _), some (.long _), none, some (.long _), none, some (.int _), some (.int _), some (.long _), none, some (.int _), some (.int _)]) C dX2_shareOf_127 (by decide) rfl ?_
            refine z_iload C dX2_shareOf_129 rfl ?_
            refine z_iload C dX2_shareOf_131 rfl ?_
            refine z_if_ne (tgt := 141) C dX2_shareOf_133 (by decide) (fun q133 => ?_) (fun q133 => ?_)
            · refine z_iconst (v := 1) C dX2_shareOf_141 (by decide) ?_
              refine z_goto (tgt := 146) C dX2_shareOf_142 (by decide) ?_
              refine z_iadd C dX2_shareOf_146 ?_
              refine z_istore (lv' := [some (.ref 1), some (.int am), some (.int w), some (.int _), some (.long _), none, some (.long _), none, some (.int _), some (.int _), some (.long _), none, some (.int _), some (.int _)]) C dX2_shareOf_147 (by decide) rfl ?_
              refine z_iinc (y := 1) (lv' := [some (.ref 1), some (.int am), some (.int w), some (.int _), some (.long _), none, some (.long _), none, some (.int _), some (.int _), some (.long _), none, some (.int _), some (.int _)]) C dX2_shareOf_149 rfl (by decide) (by decide) rfl ?_
              refine z_goto (tgt := 53) C dX2_shareOf_152 (by decide) ?_
              rw [nI_1 i]
              have g1 : ¬ (lg_cmp (zpr am (zsum (iv 2) m) (F i)) (zpr am (zsum (iv 2) m) (F w.toNatClampNeg))).toInt ≤ 0 := q92
              have g2 : (lg_cmp (zpr am (zsum (iv 2) m) (F i)) (zpr am (zsum (iv 2) m) (F w.toNatClampNeg))) = 0 := q113
              have e1 : zpah am (zsum (iv 2) m) F w i + 1 = zpah am (zsum (iv 2) m) F w (i + 1) := by
                rw [zpah, if_pos (Or.inl (by omega))]
              rw [e1]
              have e := ih (i + 1) (by omega)
              exact z_sub (zdp.sub (by repeat (first | exact True.intro | refine And.intro rfl ?_))) e
            · exact absurd q133 (by decide)

set_option maxRecDepth 4000 in
theorem c_shareOf1 (n : Nat) (iv : zI) (lw : zG) (am w : Int32) (hI : 2 ≤ (iv 1 0).toInt ∧ (iv 1 0).toInt ≤ 8) (m : Nat) (hm : ((m : Nat) : Int) = (iv 1 0).toInt - 1) (hA : 0 < (zsum (iv 2) m).toInt) (ha : 0 ≤ am.toInt ∧ am.toInt ≤ 1000000000) (hw : 0 ≤ w.toInt ∧ w.toInt < 4) : zMi yX2_shareOf cX2_shareOf 14 (some .int) 1 [.ref 1, .int am, .int w] n iv lw (zpart am (zsum (iv 2) m) (fun o => zsum (fun j => if iv 5 j = nI o then iv 2 j else 0) m) w) iv lw := by
  refine zM.of (by decide) (Nat.le_of_ble_eq_true rfl) (fun X C E => ?_)
  change zJs X n 14 0 [some (.ref 1), some (.int am), some (.int w), none, none, none, none, none, none, none, none, none, none, none] [] iv lw
  refine z_iload_n C dX2_shareOf_0 rfl ?_
  refine zt_if_lt (tgt := 19) C dX2_shareOf_1 rfl (by decide) (fun q1 => ?_) (fun q1 => ?_)
  · exfalso; omega
  · refine z_iload_n C dX2_shareOf_4 rfl ?_
    refine z_ldc C dX2_shareOf_5 zk_X2_47 ?_
    refine zt_icmp_gt (tgt := 19) C dX2_shareOf_7 rfl (show (1000000000 : Int32).toInt = 1000000000 by decide) (by decide) (fun q7 => ?_) (fun q7 => ?_)
    · exfalso; omega
    · refine z_iload_n C dX2_shareOf_10 rfl ?_
      refine zt_if_lt (tgt := 19) C dX2_shareOf_11 rfl (by decide) (fun q11 => ?_) (fun q11 => ?_)
      · exfalso; omega
      · refine z_iload_n C dX2_shareOf_14 rfl ?_
        refine z_iconst (v := 4) C dX2_shareOf_15 (by decide) ?_
        refine zt_icmp_lt (tgt := 21) C dX2_shareOf_16 rfl (show (4 : Int32).toInt = 4 by decide) (by decide) (fun q16 => ?_) (fun q16 => ?_)
        · refine z_aload_n C dX2_shareOf_21 rfl ?_
          refine zs_callVi C dX2_shareOf_22 zm_X2_48 zyX2_allMiles (c_allMiles n iv _ hI m hm) zc_2 rfl zk_1 (by decide) (by decide) rfl rfl (Nat.le_of_ble_eq_true rfl) (by decide) (by decide) ?_
          refine z_istore_n (lv' := [some (.ref 1), some (.int am), some (.int w), some (.int _), none, none, none, none, none, none, none, none, none, none]) C dX2_shareOf_25 (by decide) rfl ?_
          refine z_iload_n C dX2_shareOf_26 rfl ?_
          refine zt_if_gt (tgt := 32) C dX2_shareOf_27 rfl (by decide) (fun q27 => ?_) (fun q27 => ?_)
          · refine z_iload_n C dX2_shareOf_32 rfl ?_
            refine z_i2l C dX2_shareOf_33 ?_
            refine z_aload_n C dX2_shareOf_34 rfl ?_
            refine z_iload_n C dX2_shareOf_35 rfl ?_
            refine zs_callVi C dX2_shareOf_36 zm_X2_52 zyX2_milesOf (c_milesOf n iv _ hI w m hm) zc_2 rfl zk_1 (by decide) (by decide) rfl rfl (Nat.le_of_ble_eq_true rfl) (by decide) (by decide) ?_
            refine z_i2l C dX2_shareOf_39 ?_
            refine z_lmul C dX2_shareOf_40 ?_
            refine z_lstore (lv' := [some (.ref 1), some (.int am), some (.int w), some (.int _), some (.long _), none, none, none, none, none, none, none, none, none]) C dX2_shareOf_41 (by decide) rfl ?_
            refine z_iload_n C dX2_shareOf_43 rfl ?_
            refine z_i2l C dX2_shareOf_44 ?_
            refine z_lstore (lv' := [some (.ref 1), some (.int am), some (.int w), some (.int _), some (.long _), none, some (.long _), none, none, none, none, none, none, none]) C dX2_shareOf_45 (by decide) rfl ?_
            refine z_iconst (v := 0) C dX2_shareOf_47 (by decide) ?_
            refine z_istore (lv' := [some (.ref 1), some (.int am), some (.int w), some (.int _), some (.long _), none, some (.long _), none, some (.int _), none, none, none, none, none]) C dX2_shareOf_48 (by decide) rfl ?_
            refine z_iconst (v := 0) C dX2_shareOf_50 (by decide) ?_
            refine z_istore (lv' := [some (.ref 1), some (.int am), some (.int w), some (.int _), some (.long _), none, some (.long _), none, some (.int _), some (.int _), none, none, none, none]) C dX2_shareOf_51 (by decide) rfl ?_
            have ew : nI w.toNatClampNeg = w := znI_cl hw.1
            have e := lp_share n iv lw am w hI m hm hA hw _ (fun _ => rfl) (zC_le (by decide) C) E 4 0 (by omega)
            rw [ew] at e
            exact z_sub (zdp.sub (by repeat (first | exact True.intro | refine And.intro rfl ?_))) e
          · exfalso; omega
        · exfalso; omega

set_option maxRecDepth 4000 in
theorem c_shareOf0 (n : Nat) (iv : zI) (lw : zG) (am w : Int32) (hP : ¬ ((0 ≤ am.toInt ∧ am.toInt ≤ 1000000000) ∧ (0 ≤ w.toInt ∧ w.toInt < 4))) : zMi yX2_shareOf cX2_shareOf 14 (some .int) 1 [.ref 1, .int am, .int w] n iv lw (-1) iv lw := by
  refine zM.of (by decide) (Nat.le_of_ble_eq_true rfl) (fun X C E => ?_)
  change zJs X n 14 0 [some (.ref 1), some (.int am), some (.int w), none, none, none, none, none, none, none, none, none, none, none] [] iv lw
  refine z_iload_n C dX2_shareOf_0 rfl ?_
  refine zt_if_lt (tgt := 19) C dX2_shareOf_1 rfl (by decide) (fun q1 => ?_) (fun q1 => ?_)
  · refine z_iconst (v := (-1)) C dX2_shareOf_19 (by decide) ?_
    refine zs_iret C E dX2_shareOf_20 rfl ?_ ?_ ?_
    · rfl
    · rfl
    · rfl
  · refine z_iload_n C dX2_shareOf_4 rfl ?_
    refine z_ldc C dX2_shareOf_5 zk_X2_47 ?_
    refine zt_icmp_gt (tgt := 19) C dX2_shareOf_7 rfl (show (1000000000 : Int32).toInt = 1000000000 by decide) (by decide) (fun q7 => ?_) (fun q7 => ?_)
    · refine z_iconst (v := (-1)) C dX2_shareOf_19 (by decide) ?_
      refine zs_iret C E dX2_shareOf_20 rfl ?_ ?_ ?_
      · rfl
      · rfl
      · rfl
    · refine z_iload_n C dX2_shareOf_10 rfl ?_
      refine zt_if_lt (tgt := 19) C dX2_shareOf_11 rfl (by decide) (fun q11 => ?_) (fun q11 => ?_)
      · refine z_iconst (v := (-1)) C dX2_shareOf_19 (by decide) ?_
        refine zs_iret C E dX2_shareOf_20 rfl ?_ ?_ ?_
        · rfl
        · rfl
        · rfl
      · refine z_iload_n C dX2_shareOf_14 rfl ?_
        refine z_iconst (v := 4) C dX2_shareOf_15 (by decide) ?_
        refine zt_icmp_lt (tgt := 21) C dX2_shareOf_16 rfl (show (4 : Int32).toInt = 4 by decide) (by decide) (fun q16 => ?_) (fun q16 => ?_)
        · exact absurd ⟨⟨by omega, by omega⟩, by omega, by omega⟩ hP
        · refine z_iconst (v := (-1)) C dX2_shareOf_19 (by decide) ?_
          refine zs_iret C E dX2_shareOf_20 rfl ?_ ?_ ?_
          · rfl
          · rfl
          · rfl

set_option maxRecDepth 4000 in
theorem x_parted0 (n : Nat) (iv : zI) (lw : zG) (am w : Int32) (hP : ¬ ((0 ≤ am.toInt ∧ am.toInt ≤ 1000000000) ∧ (0 ≤ w.toInt ∧ w.toInt < 4))) : zMi yX9_parted cX9_parted 3 (some .int) 2 [.ref 0, .int am, .int w] n iv lw (-1) iv lw := by
  refine zM.of (by decide) (Nat.le_of_ble_eq_true rfl) (fun X C E => ?_)
  change zJs X n 3 0 [some (.ref 0), some (.int am), some (.int w)] [] iv lw
  refine z_aload_n C dX9_parted_0 rfl ?_
  refine zs_getR C dX9_parted_1 zf_X9_10 zk_0 (by decide) (zr_0_0 n) ?_
  refine z_iload_n C dX9_parted_4 rfl ?_
  refine z_iload_n C dX9_parted_5 rfl ?_
  refine zs_callVi C dX9_parted_6 zm_X9_318 zyX2_shareOf (c_shareOf0 n iv _ am w hP) zc_2 rfl zk_1 (by decide) (by decide) rfl rfl (Nat.le_of_ble_eq_true rfl) (by decide) (by decide) ?_
  refine zs_iret C E dX9_parted_9 rfl ?_ ?_ ?_
  · rfl
  · rfl
  · rfl

set_option maxRecDepth 4000 in
theorem x_parted1 (n : Nat) (iv : zI) (lw : zG) (am w : Int32) (hI : 2 ≤ (iv 1 0).toInt ∧ (iv 1 0).toInt ≤ 8) (m : Nat) (hm : ((m : Nat) : Int) = (iv 1 0).toInt - 1) (hA : 0 < (zsum (iv 2) m).toInt) (ha : 0 ≤ am.toInt ∧ am.toInt ≤ 1000000000) (hw : 0 ≤ w.toInt ∧ w.toInt < 4) : zMi yX9_parted cX9_parted 3 (some .int) 2 [.ref 0, .int am, .int w] n iv lw (zpart am (zsum (iv 2) m) (fun o => zsum (fun j => if iv 5 j = nI o then iv 2 j else 0) m) w) iv lw := by
  refine zM.of (by decide) (Nat.le_of_ble_eq_true rfl) (fun X C E => ?_)
  change zJs X n 3 0 [some (.ref 0), some (.int am), some (.int w)] [] iv lw
  refine z_aload_n C dX9_parted_0 rfl ?_
  refine zs_getR C dX9_parted_1 zf_X9_10 zk_0 (by decide) (zr_0_0 n) ?_
  refine z_iload_n C dX9_parted_4 rfl ?_
  refine z_iload_n C dX9_parted_5 rfl ?_
  refine zs_callVi C dX9_parted_6 zm_X9_318 zyX2_shareOf (c_shareOf1 n iv _ am w hI m hm hA ha hw) zc_2 rfl zk_1 (by decide) (by decide) rfl rfl (Nat.le_of_ble_eq_true rfl) (by decide) (by decide) ?_
  refine zs_iret C E dX9_parted_9 rfl ?_ ?_ ?_
  · rfl
  · rfl
  · rfl

set_option maxRecDepth 4000 in
theorem lm_pc (n : Nat) (iv : zI) (lw : zG) (am w : Int32) {X : zX} (C : zC X cX10_parted 13 RX10 (some .int) "parted" 0 0 0) (K : ∀ cur, (∀ c, c ≠ 90 → cur c = iv c) → (∀ j, j < 4 → cur 90 j = 0) → zJs X n 13 51 [some (.ref 41), some (.int am), some (.int w), some (.int 0), some (.ref 90), some (.int (nI 4)), none, none, none, none, none, none, none] [] cur lw) : ∀ (k : Nat) (i : Nat) (cur : zI), i + k = 4 → (∀ c, c ≠ 90 → cur c = iv c) → (∀ j, j < i → cur 90 j = 0) → zJs X n 13 33 [some (.ref 41), some (.int am), some (.int w), some (.int 0), some (.ref 90), some (.int (nI i)), none, none, none, none, none, none, none] [] cur lw := by
  intro k
  induction k with
  | zero =>
    intro i cur hk hf hz
    refine z_iload C dX10_parted_33 rfl ?_
    refine z_iconst (v := 4) C dX10_parted_35 (by decide) ?_
    refine zt_icmp_ge (tgt := 51) C dX10_parted_36 (nI_toInt (by omega)) (show (4 : Int32).toInt = 4 by decide) (by decide) (fun q36 => ?_) (fun q36 => ?_)
    · have e4 : i = 4 := by omega
      subst e4
      exact K cur hf hz
    · exfalso; omega
  | succ k ih =>
    intro i cur hk hf hz
    refine z_iload C dX10_parted_33 rfl ?_
    refine z_iconst (v := 4) C dX10_parted_35 (by decide) ?_
    refine zt_icmp_ge (tgt := 51) C dX10_parted_36 (nI_toInt (by omega)) (show (4 : Int32).toInt = 4 by decide) (by decide) (fun q36 => ?_) (fun q36 => ?_)
    · exfalso; omega
    · refine z_aload C dX10_parted_39 rfl ?_
      refine z_iload C dX10_parted_41 rfl ?_
      refine z_iconst (v := 0) C dX10_parted_43 (by decide) ?_
      refine z_iast C dX10_parted_44 zk_90 (by decide) ?_ ?_
      · exact vp_in_nI (by omega) (by decide)
      refine z_iinc (y := 1) (lv' := [some (.ref 41), some (.int am), some (.int w), some (.int _), some (.ref 90), some (.int _), none, none, none, none, none, none, none]) C dX10_parted_45 rfl (by decide) (by decide) rfl ?_
      refine z_goto (tgt := 33) C dX10_parted_48 (by decide) ?_
      rw [nI_1 i, nI_clamp (by omega)]
      refine ih (i + 1) _ (by omega) (fun c hc => by rw [zu_n _ _ _ hc]; exact hf c hc) (fun j hj => ?_)
      rw [zu_s]
      by_cases h : j = i
      · subst h; exact pk_us
      · rw [pk_un h]; exact hz j (by omega)

theorem zu90 {cur iv : zI} {k : Nat} {v : Int32} (h : ∀ c, c ≠ 90 → cur c = iv c) : ∀ c, c ≠ 90 → zu cur 90 k v c = iv c := fun c hc => by rw [zu_n _ _ _ hc]; exact h c hc
theorem nI_inj4 {a b : Nat} (ha : a < 2 ^ 31) (hb : b < 2 ^ 31) (h : nI a = nI b) : a = b := by
  have := congrArg Int32.toInt h
  rw [nI_toInt ha, nI_toInt hb] at this
  omega

theorem zpm90 {iv cur : zI} {m : Nat} (hf : ∀ c, c ≠ 90 → cur c = iv c) (hm : ((m : Nat) : Int) = (iv 41 1).toInt - 1) (hm8 : m ≤ 7) : (cur 41 1 - 1).toInt = (m : Int) := by
  rw [hf 41 (by decide), Int32.toInt_sub, show Int32.toInt 1 = 1 by decide, Int.bmod_eq_of_le (by omega) (by omega)]
  omega

set_option maxHeartbeats 1000000 in
set_option maxRecDepth 4000 in
theorem lm_ps (n : Nat) (iv : zI) (lw : zG) (am w : Int32) (m : Nat) (hm : ((m : Nat) : Int) = (iv 41 1).toInt - 1) (hm8 : m ≤ 7) (hA : 0 < (zsum (iv 42) m).toInt) (hS : ∀ j, j < m → 0 ≤ (iv 45 j).toInt ∧ (iv 45 j).toInt < 4) {X : zX} (C : zC X cX10_parted 13 RX10 (some .int) "parted" 0 0 0) (K : ∀ cur, (∀ c, c ≠ 90 → cur c = iv c) → (∀ o, o < 4 → cur 90 o = zsum (fun j => if iv 45 j = nI o then iv 42 j else 0) m) → zJs X n 13 101 [some (.ref 41), some (.int am), some (.int w), some (.int (zsum (iv 42) m)), some (.ref 90), some (.int (nI m)), none, none, none, none, none, none, none] [] cur lw) : ∀ (k : Nat) (i : Nat) (cur : zI), i + k = m → (∀ c, c ≠ 90 → cur c = iv c) → (∀ o, o < 4 → cur 90 o = zsum (fun j => if iv 45 j = nI o then iv 42 j else 0) i) → zJs X n 13 54 [some (.ref 41), some (.int am), some (.int w), some (.int (zsum (iv 42) i)), some (.ref 90), some (.int (nI i)), none, none, none, none, none, none, none] [] cur lw := by
  intro k
  induction k with
  | zero =>
    intro i cur hk hf hz
    refine z_iload C dX10_parted_54 rfl ?_
    refine z_aload_n C dX10_parted_56 rfl ?_
    refine z_getI C dX10_parted_57 zf_X10_7 zk_41 (by decide) ?_
    refine z_iconst (v := 1) C dX10_parted_60 (by decide) ?_
    refine z_isub C dX10_parted_61 ?_
    refine zt_icmp_ge (tgt := 101) C dX10_parted_62 (nI_toInt (by omega)) (zpm90 hf hm hm8) (by decide) (fun q62 => ?_) (fun q62 => ?_)
    · have e4 : i = m := by omega
      subst e4
      exact K cur hf hz
    · exfalso; omega
  | succ k ih =>
    intro i cur hk hf hz
    refine z_iload C dX10_parted_54 rfl ?_
    refine z_aload_n C dX10_parted_56 rfl ?_
    refine z_getI C dX10_parted_57 zf_X10_7 zk_41 (by decide) ?_
    refine z_iconst (v := 1) C dX10_parted_60 (by decide) ?_
    refine z_isub C dX10_parted_61 ?_
    refine zt_icmp_ge (tgt := 101) C dX10_parted_62 (nI_toInt (by omega)) (zpm90 hf hm hm8) (by decide) (fun q62 => ?_) (fun q62 => ?_)
    · exfalso; omega
    · refine z_iload_n C dX10_parted_65 rfl ?_
      refine z_aload_n C dX10_parted_66 rfl ?_
      refine zs_getR C dX10_parted_67 zf_X10_13 zk_41 (by decide) (zr_41_2 n) ?_
      refine z_iload C dX10_parted_70 rfl ?_
      refine z_iald C dX10_parted_72 zk_42 (by decide) ?_ ?_
      · exact vp_in_nI (by omega) (by decide)
      refine z_iadd C dX10_parted_73 ?_
      refine z_istore_n (lv' := [some (.ref 41), some (.int am), some (.int w), some (.int _), some (.ref 90), some (.int _), none, none, none, none, none, none, none]) C dX10_parted_74 (by decide) rfl ?_
      refine z_aload C dX10_parted_75 rfl ?_
      refine z_aload_n C dX10_parted_77 rfl ?_
      refine zs_getR C dX10_parted_78 zf_X10_23 zk_41 (by decide) (zr_41_5 n) ?_
      refine z_iload C dX10_parted_81 rfl ?_
      refine z_iald C dX10_parted_83 zk_45 (by decide) ?_ ?_
      · exact vp_in_nI (by omega) (by decide)
      refine z_dup2 C dX10_parted_84 rfl rfl ?_
      refine z_iald C dX10_parted_85 zk_90 (by decide) ?_ ?_
      · rw [nI_clamp (by omega), hf 45 (by decide)]
        exact vp_in_iff.mpr (by have := hS i (by omega); omega)
      refine z_aload_n C dX10_parted_86 rfl ?_
      refine zs_getR C dX10_parted_87 zf_X10_13 zk_41 (by decide) (zr_41_2 n) ?_
      refine z_iload C dX10_parted_90 rfl ?_
      refine z_iald C dX10_parted_92 zk_42 (by decide) ?_ ?_
      · exact vp_in_nI (by omega) (by decide)
      refine z_iadd C dX10_parted_93 ?_
      refine z_iast C dX10_parted_94 zk_90 (by decide) ?_ ?_
      · rw [nI_clamp (by omega), hf 45 (by decide)]
        exact vp_in_iff.mpr (by have := hS i (by omega); omega)
      refine z_iinc (y := 1) (lv' := [some (.ref 41), some (.int am), some (.int w), some (.int _), some (.ref 90), some (.int _), none, none, none, none, none, none, none]) C dX10_parted_95 rfl (by decide) (by decide) rfl ?_
      refine z_goto (tgt := 54) C dX10_parted_98 (by decide) ?_
      rw [nI_1 i]
      simp only [nI_clamp (show i < 2 ^ 31 by omega)]
      rw [hf 42 (by decide), hf 45 (by decide)]
      have hs := hS i (by omega)
      have ei : nI (iv 45 i).toNatClampNeg = iv 45 i := znI_cl hs.1
      refine ih (i + 1) _ (by omega) (zu90 hf) (fun o ho => ?_)
      rw [zu_s]
      show _ = zsum (fun j => if iv 45 j = nI o then iv 42 j else 0) i + (if iv 45 i = nI o then iv 42 i else 0)
      by_cases h : o = (iv 45 i).toNatClampNeg
      · rw [h, pk_us, hz _ (by have := zcl_int hs.1; omega), if_pos ei.symm]
      · rw [pk_un h, hz o ho, if_neg (fun z => h (by have := zcl_int hs.1; exact nI_inj4 (by omega) (by omega) (z.symm.trans ei.symm))), Int32.add_zero]

set_option maxHeartbeats 1000000 in
set_option maxRecDepth 4000 in
theorem lm_ph (n : Nat) (iv : zI) (lw : zG) (am w : Int32) (m : Nat) (hm : ((m : Nat) : Int) = (iv 41 1).toInt - 1) (hm8 : m ≤ 7) (hA : 0 < (zsum (iv 42) m).toInt) (hS : ∀ j, j < m → 0 ≤ (iv 45 j).toInt ∧ (iv 45 j).toInt < 4) (ha : 0 ≤ am.toInt ∧ am.toInt ≤ 1000000000) (hw : 0 ≤ w.toInt ∧ w.toInt < 4) (F : Nat → Int32) (cur : zI) (hf : (∀ c, c ≠ 90 → cur c = iv c)) (hz : ∀ o, o < 4 → cur 90 o = F o) {X : zX} (C : zC X cX10_parted 13 RX10 (some .int) "parted" 0 0 0) (E : zEnd X (91 + 3 * n) 0 0 (zQ n (fun v iv2 lw2 => v = some (.int (zpart am (zsum (iv 42) m) F w)) ∧ lw2 = lw ∧ ∀ c, c ≠ 90 → iv2 c = iv c))) : ∀ (k : Nat) (i : Nat), i + k = 4 → zJs X n 13 124 [some (.ref 41), some (.int am), some (.int w), some (.int (zsum (iv 42) m)), some (.ref 90), some (.long (zpleft am (zsum (iv 42) m) F i)), none, some (.int (zpah am (zsum (iv 42) m) F w i)), some (.long (zpr am (zsum (iv 42) m) (F w.toNatClampNeg))), none, some (.int (nI i)), none, none] [] cur lw := by
  intro k
  induction k with
  | zero =>
    intro i hk
    refine z_iload C dX10_parted_124 rfl ?_
    refine z_iconst (v := 4) C dX10_parted_126 (by decide) ?_
    refine zt_icmp_ge (tgt := 199) C dX10_parted_127 (nI_toInt (by omega)) (show (4 : Int32).toInt = 4 by decide) (by decide) (fun q127 => ?_) (fun q127 => ?_)
    · refine z_iload_n C dX10_parted_199 rfl ?_
      refine z_i2l C dX10_parted_200 ?_
      refine z_aload C dX10_parted_201 rfl ?_
      refine z_iload_n C dX10_parted_203 rfl ?_
      refine z_iald C dX10_parted_204 zk_90 (by decide) ?_ ?_
      · exact vp_in_iff.mpr (by omega)
      refine z_eqi (show _ = F w.toNatClampNeg from hz _ (by have := zcl_int hw.1; omega)) ?_
      refine z_i2l C dX10_parted_205 ?_
      refine z_lmul C dX10_parted_206 ?_
      refine z_iload_n C dX10_parted_207 rfl ?_
      refine z_i2l C dX10_parted_208 ?_
      refine z_ldiv C dX10_parted_209 (z64ne hA) ?_
      refine z_l2i C dX10_parted_210 ?_
      refine z_iload C dX10_parted_211 rfl ?_
      refine z_i2l C dX10_parted_213 ?_
      refine z_lload C dX10_parted_214 rfl ?_
      refine z_lcmp C dX10_parted_216 ?_
      refine zt_if_ge (tgt := 224) C dX10_parted_217 rfl (by decide) (fun q217 => ?_) (fun q217 => ?_)
      · refine z_iconst (v := 0) C dX10_parted_224 (by decide) ?_
        refine z_iadd C dX10_parted_225 ?_
        refine zs_qiret C E dX10_parted_226 rfl ?_
        have e4 : i = 4 := by omega
        subst e4
        refine ⟨?_, rfl, hf⟩
        exact congrArg (fun x => some (Value.int (_ + x))) (if_neg (show ¬ (lg_cmp (zpah am (zsum (iv 42) m) F w 4).toInt64 (zpleft am (zsum (iv 42) m) F 4)).toInt < 0 by omega)).symm
      · refine z_iconst (v := 1) C dX10_parted_220 (by decide) ?_
        refine z_goto (tgt := 225) C dX10_parted_221 (by decide) ?_
        refine z_iadd C dX10_parted_225 ?_
        refine zs_qiret C E dX10_parted_226 rfl ?_
        have e4 : i = 4 := by omega
        subst e4
        refine ⟨?_, rfl, hf⟩
        exact congrArg (fun x => some (Value.int (_ + x))) (if_pos (show (lg_cmp (zpah am (zsum (iv 42) m) F w 4).toInt64 (zpleft am (zsum (iv 42) m) F 4)).toInt < 0 by omega)).symm
    · exfalso; omega
  | succ k ih =>
    intro i hk
    refine z_iload C dX10_parted_124 rfl ?_
    refine z_iconst (v := 4) C dX10_parted_126 (by decide) ?_
    refine zt_icmp_ge (tgt := 199) C dX10_parted_127 (nI_toInt (by omega)) (show (4 : Int32).toInt = 4 by decide) (by decide) (fun q127 => ?_) (fun q127 => ?_)
    · exfalso; omega
    · refine z_lload C dX10_parted_130 rfl ?_
      refine z_iload_n C dX10_parted_132 rfl ?_
      refine z_i2l C dX10_parted_133 ?_
      refine z_aload C dX10_parted_134 rfl ?_
      refine z_iload C dX10_parted_136 rfl ?_
      refine z_iald C dX10_parted_138 zk_90 (by decide) ?_ ?_
      · exact vp_in_nI (by omega) (by decide)
      refine z_eqi (show _ = F i by rw [nI_clamp (by omega)]; exact hz i (by omega)) ?_
      refine z_i2l C dX10_parted_139 ?_
      refine z_lmul C dX10_parted_140 ?_
      refine z_iload_n C dX10_parted_141 rfl ?_
      refine z_i2l C dX10_parted_142 ?_
      refine z_ldiv C dX10_parted_143 (z64ne hA) ?_
      refine z_lsub C dX10_parted_144 ?_
      refine z_lstore (lv' := [some (.ref 41), some (.int am), some (.int w), some (.int _), some (.ref 90), some (.long _), none, some (.int _), some (.long _), none, some (.int _), none, none]) C dX10_parted_145 (by decide) rfl ?_
      refine z_iload_n C dX10_parted_147 rfl ?_
      refine z_i2l C dX10_parted_148 ?_
      refine z_aload C dX10_parted_149 rfl ?_
      refine z_iload C dX10_parted_151 rfl ?_
      refine z_iald C dX10_parted_153 zk_90 (by decide) ?_ ?_
      · exact vp_in_nI (by omega) (by decide)
      refine z_eqi (show _ = F i by rw [nI_clamp (by omega)]; exact hz i (by omega)) ?_
      refine z_i2l C dX10_parted_154 ?_
      refine z_lmul C dX10_parted_155 ?_
      refine z_iload_n C dX10_parted_156 rfl ?_
      refine z_i2l C dX10_parted_157 ?_
      refine z_lrem C dX10_parted_158 (z64ne hA) ?_
      refine z_lstore (lv' := [some (.ref 41), some (.int am), some (.int w), some (.int _), some (.ref 90), some (.long _), none, some (.int _), some (.long _), none, some (.int _), some (.long _), none]) C dX10_parted_159 (by decide) rfl ?_
      refine z_iload C dX10_parted_161 rfl ?_
      refine z_lload C dX10_parted_163 rfl ?_
      refine z_lload C dX10_parted_165 rfl ?_
      refine z_lcmp C dX10_parted_167 ?_
      refine zt_if_gt (tgt := 185) C dX10_parted_168 rfl (by decide) (fun q168 => ?_) (fun q168 => ?_)
      · refine z_iconst (v := 1) C dX10_parted_185 (by decide) ?_
        refine z_goto (tgt := 190) C dX10_parted_186 (by decide) ?_
        refine z_iadd C dX10_parted_190 ?_
        refine z_istore (lv' := [some (.ref 41), some (.int am), some (.int w), some (.int _), some (.ref 90), some (.long _), none, some (.int _), some (.long _), none, some (.int _), some (.long _), none]) C dX10_parted_191 (by decide) rfl ?_
        refine z_iinc (y := 1) (lv' := [some (.ref 41), some (.int am), some (.int w), some (.int _), some (.ref 90), some (.long _), none, some (.int _), some (.long _), none, some (.int _), some (.long _), none]) C dX10_parted_193 rfl (by decide) (by decide) rfl ?_
        refine z_goto (tgt := 124) C dX10_parted_196 (by decide) ?_
        rw [nI_1 i]
        have g1 : 0 < (lg_cmp (zpr am (zsum (iv 42) m) (F i)) (zpr am (zsum (iv 42) m) (F w.toNatClampNeg))).toInt := by have := q168; exact this
        have e1 : zpah am (zsum (iv 42) m) F w i + 1 = zpah am (zsum (iv 42) m) F w (i + 1) := by
          rw [zpah, if_pos (Or.inl (by omega))]
        rw [e1]
        have e := ih (i + 1) (by omega)
        exact z_sub (zdp.sub (by repeat (first | exact True.intro | refine And.intro rfl ?_))) e
      · refine z_lload C dX10_parted_171 rfl ?_
        refine z_lload C dX10_parted_173 rfl ?_
        refine z_lcmp C dX10_parted_175 ?_
        refine z_if_ne (tgt := 189) C dX10_parted_176 (by decide) (fun q176 => ?_) (fun q176 => ?_)
        · refine z_iconst (v := 0) C dX10_parted_189 (by decide) ?_
          refine z_iadd C dX10_parted_190 ?_
          refine z_istore (lv' := [some (.ref 41), some (.int am), some (.int w), some (.int _), some (.ref 90), some (.long _), none, some (.int _), some (.long _), none, some (.int _), some (.long _), none]) C dX10_parted_191 (by decide) rfl ?_
          refine z_iinc (y := 1) (lv' := [some (.ref 41), some (.int am), some (.int w), some (.int _), some (.ref 90), some (.long _), none, some (.int _), some (.long _), none, some (.int _), some (.long _), none]) C dX10_parted_193 rfl (by decide) (by decide) rfl ?_
          refine z_goto (tgt := 124) C dX10_parted_196 (by decide) ?_
          rw [nI_1 i]
          have g1 : ¬ 0 < (lg_cmp (zpr am (zsum (iv 42) m) (F i)) (zpr am (zsum (iv 42) m) (F w.toNatClampNeg))).toInt := by have := q168; exact this
          have g2 : ¬ (lg_cmp (zpr am (zsum (iv 42) m) (F i)) (zpr am (zsum (iv 42) m) (F w.toNatClampNeg))) = 0 := q176
          have e1 : zpah am (zsum (iv 42) m) F w i + 0 = zpah am (zsum (iv 42) m) F w (i + 1) := by
            rw [zpah, if_neg (fun z => by rcases z with z | ⟨z1, z2⟩ <;> first | omega | exact g2 z1)]
          rw [e1]
          have e := ih (i + 1) (by omega)
          exact z_sub (zdp.sub (by repeat (first | exact True.intro | refine And.intro rfl ?_))) e
        · refine z_iload C dX10_parted_179 rfl ?_
          refine z_iload_n C dX10_parted_181 rfl ?_
          refine zt_icmp_ge (tgt := 189) C dX10_parted_182 (nI_toInt (by omega)) rfl (by decide) (fun q182 => ?_) (fun q182 => ?_)
          · refine z_iconst (v := 0) C dX10_parted_189 (by decide) ?_
            refine z_iadd C dX10_parted_190 ?_
            refine z_istore (lv' := [some (.ref 41), some (.int am), some (.int w), some (.int _), some (.ref 90), some (.long _), none, some (.int _), some (.long _), none, some (.int _), some (.long _), none]) C dX10_parted_191 (by decide) rfl ?_
            refine z_iinc (y := 1) (lv' := [some (.ref 41), some (.int am), some (.int w), some (.int _), some (.ref 90), some (.long _), none, some (.int _), some (.long _), none, some (.int _), some (.long _), none]) C dX10_parted_193 rfl (by decide) (by decide) rfl ?_
            refine z_goto (tgt := 124) C dX10_parted_196 (by decide) ?_
            rw [nI_1 i]
            have g1 : ¬ 0 < (lg_cmp (zpr am (zsum (iv 42) m) (F i)) (zpr am (zsum (iv 42) m) (F w.toNatClampNeg))).toInt := by have := q168; exact this
            have g2 : (lg_cmp (zpr am (zsum (iv 42) m) (F i)) (zpr am (zsum (iv 42) m) (F w.toNatClampNeg))) = 0 := q176
            have e1 : zpah am (zsum (iv 42) m) F w i + 0 = zpah am (zsum (iv 42) m) F w (i + 1) := by
              rw [zpah, if_neg (fun z => by rcases z with z | ⟨z1, z2⟩ <;> first | omega | exact g2 z1)]
            rw [e1]
            have e := ih (i + 1) (by omega)
            exact z_sub (zdp.sub (by repeat (first | exact True.intro | refine And.intro rfl ?_))) e
          · refine z_iconst (v := 1) C dX10_parted_185 (by decide) ?_
            refine z_goto (tgt := 190) C dX10_parted_186 (by decide) ?_
            refine z_iadd C dX10_parted_190 ?_
            refine z_istore (lv' := [some (.ref 41), some (.int am), some (.int w), some (.int _), some (.ref 90), some (.long _), none, some (.int _), some (.long _), none, some (.int _), some (.long _), none]) C dX10_parted_191 (by decide) rfl ?_
            refine z_iinc (y := 1) (lv' := [some (.ref 41), some (.int am), some (.int w), some (.int _), some (.ref 90), some (.long _), none, some (.int _), some (.long _), none, some (.int _), some (.long _), none]) C dX10_parted_193 rfl (by decide) (by decide) rfl ?_
            refine z_goto (tgt := 124) C dX10_parted_196 (by decide) ?_
            rw [nI_1 i]
            have g1 : ¬ 0 < (lg_cmp (zpr am (zsum (iv 42) m) (F i)) (zpr am (zsum (iv 42) m) (F w.toNatClampNeg))).toInt := by have := q168; exact this
            have g2 : (lg_cmp (zpr am (zsum (iv 42) m) (F i)) (zpr am (zsum (iv 42) m) (F w.toNatClampNeg))) = 0 := q176
            have e1 : zpah am (zsum (iv 42) m) F w i + 1 = zpah am (zsum (iv 42) m) F w (i + 1) := by
              rw [zpah, if_pos (Or.inr ⟨g2, by omega⟩)]
            rw [e1]
            have e := ih (i + 1) (by omega)
            exact z_sub (zdp.sub (by repeat (first | exact True.intro | refine And.intro rfl ?_))) e

set_option maxRecDepth 4000 in
theorem lm_p101 (n : Nat) (iv : zI) (lw : zG) (am w : Int32) (m : Nat) (hm : ((m : Nat) : Int) = (iv 41 1).toInt - 1) (hm8 : m ≤ 7) (hA : 0 < (zsum (iv 42) m).toInt) (hS : ∀ j, j < m → 0 ≤ (iv 45 j).toInt ∧ (iv 45 j).toInt < 4) (ha : 0 ≤ am.toInt ∧ am.toInt ≤ 1000000000) (hw : 0 ≤ w.toInt ∧ w.toInt < 4) (c2 : zI) (f2 : ∀ c, c ≠ 90 → c2 c = iv c) (z2 : ∀ o, o < 4 → c2 90 o = zsum (fun j => if iv 45 j = nI o then iv 42 j else 0) m) {X : zX} (C : zC X cX10_parted 13 RX10 (some .int) "parted" 0 0 0) (E : zEnd X (91 + 3 * n) 0 0 (zQ n (fun v iv2 lw2 => v = some (.int (zpart am (zsum (iv 42) m) (fun o => zsum (fun j => if iv 45 j = nI o then iv 42 j else 0) m) w)) ∧ lw2 = lw ∧ ∀ c, c ≠ 90 → iv2 c = iv c))) : zJs X n 13 101 [some (.ref 41), some (.int am), some (.int w), some (.int (zsum (iv 42) m)), some (.ref 90), some (.int (nI m)), none, none, none, none, none, none, none] [] c2 lw := by
  refine z_iload_n C dX10_parted_101 rfl ?_
  refine z_i2l C dX10_parted_102 ?_
  refine z_lstore (lv' := [some (.ref 41), some (.int am), some (.int w), some (.int _), some (.ref 90), some (.long _), none, none, none, none, none, none, none]) C dX10_parted_103 (by decide) rfl ?_
  refine z_iconst (v := 0) C dX10_parted_105 (by decide) ?_
  refine z_istore (lv' := [some (.ref 41), some (.int am), some (.int w), some (.int _), some (.ref 90), some (.long _), none, some (.int _), none, none, none, none, none]) C dX10_parted_106 (by decide) rfl ?_
  refine z_iload_n C dX10_parted_108 rfl ?_
  refine z_i2l C dX10_parted_109 ?_
  refine z_aload C dX10_parted_110 rfl ?_
  refine z_iload_n C dX10_parted_112 rfl ?_
  refine z_iald C dX10_parted_113 zk_90 (by decide) ?_ ?_
  · exact vp_in_iff.mpr (by omega)
  refine z_eqi (show _ = (fun o => zsum (fun j => if iv 45 j = nI o then iv 42 j else 0) m) w.toNatClampNeg from z2 _ (by have := zcl_int hw.1; omega)) ?_
  refine z_i2l C dX10_parted_114 ?_
  refine z_lmul C dX10_parted_115 ?_
  refine z_iload_n C dX10_parted_116 rfl ?_
  refine z_i2l C dX10_parted_117 ?_
  refine z_lrem C dX10_parted_118 (z64ne hA) ?_
  refine z_lstore (lv' := [some (.ref 41), some (.int am), some (.int w), some (.int _), some (.ref 90), some (.long _), none, some (.int _), some (.long _), none, none, none, none]) C dX10_parted_119 (by decide) rfl ?_
  refine z_iconst (v := 0) C dX10_parted_121 (by decide) ?_
  refine z_istore (lv' := [some (.ref 41), some (.int am), some (.int w), some (.int _), some (.ref 90), some (.long _), none, some (.int _), some (.long _), none, some (.int _), none, none]) C dX10_parted_122 (by decide) rfl ?_
  have e := lm_ph n iv lw am w m hm hm8 hA hS ha hw (fun o => zsum (fun j => if iv 45 j = nI o then iv 42 j else 0) m) c2 f2 z2 (zC_le (by decide) C) E 4 0 (by omega)
  exact z_sub (zdp.sub (by repeat (first | exact True.intro | refine And.intro rfl ?_))) e

set_option maxRecDepth 4000 in
theorem m_parted1 (n : Nat) (iv : zI) (lw : zG) (am w : Int32) (m : Nat) (hm : ((m : Nat) : Int) = (iv 41 1).toInt - 1) (hm8 : m ≤ 7) (hA : 0 < (zsum (iv 42) m).toInt) (hS : ∀ j, j < m → 0 ≤ (iv 45 j).toInt ∧ (iv 45 j).toInt < 4) (ha : 0 ≤ am.toInt ∧ am.toInt ≤ 1000000000) (hw : 0 ≤ w.toInt ∧ w.toInt < 4) : zMs yX10_parted cX10_parted 13 (some .int) 0 [.ref 41, .int am, .int w] n iv lw (fun v iv2 lw2 => v = some (.int (zpart am (zsum (iv 42) m) (fun o => zsum (fun j => if iv 45 j = nI o then iv 42 j else 0) m) w)) ∧ lw2 = lw ∧ ∀ c, c ≠ 90 → iv2 c = iv c) := by
  refine zM.of (by decide) (Nat.le_of_ble_eq_true rfl) (fun X C E => ?_)
  change zJs X n 13 0 [some (.ref 41), some (.int am), some (.int w), none, none, none, none, none, none, none, none, none, none] [] iv lw
  refine z_iload_n C dX10_parted_0 rfl ?_
  refine zt_if_lt (tgt := 20) C dX10_parted_1 rfl (by decide) (fun q1 => ?_) (fun q1 => ?_)
  · exfalso; omega
  · refine z_iload_n C dX10_parted_4 rfl ?_
    refine z_ldcw C dX10_parted_5 zk_X10_400 ?_
    refine zt_icmp_gt (tgt := 20) C dX10_parted_8 rfl (show (1000000000 : Int32).toInt = 1000000000 by decide) (by decide) (fun q8 => ?_) (fun q8 => ?_)
    · exfalso; omega
    · refine z_iload_n C dX10_parted_11 rfl ?_
      refine zt_if_lt (tgt := 20) C dX10_parted_12 rfl (by decide) (fun q12 => ?_) (fun q12 => ?_)
      · exfalso; omega
      · refine z_iload_n C dX10_parted_15 rfl ?_
        refine z_iconst (v := 3) C dX10_parted_16 (by decide) ?_
        refine zt_icmp_le (tgt := 22) C dX10_parted_17 rfl (show (3 : Int32).toInt = 3 by decide) (by decide) (fun q17 => ?_) (fun q17 => ?_)
        · refine z_iconst (v := 0) C dX10_parted_22 (by decide) ?_
          refine z_istore_n (lv' := [some (.ref 41), some (.int am), some (.int w), some (.int _), none, none, none, none, none, none, none, none, none]) C dX10_parted_23 (by decide) rfl ?_
          refine z_aload_n C dX10_parted_24 rfl ?_
          refine zs_getR C dX10_parted_25 zf_X10_162 zk_41 (by decide) (zr_41_69 n) ?_
          refine z_astore (lv' := [some (.ref 41), some (.int am), some (.int w), some (.int _), some (.ref 90), none, none, none, none, none, none, none, none]) C dX10_parted_28 (by decide) rfl ?_
          refine z_iconst (v := 0) C dX10_parted_30 (by decide) ?_
          refine z_istore (lv' := [some (.ref 41), some (.int am), some (.int w), some (.int _), some (.ref 90), some (.int _), none, none, none, none, none, none, none]) C dX10_parted_31 (by decide) rfl ?_
          refine lm_pc n iv lw am w (zC_le (by decide) C) (fun c1 f1 z1 => ?_) 4 0 iv (by omega) (fun _ _ => rfl) (fun j hj => absurd hj (by omega))
          refine z_iconst (v := 0) C dX10_parted_51 (by decide) ?_
          refine z_istore (lv' := [some (.ref 41), some (.int _), some (.int _), some (.int _), some (.ref 90), some (.int _), none, none, none, none, none, none, none]) C dX10_parted_52 (by decide) rfl ?_
          refine lm_ps n iv lw am w m hm hm8 hA hS (zC_le (by decide) C) (fun c2 f2 z2 => ?_) m 0 c1 (by omega) f1 (fun o ho => z1 o ho)
          exact lm_p101 n iv lw am w m hm hm8 hA hS ha hw c2 f2 z2 (zC_le (by decide) C) E
        · exfalso; omega

set_option maxRecDepth 4000 in
theorem m_parted0 (n : Nat) (iv : zI) (lw : zG) (am w : Int32) (hP : ¬ ((0 ≤ am.toInt ∧ am.toInt ≤ 1000000000) ∧ (0 ≤ w.toInt ∧ w.toInt < 4))) : zMi yX10_parted cX10_parted 13 (some .int) 0 [.ref 41, .int am, .int w] n iv lw (-1) iv lw := by
  refine zM.of (by decide) (Nat.le_of_ble_eq_true rfl) (fun X C E => ?_)
  change zJs X n 13 0 [some (.ref 41), some (.int am), some (.int w), none, none, none, none, none, none, none, none, none, none] [] iv lw
  refine z_iload_n C dX10_parted_0 rfl ?_
  refine zt_if_lt (tgt := 20) C dX10_parted_1 rfl (by decide) (fun q1 => ?_) (fun q1 => ?_)
  · refine z_iconst (v := (-1)) C dX10_parted_20 (by decide) ?_
    refine zs_iret C E dX10_parted_21 rfl ?_ ?_ ?_
    · rfl
    · rfl
    · rfl
  · refine z_iload_n C dX10_parted_4 rfl ?_
    refine z_ldcw C dX10_parted_5 zk_X10_400 ?_
    refine zt_icmp_gt (tgt := 20) C dX10_parted_8 rfl (show (1000000000 : Int32).toInt = 1000000000 by decide) (by decide) (fun q8 => ?_) (fun q8 => ?_)
    · refine z_iconst (v := (-1)) C dX10_parted_20 (by decide) ?_
      refine zs_iret C E dX10_parted_21 rfl ?_ ?_ ?_
      · rfl
      · rfl
      · rfl
    · refine z_iload_n C dX10_parted_11 rfl ?_
      refine zt_if_lt (tgt := 20) C dX10_parted_12 rfl (by decide) (fun q12 => ?_) (fun q12 => ?_)
      · refine z_iconst (v := (-1)) C dX10_parted_20 (by decide) ?_
        refine zs_iret C E dX10_parted_21 rfl ?_ ?_ ?_
        · rfl
        · rfl
        · rfl
      · refine z_iload_n C dX10_parted_15 rfl ?_
        refine z_iconst (v := 3) C dX10_parted_16 (by decide) ?_
        refine zt_icmp_le (tgt := 22) C dX10_parted_17 rfl (show (3 : Int32).toInt = 3 by decide) (by decide) (fun q17 => ?_) (fun q17 => ?_)
        · exact absurd ⟨⟨by omega, by omega⟩, by omega, by omega⟩ hP
        · refine z_iconst (v := (-1)) C dX10_parted_20 (by decide) ?_
          refine zs_iret C E dX10_parted_21 rfl ?_ ?_ ?_
          · rfl
          · rfl
          · rfl
