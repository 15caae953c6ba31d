set_option maxRecDepth 4000 in
theorem m_book2 (n : Nat) (iv : zI) (lw : zG) (hc : iv 41 11 = nI n) (hn : n ≤ 8) (i : Nat) (hi : i < n) (a b : Int32) (hp : ¬ (¬ iv 41 62 = 100 ∧ (0 ≤ a.toInt ∧ a.toInt < (iv 41 1).toInt) ∧ (0 ≤ b.toInt ∧ b.toInt < (iv 41 1).toInt) ∧ (((iv 52 i).toInt < (iv 53 i).toInt ∧ (iv 52 i).toInt ≤ a.toInt ∧ a.toInt ≤ (iv 53 i).toInt) ∨ (¬ (iv 52 i).toInt < (iv 53 i).toInt ∧ a.toInt ≤ (iv 52 i).toInt ∧ (iv 53 i).toInt ≤ a.toInt)) ∧ (((iv 52 i).toInt < (iv 53 i).toInt ∧ (iv 52 i).toInt ≤ b.toInt ∧ b.toInt ≤ (iv 53 i).toInt) ∨ (¬ (iv 52 i).toInt < (iv 53 i).toInt ∧ b.toInt ≤ (iv 52 i).toInt ∧ (iv 53 i).toInt ≤ b.toInt)) ∧ 0 < ((b - a) * zstep (iv 52 i) (iv 53 i)).toInt)) : zMi yX10_book cX10_book 5 (some .int) 2 [.ref 41, .int (nI i), .int a, .int b] n iv lw (-1) iv lw := by
  refine zM.of (by decide) (Nat.le_of_ble_eq_true rfl) (fun X C E => ?_)
  change zJs X n 5 0 [some (.ref 41), some (.int (nI i)), some (.int a), some (.int b), none] [] iv lw
  refine z_aload_n C dX10_book_0 rfl ?_
  refine z_getI C dX10_book_1 zf_X10_390 zk_41 (by decide) ?_
  refine z_bipush (v := 100) C dX10_book_4 (by decide) ?_
  refine z_icmp_eq (tgt := 63) C dX10_book_6 (by decide) (fun q6 => ?_) (fun q6 => ?_)
  · refine z_iconst (v := (-1)) C dX10_book_63 (by decide) ?_
    refine zs_iret C E dX10_book_64 rfl ?_ ?_ ?_
    · rfl
    · rfl
    · rfl
  · refine z_aload_n C dX10_book_9 rfl ?_
    refine z_iload_n C dX10_book_10 rfl ?_
    refine zs_callVi C dX10_book_11 zm_X10_202 zyX10_isCoach (m_isCoach _ _ _ _) zc_10 rfl zk_41 (by decide) (by decide) rfl rfl (Nat.le_of_ble_eq_true rfl) (by decide) (by decide) ?_
    refine zb_if_eq (tgt := 63) C dX10_book_14 (by decide) (fun q14 => ?_) (fun q14 => ?_)
    · exfalso; apply q14; rw [nI_toInt (by omega), zt_nI hc (by omega)]; omega
    · refine z_aload_n C dX10_book_17 rfl ?_
      refine z_iload_n C dX10_book_18 rfl ?_
      refine zs_callVi C dX10_book_19 zm_X10_180 zyX10_isInn (m_isInn _ _ _ _) zc_10 rfl zk_41 (by decide) (by decide) rfl rfl (Nat.le_of_ble_eq_true rfl) (by decide) (by decide) ?_
      refine zb_if_eq (tgt := 63) C dX10_book_22 (by decide) (fun q22 => ?_) (fun q22 => ?_)
      · refine z_iconst (v := (-1)) C dX10_book_63 (by decide) ?_
        refine zs_iret C E dX10_book_64 rfl ?_ ?_ ?_
        · rfl
        · rfl
        · rfl
      · refine z_aload_n C dX10_book_25 rfl ?_
        refine z_iload_n C dX10_book_26 rfl ?_
        refine zs_callVi C dX10_book_27 zm_X10_180 zyX10_isInn (m_isInn _ _ _ _) zc_10 rfl zk_41 (by decide) (by decide) rfl rfl (Nat.le_of_ble_eq_true rfl) (by decide) (by decide) ?_
        refine zb_if_eq (tgt := 63) C dX10_book_30 (by decide) (fun q30 => ?_) (fun q30 => ?_)
        · refine z_iconst (v := (-1)) C dX10_book_63 (by decide) ?_
          refine zs_iret C E dX10_book_64 rfl ?_ ?_ ?_
          · rfl
          · rfl
          · rfl
        · refine z_aload_n C dX10_book_33 rfl ?_
          refine z_iload_n C dX10_book_34 rfl ?_
          refine z_iload_n C dX10_book_35 rfl ?_
          refine zs_callVi C dX10_book_36 zm_X10_205 zyX10_isOnWay (m_isOnWay _ _ _ i (by omega) _) zc_10 rfl zk_41 (by decide) (by decide) rfl rfl (Nat.le_of_ble_eq_true rfl) (by decide) (by decide) ?_
          refine zb_if_eq (tgt := 63) C dX10_book_39 (by decide) (fun q39 => ?_) (fun q39 => ?_)
          · refine z_iconst (v := (-1)) C dX10_book_63 (by decide) ?_
            refine zs_iret C E dX10_book_64 rfl ?_ ?_ ?_
            · rfl
            · rfl
            · rfl
          · refine z_aload_n C dX10_book_42 rfl ?_
            refine z_iload_n C dX10_book_43 rfl ?_
            refine z_iload_n C dX10_book_44 rfl ?_
            refine zs_callVi C dX10_book_45 zm_X10_205 zyX10_isOnWay (m_isOnWay _ _ _ i (by omega) _) zc_10 rfl zk_41 (by decide) (by decide) rfl rfl (Nat.le_of_ble_eq_true rfl) (by decide) (by decide) ?_
            refine zb_if_eq (tgt := 63) C dX10_book_48 (by decide) (fun q48 => ?_) (fun q48 => ?_)
            · refine z_iconst (v := (-1)) C dX10_book_63 (by decide) ?_
              refine zs_iret C E dX10_book_64 rfl ?_ ?_ ?_
              · rfl
              · rfl
              · rfl
            · refine z_iload_n C dX10_book_51 rfl ?_
              refine z_iload_n C dX10_book_52 rfl ?_
              refine z_isub C dX10_book_53 ?_
              refine z_aload_n C dX10_book_54 rfl ?_
              refine z_iload_n C dX10_book_55 rfl ?_
              refine zs_callVi C dX10_book_56 zm_X10_191 zyX10_wayOf (m_wayOf _ _ _ i (by omega)) zc_10 rfl zk_41 (by decide) (by decide) rfl rfl (Nat.le_of_ble_eq_true rfl) (by decide) (by decide) ?_
              refine z_imul C dX10_book_59 ?_
              refine zt_if_gt (tgt := 65) C dX10_book_60 rfl (by decide) (fun q60 => ?_) (fun q60 => ?_)
              · exact absurd ⟨q6, q22, q30, q39, q48, q60⟩ hp
              · refine z_iconst (v := (-1)) C dX10_book_63 (by decide) ?_
                refine zs_iret C E dX10_book_64 rfl ?_ ?_ ?_
                · rfl
                · rfl
                · rfl

set_option maxRecDepth 4000 in
theorem m_book0 (n : Nat) (iv : zI) (lw : zG) (co a b : Int32) (hv : ¬ (0 ≤ co.toInt ∧ co.toInt < (iv 41 11).toInt)) : zMi yX10_book cX10_book 5 (some .int) 1 [.ref 41, .int co, .int a, .int b] n iv lw (-1) iv lw := by
  refine zM.of (by decide) (Nat.le_of_ble_eq_true rfl) (fun X C E => ?_)
  change zJs X n 5 0 [some (.ref 41), some (.int co), some (.int a), some (.int b), none] [] iv lw
  refine z_aload_n C dX10_book_0 rfl ?_
  refine z_getI C dX10_book_1 zf_X10_390 zk_41 (by decide) ?_
  refine z_bipush (v := 100) C dX10_book_4 (by decide) ?_
  refine z_icmp_eq (tgt := 63) C dX10_book_6 (by decide) (fun q6 => ?_) (fun q6 => ?_)
  · refine z_iconst (v := (-1)) C dX10_book_63 (by decide) ?_
    refine zs_iret C E dX10_book_64 rfl ?_ ?_ ?_
    · rfl
    · rfl
    · rfl
  · refine z_aload_n C dX10_book_9 rfl ?_
    refine z_iload_n C dX10_book_10 rfl ?_
    refine zs_callVi C dX10_book_11 zm_X10_202 zyX10_isCoach (m_isCoach _ _ _ _) zc_10 rfl zk_41 (by decide) (by decide) rfl rfl (Nat.le_of_ble_eq_true rfl) (by decide) (by decide) ?_
    refine zb_if_eq (tgt := 63) C dX10_book_14 (by decide) (fun q14 => ?_) (fun q14 => ?_)
    · refine z_iconst (v := (-1)) C dX10_book_63 (by decide) ?_
      refine zs_iret C E dX10_book_64 rfl ?_ ?_ ?_
      · rfl
      · rfl
      · rfl
    · exact absurd q14 hv

def zmbook (iv : zI) (co fr to : Int32) : zI := zu (zu (zu (zu (zu iv 84 (iv 41 62).toNatClampNeg co) 85 (iv 41 62).toNatClampNeg fr) 86 (iv 41 62).toNatClampNeg to) 87 (iv 41 62).toNatClampNeg (iv 41 0)) 41 62 (iv 41 62 + 1)

set_option maxRecDepth 4000 in
theorem lm_bookU (n : Nat) (iv : zI) (lw : zG) (hc : iv 41 11 = nI n) (hn : n ≤ 8) (i : Nat) (hi : i < n) (b a d : Nat) (hU : (iv 52 i).toInt < (iv 53 i).toInt) (hb : a + d = b) (hb2 : b ≤ 8) (t : Nat) (ht : iv 41 62 = nI t) (ht2 : t ≤ 100) (hp : (¬ iv 41 62 = 100 ∧ (0 ≤ (nI a).toInt ∧ (nI a).toInt < (iv 41 1).toInt) ∧ (0 ≤ (nI b).toInt ∧ (nI b).toInt < (iv 41 1).toInt) ∧ (((iv 52 i).toInt < (iv 53 i).toInt ∧ (iv 52 i).toInt ≤ (nI a).toInt ∧ (nI a).toInt ≤ (iv 53 i).toInt) ∨ (¬ (iv 52 i).toInt < (iv 53 i).toInt ∧ (nI a).toInt ≤ (iv 52 i).toInt ∧ (iv 53 i).toInt ≤ (nI a).toInt)) ∧ (((iv 52 i).toInt < (iv 53 i).toInt ∧ (iv 52 i).toInt ≤ (nI b).toInt ∧ (nI b).toInt ≤ (iv 53 i).toInt) ∨ (¬ (iv 52 i).toInt < (iv 53 i).toInt ∧ (nI b).toInt ≤ (iv 52 i).toInt ∧ (iv 53 i).toInt ≤ (nI b).toInt)) ∧ 0 < ((nI b - nI a) * zstep (iv 52 i) (iv 53 i)).toInt)) (r0 : Int32) (iv0 : zI) {X : zX} (C : zC X cX10_book 5 RX10 (some .int) "book" 2 0 0) (E : zEnd X (91 + 3 * n) 0 0 (zQ n (zQi r0 iv0 lw))) : ∀ (k : Nat) (j : Nat), j + k = d → (((∀ m, m < k → 1 ≤ ((zdown (zseats (iv 50 i)) (zmtk (iv 84) (iv 85) (iv 86) (iv 87) (iv 88) (iv 89) (nI i) (nI (a + (j + m))) (iv 41 0)) t)).toInt) → r0 = iv 41 62 ∧ iv0 = zmbook iv (nI i) (nI a) (nI b)) ∧ (¬ (∀ m, m < k → 1 ≤ ((zdown (zseats (iv 50 i)) (zmtk (iv 84) (iv 85) (iv 86) (iv 87) (iv 88) (iv 89) (nI i) (nI (a + (j + m))) (iv 41 0)) t)).toInt) → r0 = -1 ∧ iv0 = iv)) → zJs X n 5 68 [some (.ref 41), some (.int (nI i)), some (.int (nI a)), some (.int (nI b)), some (.int (nI (a + j)))] [] iv lw := by
  intro k
  induction k with
  | zero =>
    intro j hk hr
    refine z_iload C dX10_book_68 rfl ?_
    refine z_iload_n C dX10_book_70 rfl ?_
    refine z_icmp_eq (tgt := 109) C dX10_book_71 (by decide) (fun q71 => ?_) (fun q71 => ?_)
    · refine z_aload_n C dX10_book_109 rfl ?_
      refine zs_getR C dX10_book_110 zf_X10_143 zk_41 (by decide) (zr_41_63 n) ?_
      refine z_aload_n C dX10_book_113 rfl ?_
      refine z_getI C dX10_book_114 zf_X10_390 zk_41 (by decide) ?_
      refine z_iload_n C dX10_book_117 rfl ?_
      refine z_iast C dX10_book_118 zk_84 (by decide) ?_ ?_
      · show vp_in (iv 41 62) 100
        exact vp_in_iff.mpr (by rw [zt_nI ht (by omega)]; have := zne_toInt (y := 100) hp.1; rw [zt_nI ht (by omega), show (100 : Int32).toInt = 100 by decide] at this; omega)
      refine z_aload_n C dX10_book_119 rfl ?_
      refine zs_getR C dX10_book_120 zf_X10_146 zk_41 (by decide) (zr_41_64 n) ?_
      refine z_aload_n C dX10_book_123 rfl ?_
      refine z_getI C dX10_book_124 zf_X10_390 zk_41 (by decide) ?_
      refine z_iload_n C dX10_book_127 rfl ?_
      refine z_iast C dX10_book_128 zk_85 (by decide) ?_ ?_
      · show vp_in (iv 41 62) 100
        exact vp_in_iff.mpr (by rw [zt_nI ht (by omega)]; have := zne_toInt (y := 100) hp.1; rw [zt_nI ht (by omega), show (100 : Int32).toInt = 100 by decide] at this; omega)
      refine z_aload_n C dX10_book_129 rfl ?_
      refine zs_getR C dX10_book_130 zf_X10_149 zk_41 (by decide) (zr_41_65 n) ?_
      refine z_aload_n C dX10_book_133 rfl ?_
      refine z_getI C dX10_book_134 zf_X10_390 zk_41 (by decide) ?_
      refine z_iload_n C dX10_book_137 rfl ?_
      refine z_iast C dX10_book_138 zk_86 (by decide) ?_ ?_
      · show vp_in (iv 41 62) 100
        exact vp_in_iff.mpr (by rw [zt_nI ht (by omega)]; have := zne_toInt (y := 100) hp.1; rw [zt_nI ht (by omega), show (100 : Int32).toInt = 100 by decide] at this; omega)
      refine z_aload_n C dX10_book_139 rfl ?_
      refine zs_getR C dX10_book_140 zf_X10_152 zk_41 (by decide) (zr_41_66 n) ?_
      refine z_aload_n C dX10_book_143 rfl ?_
      refine z_getI C dX10_book_144 zf_X10_390 zk_41 (by decide) ?_
      refine z_aload_n C dX10_book_147 rfl ?_
      refine z_getI C dX10_book_148 zf_X10_187 zk_41 (by decide) ?_
      refine z_iast C dX10_book_151 zk_87 (by decide) ?_ ?_
      · show vp_in (iv 41 62) 100
        exact vp_in_iff.mpr (by rw [zt_nI ht (by omega)]; have := zne_toInt (y := 100) hp.1; rw [zt_nI ht (by omega), show (100 : Int32).toInt = 100 by decide] at this; omega)
      refine z_aload_n C dX10_book_152 rfl ?_
      refine z_dup C dX10_book_153 rfl ?_
      refine z_getI C dX10_book_154 zf_X10_390 zk_41 (by decide) ?_
      refine z_iconst (v := 1) C dX10_book_157 (by decide) ?_
      refine z_iadd C dX10_book_158 ?_
      refine z_putI C dX10_book_159 zf_X10_390 zk_41 (by decide) ?_
      refine z_aload_n C dX10_book_162 rfl ?_
      refine z_getI C dX10_book_163 zf_X10_390 zk_41 (by decide) ?_
      refine z_iconst (v := 1) C dX10_book_166 (by decide) ?_
      refine z_isub C dX10_book_167 ?_
      refine zs_iret C E dX10_book_168 rfl ?_ ?_ ?_
      · rw [((hr.1) (fun m hm => by omega)).1]
        exact zpm _
      · rw [((hr.1) (fun m hm => by omega)).2]
        rfl
      · rfl
    · exfalso; apply q71; rw [show j = d by omega]; exact congrArg nI (by omega)
  | succ k ih =>
    intro j hk hr
    refine z_iload C dX10_book_68 rfl ?_
    refine z_iload_n C dX10_book_70 rfl ?_
    have ez : znext (iv 52 i) (iv 53 i) (nI (a + j)) = nI (a + j) := if_pos hU
    refine z_icmp_eq (tgt := 109) C dX10_book_71 (by decide) (fun q71 => ?_) (fun q71 => ?_)
    · exfalso; have := (nI_eq (by omega) (by omega)).mp q71; omega
    · refine z_aload_n C dX10_book_74 rfl ?_
      refine z_iload_n C dX10_book_75 rfl ?_
      refine z_aload_n C dX10_book_76 rfl ?_
      refine z_iload_n C dX10_book_77 rfl ?_
      refine z_iload C dX10_book_78 rfl ?_
      refine zs_callVi C dX10_book_80 zm_X10_195 zyX10_stageFrom (m_stageFrom _ _ _ i (by omega) _) zc_10 rfl zk_41 (by decide) (by decide) rfl rfl (Nat.le_of_ble_eq_true rfl) (by decide) (by decide) ?_
      refine z_aload_n C dX10_book_83 rfl ?_
      refine z_getI C dX10_book_84 zf_X10_187 zk_41 (by decide) ?_
      refine zs_callVi C dX10_book_87 zm_X10_396 zyX10_freeOn (m_freeOn _ _ _ i (by omega) _ _ t ht ht2) zc_10 rfl zk_41 (by decide) (by decide) rfl rfl (Nat.le_of_ble_eq_true rfl) (by decide) (by decide) ?_
      refine z_iconst (v := 1) C dX10_book_90 (by decide) ?_
      refine zt_icmp_ge (tgt := 96) C dX10_book_91 rfl (show (1 : Int32).toInt = 1 by decide) (by decide) (fun q91 => ?_) (fun q91 => ?_)
      · rw [ez] at q91
        refine z_iload C dX10_book_96 rfl ?_
        refine z_aload_n C dX10_book_98 rfl ?_
        refine z_iload_n C dX10_book_99 rfl ?_
        refine zs_callVi C dX10_book_100 zm_X10_191 zyX10_wayOf (m_wayOf _ _ _ i (by omega)) zc_10 rfl zk_41 (by decide) (by decide) rfl rfl (Nat.le_of_ble_eq_true rfl) (by decide) (by decide) ?_
        refine z_iadd C dX10_book_103 ?_
        refine z_istore (lv' := [some (.ref 41), some (.int _), some (.int _), some (.int _), some (.int _)]) C dX10_book_104 (by decide) rfl ?_
        refine z_goto (tgt := 68) C dX10_book_106 (by decide) ?_
        rw [show zstep (iv 52 i) (iv 53 i) = 1 from if_pos hU, nI_1 (a + j), show a + j + 1 = a + (j + 1) by omega]
        refine ih (j + 1) (by omega) ⟨fun z => hr.1 (fun m hm => ?_), fun z => hr.2 (fun y => z (fun m hm => ?_))⟩
        · cases m with
          | zero => rw [Nat.add_zero]; omega
          | succ m => rw [show j + (m + 1) = j + 1 + m by omega]; exact z m (by omega)
        · rw [show j + 1 + m = j + (m + 1) by omega]; exact y (m + 1) (by omega)
      · rw [ez] at q91
        refine z_iconst (v := (-1)) C dX10_book_94 (by decide) ?_
        refine zs_iret C E dX10_book_95 rfl ?_ ?_ ?_
        · exact ((hr.2) (fun z => by have z1 := z 0 (by omega); rw [Nat.add_zero] at z1; omega)).1.symm
        · exact ((hr.2) (fun z => by have z1 := z 0 (by omega); rw [Nat.add_zero] at z1; omega)).2.symm
        · rfl

set_option maxRecDepth 4000 in
theorem m_book1U (n : Nat) (iv : zI) (lw : zG) (hc : iv 41 11 = nI n) (hn : n ≤ 8) (i : Nat) (hi : i < n) (b a d : Nat) (hU : (iv 52 i).toInt < (iv 53 i).toInt) (hb : a + d = b) (hb2 : b ≤ 8) (t : Nat) (ht : iv 41 62 = nI t) (ht2 : t ≤ 100) (hp : (¬ iv 41 62 = 100 ∧ (0 ≤ (nI a).toInt ∧ (nI a).toInt < (iv 41 1).toInt) ∧ (0 ≤ (nI b).toInt ∧ (nI b).toInt < (iv 41 1).toInt) ∧ (((iv 52 i).toInt < (iv 53 i).toInt ∧ (iv 52 i).toInt ≤ (nI a).toInt ∧ (nI a).toInt ≤ (iv 53 i).toInt) ∨ (¬ (iv 52 i).toInt < (iv 53 i).toInt ∧ (nI a).toInt ≤ (iv 52 i).toInt ∧ (iv 53 i).toInt ≤ (nI a).toInt)) ∧ (((iv 52 i).toInt < (iv 53 i).toInt ∧ (iv 52 i).toInt ≤ (nI b).toInt ∧ (nI b).toInt ≤ (iv 53 i).toInt) ∨ (¬ (iv 52 i).toInt < (iv 53 i).toInt ∧ (nI b).toInt ≤ (iv 52 i).toInt ∧ (iv 53 i).toInt ≤ (nI b).toInt)) ∧ 0 < ((nI b - nI a) * zstep (iv 52 i) (iv 53 i)).toInt)) (r0 : Int32) (iv0 : zI) (hr : (((∀ m, m < d → 1 ≤ ((zdown (zseats (iv 50 i)) (zmtk (iv 84) (iv 85) (iv 86) (iv 87) (iv 88) (iv 89) (nI i) (nI (a + (m))) (iv 41 0)) t)).toInt) → r0 = iv 41 62 ∧ iv0 = zmbook iv (nI i) (nI a) (nI b)) ∧ (¬ (∀ m, m < d → 1 ≤ ((zdown (zseats (iv 50 i)) (zmtk (iv 84) (iv 85) (iv 86) (iv 87) (iv 88) (iv 89) (nI i) (nI (a + (m))) (iv 41 0)) t)).toInt) → r0 = -1 ∧ iv0 = iv))) : zMi yX10_book cX10_book 5 (some .int) 2 [.ref 41, .int (nI i), .int (nI a), .int (nI b)] n iv lw r0 iv0 lw := by
  refine zM.of (by decide) (Nat.le_of_ble_eq_true rfl) (fun X C E => ?_)
  change zJs X n 5 0 [some (.ref 41), some (.int (nI i)), some (.int (nI a)), some (.int (nI b)), none] [] iv lw
  refine z_aload_n C dX10_book_0 rfl ?_
  refine z_getI C dX10_book_1 zf_X10_390 zk_41 (by decide) ?_
  refine z_bipush (v := 100) C dX10_book_4 (by decide) ?_
  refine z_icmp_eq (tgt := 63) C dX10_book_6 (by decide) (fun q6 => ?_) (fun q6 => ?_)
  · exact absurd q6 hp.1
  · refine z_aload_n C dX10_book_9 rfl ?_
    refine z_iload_n C dX10_book_10 rfl ?_
    refine zs_callVi C dX10_book_11 zm_X10_202 zyX10_isCoach (m_isCoach _ _ _ _) zc_10 rfl zk_41 (by decide) (by decide) rfl rfl (Nat.le_of_ble_eq_true rfl) (by decide) (by decide) ?_
    refine zb_if_eq (tgt := 63) C dX10_book_14 (by decide) (fun q14 => ?_) (fun q14 => ?_)
    · exfalso; apply q14; rw [nI_toInt (by omega), zt_nI hc (by omega)]; omega
    · refine z_aload_n C dX10_book_17 rfl ?_
      refine z_iload_n C dX10_book_18 rfl ?_
      refine zs_callVi C dX10_book_19 zm_X10_180 zyX10_isInn (m_isInn _ _ _ _) zc_10 rfl zk_41 (by decide) (by decide) rfl rfl (Nat.le_of_ble_eq_true rfl) (by decide) (by decide) ?_
      refine zb_if_eq (tgt := 63) C dX10_book_22 (by decide) (fun q22 => ?_) (fun q22 => ?_)
      · exact absurd hp.2.1 q22
      · refine z_aload_n C dX10_book_25 rfl ?_
        refine z_iload_n C dX10_book_26 rfl ?_
        refine zs_callVi C dX10_book_27 zm_X10_180 zyX10_isInn (m_isInn _ _ _ _) zc_10 rfl zk_41 (by decide) (by decide) rfl rfl (Nat.le_of_ble_eq_true rfl) (by decide) (by decide) ?_
        refine zb_if_eq (tgt := 63) C dX10_book_30 (by decide) (fun q30 => ?_) (fun q30 => ?_)
        · exact absurd hp.2.2.1 q30
        · refine z_aload_n C dX10_book_33 rfl ?_
          refine z_iload_n C dX10_book_34 rfl ?_
          refine z_iload_n C dX10_book_35 rfl ?_
          refine zs_callVi C dX10_book_36 zm_X10_205 zyX10_isOnWay (m_isOnWay _ _ _ i (by omega) _) zc_10 rfl zk_41 (by decide) (by decide) rfl rfl (Nat.le_of_ble_eq_true rfl) (by decide) (by decide) ?_
          refine zb_if_eq (tgt := 63) C dX10_book_39 (by decide) (fun q39 => ?_) (fun q39 => ?_)
          · exact absurd hp.2.2.2.1 q39
          · refine z_aload_n C dX10_book_42 rfl ?_
            refine z_iload_n C dX10_book_43 rfl ?_
            refine z_iload_n C dX10_book_44 rfl ?_
            refine zs_callVi C dX10_book_45 zm_X10_205 zyX10_isOnWay (m_isOnWay _ _ _ i (by omega) _) zc_10 rfl zk_41 (by decide) (by decide) rfl rfl (Nat.le_of_ble_eq_true rfl) (by decide) (by decide) ?_
            refine zb_if_eq (tgt := 63) C dX10_book_48 (by decide) (fun q48 => ?_) (fun q48 => ?_)
            · exact absurd hp.2.2.2.2.1 q48
            · refine z_iload_n C dX10_book_51 rfl ?_
              refine z_iload_n C dX10_book_52 rfl ?_
              refine z_isub C dX10_book_53 ?_
              refine z_aload_n C dX10_book_54 rfl ?_
              refine z_iload_n C dX10_book_55 rfl ?_
              refine zs_callVi C dX10_book_56 zm_X10_191 zyX10_wayOf (m_wayOf _ _ _ i (by omega)) zc_10 rfl zk_41 (by decide) (by decide) rfl rfl (Nat.le_of_ble_eq_true rfl) (by decide) (by decide) ?_
              refine z_imul C dX10_book_59 ?_
              refine zt_if_gt (tgt := 65) C dX10_book_60 rfl (by decide) (fun q60 => ?_) (fun q60 => ?_)
              · refine z_iload_n C dX10_book_65 rfl ?_
                refine z_istore (lv' := [some (.ref 41), some (.int _), some (.int _), some (.int _), some (.int _)]) C dX10_book_66 (by decide) rfl ?_
                exact lm_bookU n iv lw hc hn i hi b a d hU hb hb2 t ht ht2 hp r0 iv0 C E d 0 (by omega) (by simpa only [Nat.zero_add] using hr)
              · exact absurd hp.2.2.2.2.2 q60

set_option maxRecDepth 4000 in
theorem lm_bookD (n : Nat) (iv : zI) (lw : zG) (hc : iv 41 11 = nI n) (hn : n ≤ 8) (i : Nat) (hi : i < n) (b a d : Nat) (hU : ¬ (iv 52 i).toInt < (iv 53 i).toInt) (hb : b + d = a) (hb2 : a ≤ 8) (t : Nat) (ht : iv 41 62 = nI t) (ht2 : t ≤ 100) (hp : (¬ iv 41 62 = 100 ∧ (0 ≤ (nI a).toInt ∧ (nI a).toInt < (iv 41 1).toInt) ∧ (0 ≤ (nI b).toInt ∧ (nI b).toInt < (iv 41 1).toInt) ∧ (((iv 52 i).toInt < (iv 53 i).toInt ∧ (iv 52 i).toInt ≤ (nI a).toInt ∧ (nI a).toInt ≤ (iv 53 i).toInt) ∨ (¬ (iv 52 i).toInt < (iv 53 i).toInt ∧ (nI a).toInt ≤ (iv 52 i).toInt ∧ (iv 53 i).toInt ≤ (nI a).toInt)) ∧ (((iv 52 i).toInt < (iv 53 i).toInt ∧ (iv 52 i).toInt ≤ (nI b).toInt ∧ (nI b).toInt ≤ (iv 53 i).toInt) ∨ (¬ (iv 52 i).toInt < (iv 53 i).toInt ∧ (nI b).toInt ≤ (iv 52 i).toInt ∧ (iv 53 i).toInt ≤ (nI b).toInt)) ∧ 0 < ((nI b - nI a) * zstep (iv 52 i) (iv 53 i)).toInt)) (r0 : Int32) (iv0 : zI) {X : zX} (C : zC X cX10_book 5 RX10 (some .int) "book" 2 0 0) (E : zEnd X (91 + 3 * n) 0 0 (zQ n (zQi r0 iv0 lw))) : ∀ (k : Nat) (j : Nat), j + k = d → (((∀ m, m < k → 1 ≤ ((zdown (zseats (iv 50 i)) (zmtk (iv 84) (iv 85) (iv 86) (iv 87) (iv 88) (iv 89) (nI i) (nI (a - ((j + m) + 1))) (iv 41 0)) t)).toInt) → r0 = iv 41 62 ∧ iv0 = zmbook iv (nI i) (nI a) (nI b)) ∧ (¬ (∀ m, m < k → 1 ≤ ((zdown (zseats (iv 50 i)) (zmtk (iv 84) (iv 85) (iv 86) (iv 87) (iv 88) (iv 89) (nI i) (nI (a - ((j + m) + 1))) (iv 41 0)) t)).toInt) → r0 = -1 ∧ iv0 = iv)) → zJs X n 5 68 [some (.ref 41), some (.int (nI i)), some (.int (nI a)), some (.int (nI b)), some (.int (nI (a - j)))] [] iv lw := by
  intro k
  induction k with
  | zero =>
    intro j hk hr
    refine z_iload C dX10_book_68 rfl ?_
    refine z_iload_n C dX10_book_70 rfl ?_
    refine z_icmp_eq (tgt := 109) C dX10_book_71 (by decide) (fun q71 => ?_) (fun q71 => ?_)
    · refine z_aload_n C dX10_book_109 rfl ?_
      refine zs_getR C dX10_book_110 zf_X10_143 zk_41 (by decide) (zr_41_63 n) ?_
      refine z_aload_n C dX10_book_113 rfl ?_
      refine z_getI C dX10_book_114 zf_X10_390 zk_41 (by decide) ?_
      refine z_iload_n C dX10_book_117 rfl ?_
      refine z_iast C dX10_book_118 zk_84 (by decide) ?_ ?_
      · show vp_in (iv 41 62) 100
        exact vp_in_iff.mpr (by rw [zt_nI ht (by omega)]; have := zne_toInt (y := 100) hp.1; rw [zt_nI ht (by omega), show (100 : Int32).toInt = 100 by decide] at this; omega)
      refine z_aload_n C dX10_book_119 rfl ?_
      refine zs_getR C dX10_book_120 zf_X10_146 zk_41 (by decide) (zr_41_64 n) ?_
      refine z_aload_n C dX10_book_123 rfl ?_
      refine z_getI C dX10_book_124 zf_X10_390 zk_41 (by decide) ?_
      refine z_iload_n C dX10_book_127 rfl ?_
      refine z_iast C dX10_book_128 zk_85 (by decide) ?_ ?_
      · show vp_in (iv 41 62) 100
        exact vp_in_iff.mpr (by rw [zt_nI ht (by omega)]; have := zne_toInt (y := 100) hp.1; rw [zt_nI ht (by omega), show (100 : Int32).toInt = 100 by decide] at this; omega)
      refine z_aload_n C dX10_book_129 rfl ?_
      refine zs_getR C dX10_book_130 zf_X10_149 zk_41 (by decide) (zr_41_65 n) ?_
      refine z_aload_n C dX10_book_133 rfl ?_
      refine z_getI C dX10_book_134 zf_X10_390 zk_41 (by decide) ?_
      refine z_iload_n C dX10_book_137 rfl ?_
      refine z_iast C dX10_book_138 zk_86 (by decide) ?_ ?_
      · show vp_in (iv 41 62) 100
        exact vp_in_iff.mpr (by rw [zt_nI ht (by omega)]; have := zne_toInt (y := 100) hp.1; rw [zt_nI ht (by omega), show (100 : Int32).toInt = 100 by decide] at this; omega)
      refine z_aload_n C dX10_book_139 rfl ?_
      refine zs_getR C dX10_book_140 zf_X10_152 zk_41 (by decide) (zr_41_66 n) ?_
      refine z_aload_n C dX10_book_143 rfl ?_
      refine z_getI C dX10_book_144 zf_X10_390 zk_41 (by decide) ?_
      refine z_aload_n C dX10_book_147 rfl ?_
      refine z_getI C dX10_book_148 zf_X10_187 zk_41 (by decide) ?_
      refine z_iast C dX10_book_151 zk_87 (by decide) ?_ ?_
      · show vp_in (iv 41 62) 100
        exact vp_in_iff.mpr (by rw [zt_nI ht (by omega)]; have := zne_toInt (y := 100) hp.1; rw [zt_nI ht (by omega), show (100 : Int32).toInt = 100 by decide] at this; omega)
      refine z_aload_n C dX10_book_152 rfl ?_
      refine z_dup C dX10_book_153 rfl ?_
      refine z_getI C dX10_book_154 zf_X10_390 zk_41 (by decide) ?_
      refine z_iconst (v := 1) C dX10_book_157 (by decide) ?_
      refine z_iadd C dX10_book_158 ?_
      refine z_putI C dX10_book_159 zf_X10_390 zk_41 (by decide) ?_
      refine z_aload_n C dX10_book_162 rfl ?_
      refine z_getI C dX10_book_163 zf_X10_390 zk_41 (by decide) ?_
      refine z_iconst (v := 1) C dX10_book_166 (by decide) ?_
      refine z_isub C dX10_book_167 ?_
      refine zs_iret C E dX10_book_168 rfl ?_ ?_ ?_
      · rw [((hr.1) (fun m hm => by omega)).1]
        exact zpm _
      · rw [((hr.1) (fun m hm => by omega)).2]
        rfl
      · rfl
    · exfalso; apply q71; rw [show j = d by omega]; exact congrArg nI (by omega)
  | succ k ih =>
    intro j hk hr
    refine z_iload C dX10_book_68 rfl ?_
    refine z_iload_n C dX10_book_70 rfl ?_
    have ez : znext (iv 52 i) (iv 53 i) (nI (a - j)) = nI (a - (j + 1)) := by
      unfold znext
      rw [if_neg hU, show a - j = a - (j + 1) + 1 by omega]
      exact nI_pred _
    refine z_icmp_eq (tgt := 109) C dX10_book_71 (by decide) (fun q71 => ?_) (fun q71 => ?_)
    · exfalso; have := (nI_eq (by omega) (by omega)).mp q71; omega
    · refine z_aload_n C dX10_book_74 rfl ?_
      refine z_iload_n C dX10_book_75 rfl ?_
      refine z_aload_n C dX10_book_76 rfl ?_
      refine z_iload_n C dX10_book_77 rfl ?_
      refine z_iload C dX10_book_78 rfl ?_
      refine zs_callVi C dX10_book_80 zm_X10_195 zyX10_stageFrom (m_stageFrom _ _ _ i (by omega) _) zc_10 rfl zk_41 (by decide) (by decide) rfl rfl (Nat.le_of_ble_eq_true rfl) (by decide) (by decide) ?_
      refine z_aload_n C dX10_book_83 rfl ?_
      refine z_getI C dX10_book_84 zf_X10_187 zk_41 (by decide) ?_
      refine zs_callVi C dX10_book_87 zm_X10_396 zyX10_freeOn (m_freeOn _ _ _ i (by omega) _ _ t ht ht2) zc_10 rfl zk_41 (by decide) (by decide) rfl rfl (Nat.le_of_ble_eq_true rfl) (by decide) (by decide) ?_
      refine z_iconst (v := 1) C dX10_book_90 (by decide) ?_
      refine zt_icmp_ge (tgt := 96) C dX10_book_91 rfl (show (1 : Int32).toInt = 1 by decide) (by decide) (fun q91 => ?_) (fun q91 => ?_)
      · rw [ez] at q91
        refine z_iload C dX10_book_96 rfl ?_
        refine z_aload_n C dX10_book_98 rfl ?_
        refine z_iload_n C dX10_book_99 rfl ?_
        refine zs_callVi C dX10_book_100 zm_X10_191 zyX10_wayOf (m_wayOf _ _ _ i (by omega)) zc_10 rfl zk_41 (by decide) (by decide) rfl rfl (Nat.le_of_ble_eq_true rfl) (by decide) (by decide) ?_
        refine z_iadd C dX10_book_103 ?_
        refine z_istore (lv' := [some (.ref 41), some (.int _), some (.int _), some (.int _), some (.int _)]) C dX10_book_104 (by decide) rfl ?_
        refine z_goto (tgt := 68) C dX10_book_106 (by decide) ?_
        rw [show zstep (iv 52 i) (iv 53 i) = -1 from if_neg hU, show nI (a - j) + (-1) = nI (a - (j + 1)) by rw [show a - j = a - (j + 1) + 1 by omega]; exact pk_m1 _]
        refine ih (j + 1) (by omega) ⟨fun z => hr.1 (fun m hm => ?_), fun z => hr.2 (fun y => z (fun m hm => ?_))⟩
        · cases m with
          | zero => rw [Nat.add_zero]; omega
          | succ m => rw [show j + (m + 1) = j + 1 + m by omega]; exact z m (by omega)
        · rw [show j + 1 + m = j + (m + 1) by omega]; exact y (m + 1) (by omega)
      · rw [ez] at q91
        refine z_iconst (v := (-1)) C dX10_book_94 (by decide) ?_
        refine zs_iret C E dX10_book_95 rfl ?_ ?_ ?_
        · exact ((hr.2) (fun z => by have z1 := z 0 (by omega); rw [Nat.add_zero] at z1; omega)).1.symm
        · exact ((hr.2) (fun z => by have z1 := z 0 (by omega); rw [Nat.add_zero] at z1; omega)).2.symm
        · rfl

set_option maxRecDepth 4000 in
theorem m_book1D (n : Nat) (iv : zI) (lw : zG) (hc : iv 41 11 = nI n) (hn : n ≤ 8) (i : Nat) (hi : i < n) (b a d : Nat) (hU : ¬ (iv 52 i).toInt < (iv 53 i).toInt) (hb : b + d = a) (hb2 : a ≤ 8) (t : Nat) (ht : iv 41 62 = nI t) (ht2 : t ≤ 100) (hp : (¬ iv 41 62 = 100 ∧ (0 ≤ (nI a).toInt ∧ (nI a).toInt < (iv 41 1).toInt) ∧ (0 ≤ (nI b).toInt ∧ (nI b).toInt < (iv 41 1).toInt) ∧ (((iv 52 i).toInt < (iv 53 i).toInt ∧ (iv 52 i).toInt ≤ (nI a).toInt ∧ (nI a).toInt ≤ (iv 53 i).toInt) ∨ (¬ (iv 52 i).toInt < (iv 53 i).toInt ∧ (nI a).toInt ≤ (iv 52 i).toInt ∧ (iv 53 i).toInt ≤ (nI a).toInt)) ∧ (((iv 52 i).toInt < (iv 53 i).toInt ∧ (iv 52 i).toInt ≤ (nI b).toInt ∧ (nI b).toInt ≤ (iv 53 i).toInt) ∨ (¬ (iv 52 i).toInt < (iv 53 i).toInt ∧ (nI b).toInt ≤ (iv 52 i).toInt ∧ (iv 53 i).toInt ≤ (nI b).toInt)) ∧ 0 < ((nI b - nI a) * zstep (iv 52 i) (iv 53 i)).toInt)) (r0 : Int32) (iv0 : zI) (hr : (((∀ m, m < d → 1 ≤ ((zdown (zseats (iv 50 i)) (zmtk (iv 84) (iv 85) (iv 86) (iv 87) (iv 88) (iv 89) (nI i) (nI (a - ((m) + 1))) (iv 41 0)) t)).toInt) → r0 = iv 41 62 ∧ iv0 = zmbook iv (nI i) (nI a) (nI b)) ∧ (¬ (∀ m, m < d → 1 ≤ ((zdown (zseats (iv 50 i)) (zmtk (iv 84) (iv 85) (iv 86) (iv 87) (iv 88) (iv 89) (nI i) (nI (a - ((m) + 1))) (iv 41 0)) t)).toInt) → r0 = -1 ∧ iv0 = iv))) : zMi yX10_book cX10_book 5 (some .int) 2 [.ref 41, .int (nI i), .int (nI a), .int (nI b)] n iv lw r0 iv0 lw := by
  refine zM.of (by decide) (Nat.le_of_ble_eq_true rfl) (fun X C E => ?_)
  change zJs X n 5 0 [some (.ref 41), some (.int (nI i)), some (.int (nI a)), some (.int (nI b)), none] [] iv lw
  refine z_aload_n C dX10_book_0 rfl ?_
  refine z_getI C dX10_book_1 zf_X10_390 zk_41 (by decide) ?_
  refine z_bipush (v := 100) C dX10_book_4 (by decide) ?_
  refine z_icmp_eq (tgt := 63) C dX10_book_6 (by decide) (fun q6 => ?_) (fun q6 => ?_)
  · exact absurd q6 hp.1
  · refine z_aload_n C dX10_book_9 rfl ?_
    refine z_iload_n C dX10_book_10 rfl ?_
    refine zs_callVi C dX10_book_11 zm_X10_202 zyX10_isCoach (m_isCoach _ _ _ _) zc_10 rfl zk_41 (by decide) (by decide) rfl rfl (Nat.le_of_ble_eq_true rfl) (by decide) (by decide) ?_
    refine zb_if_eq (tgt := 63) C dX10_book_14 (by decide) (fun q14 => ?_) (fun q14 => ?_)
    · exfalso; apply q14; rw [nI_toInt (by omega), zt_nI hc (by omega)]; omega
    · refine z_aload_n C dX10_book_17 rfl ?_
      refine z_iload_n C dX10_book_18 rfl ?_
      refine zs_callVi C dX10_book_19 zm_X10_180 zyX10_isInn (m_isInn _ _ _ _) zc_10 rfl zk_41 (by decide) (by decide) rfl rfl (Nat.le_of_ble_eq_true rfl) (by decide) (by decide) ?_
      refine zb_if_eq (tgt := 63) C dX10_book_22 (by decide) (fun q22 => ?_) (fun q22 => ?_)
      · exact absurd hp.2.1 q22
      · refine z_aload_n C dX10_book_25 rfl ?_
        refine z_iload_n C dX10_book_26 rfl ?_
        refine zs_callVi C dX10_book_27 zm_X10_180 zyX10_isInn (m_isInn _ _ _ _) zc_10 rfl zk_41 (by decide) (by decide) rfl rfl (Nat.le_of_ble_eq_true rfl) (by decide) (by decide) ?_
        refine zb_if_eq (tgt := 63) C dX10_book_30 (by decide) (fun q30 => ?_) (fun q30 => ?_)
        · exact absurd hp.2.2.1 q30
        · refine z_aload_n C dX10_book_33 rfl ?_
          refine z_iload_n C dX10_book_34 rfl ?_
          refine z_iload_n C dX10_book_35 rfl ?_
          refine zs_callVi C dX10_book_36 zm_X10_205 zyX10_isOnWay (m_isOnWay _ _ _ i (by omega) _) zc_10 rfl zk_41 (by decide) (by decide) rfl rfl (Nat.le_of_ble_eq_true rfl) (by decide) (by decide) ?_
          refine zb_if_eq (tgt := 63) C dX10_book_39 (by decide) (fun q39 => ?_) (fun q39 => ?_)
          · exact absurd hp.2.2.2.1 q39
          · refine z_aload_n C dX10_book_42 rfl ?_
            refine z_iload_n C dX10_book_43 rfl ?_
            refine z_iload_n C dX10_book_44 rfl ?_
            refine zs_callVi C dX10_book_45 zm_X10_205 zyX10_isOnWay (m_isOnWay _ _ _ i (by omega) _) zc_10 rfl zk_41 (by decide) (by decide) rfl rfl (Nat.le_of_ble_eq_true rfl) (by decide) (by decide) ?_
            refine zb_if_eq (tgt := 63) C dX10_book_48 (by decide) (fun q48 => ?_) (fun q48 => ?_)
            · exact absurd hp.2.2.2.2.1 q48
            · refine z_iload_n C dX10_book_51 rfl ?_
              refine z_iload_n C dX10_book_52 rfl ?_
              refine z_isub C dX10_book_53 ?_
              refine z_aload_n C dX10_book_54 rfl ?_
              refine z_iload_n C dX10_book_55 rfl ?_
              refine zs_callVi C dX10_book_56 zm_X10_191 zyX10_wayOf (m_wayOf _ _ _ i (by omega)) zc_10 rfl zk_41 (by decide) (by decide) rfl rfl (Nat.le_of_ble_eq_true rfl) (by decide) (by decide) ?_
              refine z_imul C dX10_book_59 ?_
              refine zt_if_gt (tgt := 65) C dX10_book_60 rfl (by decide) (fun q60 => ?_) (fun q60 => ?_)
              · refine z_iload_n C dX10_book_65 rfl ?_
                refine z_istore (lv' := [some (.ref 41), some (.int _), some (.int _), some (.int _), some (.int _)]) C dX10_book_66 (by decide) rfl ?_
                exact lm_bookD n iv lw hc hn i hi b a d hU hb hb2 t ht ht2 hp r0 iv0 C E d 0 (by omega) (by simpa only [Nat.zero_add] using hr)
              · exact absurd hp.2.2.2.2.2 q60
