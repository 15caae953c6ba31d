set_option maxHeartbeats 1000000 in
set_option maxRecDepth 4000 in
theorem lm_r162 (n : Nat) (w cur : zI) (lw : zG) (t tl : Nat) (fa : Nat → Nat) (i : Nat) (hi : i < n) (hw : zMI n t tl fa w) (hc : zmsc cur w) (mm d mi : Int32) {X : zX} (C : zC X cX10_run 5 RX10 (some .int) "run" 5 0 0) (K : ∀ cur2, zmsc cur2 (if w 55 i = 2 then zmobf w i (zmbest w i t) (zmord w i t tl fa) else w) → zJs X n 5 179 [some (.ref 41), some (.int mm), some (.int d), some (.int mi), some (.int (nI i))] [] cur2 lw) : zJs X n 5 162 [some (.ref 41), some (.int mm), some (.int d), some (.int mi), some (.int (nI i))] [] cur lw := by
  have hcur := hw.sc hc
  have hn := hw.2.2.2.2.2.1
  have hi8 : i < 8 := by omega
  refine z_aload_n C dX10_run_162 rfl ?_
  refine zs_getR C dX10_run_163 zf_X10_53 zk_41 (by decide) (zr_41_17 n) ?_
  refine z_iload C dX10_run_166 rfl ?_
  refine z_iald C dX10_run_168 zk_55 (by decide) ?_ ?_
  · exact vp_in_nI (by omega) (by decide)
  refine z_iconst (v := 2) C dX10_run_169 (by decide) ?_
  refine z_icmp_ne (tgt := 179) C dX10_run_170 (by decide) (fun q170 => ?_) (fun q170 => ?_)
  · simp only [nI_clamp (show i < 2 ^ 31 by omega)] at q170
    refine K cur ?_
    rw [hc 55 (by decide) (by decide)] at q170
    rw [if_neg q170]
    exact hc
  · simp only [nI_clamp (show i < 2 ^ 31 by omega)] at q170
    refine z_aload_n C dX10_run_173 rfl ?_
    refine z_iload C dX10_run_174 rfl ?_
    refine zs_callVq C dX10_run_176 zm_X10_378 zyX10_held (m_held n cur _ i hi8 t hcur.2.1 hcur.2.2.1 tl fa hcur.2.2.2.2.2.2.2 (hcur.t57 hi (Or.inr (Or.inl q170))) (hcur.sg hi (by rw [q170]; decide)) (hcur.on hi)) zc_10 rfl zk_41 (by decide) (by decide) rfl rfl (Nat.le_of_ble_eq_true rfl) (by decide) (by decide) (fun v176 iv176 lw176 hq176 => ?_)
    obtain ⟨rfl, rfl, w176, hw176, rfl⟩ := hq176
    refine K _ ?_
    have q2 := q170
    rw [hc 55 (by decide) (by decide)] at q2
    rw [if_pos q2, ← hc.best, ← hc.ord i t tl fa hw.2.2.2.2.2.2.2]
    exact (hw176.tr hc).obf i _ _

set_option maxHeartbeats 1000000 in
set_option maxRecDepth 4000 in
theorem lm_r79 (n : Nat) (w cur : zI) (lw : zG) (t tl : Nat) (fa : Nat → Nat) (i : Nat) (hi : i < n) (hw : zMI n t tl fa w) (hc : zmsc cur w) (mm d mi : Int32) {X : zX} (C : zC X cX10_run 5 RX10 (some .int) "run" 5 0 0) (K0 : ∀ (cur2 : zI) (d2 : Int32), zmsc cur2 (zmc2 w i t) → d2 = d + (if ¬ (w 55 i = 0 ∧ (w 54 i).toInt ≤ (w 41 0).toInt) ∧ (w 55 i = 1 ∧ w 59 i = w 41 0) ∧ zmc2 w i t 55 i = 4 then 1 else 0) → zJs X n 5 162 [some (.ref 41), some (.int mm), some (.int d2), some (.int mi), some (.int (nI i))] [] cur2 lw) : zJs X n 5 79 [some (.ref 41), some (.int mm), some (.int d), some (.int mi), some (.int (nI i))] [] cur lw := by
  have hcur := hw.sc hc
  have K : ∀ (cur2 : zI) {w2 : zI} (d2 : Int32), zmsc cur2 w2 → cur2 55 = w2 55 → w2 = zmc2 w i t → d2 = d + (if ¬ (w 55 i = 0 ∧ (w 54 i).toInt ≤ (w 41 0).toInt) ∧ (w 55 i = 1 ∧ w 59 i = w 41 0) ∧ zmc2 w i t 55 i = 4 then 1 else 0) → zJs X n 5 162 [some (.ref 41), some (.int mm), some (.int d2), some (.int mi), some (.int (nI i))] [] cur2 lw := fun cur2 w2 d2 a _ b c => K0 cur2 d2 (by rw [← b]; exact a) c
  have hn := hw.2.2.2.2.2.1
  have hi8 : i < 8 := by omega
  refine z_aload_n C dX10_run_79 rfl ?_
  refine zs_getR C dX10_run_80 zf_X10_53 zk_41 (by decide) (zr_41_17 n) ?_
  refine z_iload C dX10_run_83 rfl ?_
  refine z_iald C dX10_run_85 zk_55 (by decide) ?_ ?_
  · exact vp_in_nI (by omega) (by decide)
  refine z_if_ne (tgt := 112) C dX10_run_86 (by decide) (fun q86 => ?_) (fun q86 => ?_)
  · simp only [nI_clamp (show i < 2 ^ 31 by omega)] at q86
    refine z_aload_n C dX10_run_112 rfl ?_
    refine zs_getR C dX10_run_113 zf_X10_53 zk_41 (by decide) (zr_41_17 n) ?_
    refine z_iload C dX10_run_116 rfl ?_
    refine z_iald C dX10_run_118 zk_55 (by decide) ?_ ?_
    · exact vp_in_nI (by omega) (by decide)
    refine z_iconst (v := 1) C dX10_run_119 (by decide) ?_
    refine z_icmp_ne (tgt := 162) C dX10_run_120 (by decide) (fun q120 => ?_) (fun q120 => ?_)
    · simp only [nI_clamp (show i < 2 ^ 31 by omega)] at q120
      have c55 := congrFun (hc 55 (by decide) (by decide)) i
      have c54 := congrFun (hc 54 (by decide) (by decide)) i
      have c59 := congrFun (hc 59 (by decide) (by decide)) i
      have c41 := congrFun (hc 41 (by decide) (by decide)) 0
      rw [c55] at q86
      rw [c55] at q120
      refine K _ _ hc (hc 55 (by decide) (by decide)) ?_ ?_
      · unfold zmc2; rw [if_neg (fun z => q86 z.1), if_neg (fun z => q120 z.1)]
      · exact (Int32.add_zero _).symm.trans (by rw [if_neg (fun z => q120 z.2.1.1)])
    · simp only [nI_clamp (show i < 2 ^ 31 by omega)] at q120
      refine z_aload_n C dX10_run_123 rfl ?_
      refine zs_getR C dX10_run_124 zf_X10_65 zk_41 (by decide) (zr_41_21 n) ?_
      refine z_iload C dX10_run_127 rfl ?_
      refine z_iald C dX10_run_129 zk_59 (by decide) ?_ ?_
      · exact vp_in_nI (by omega) (by decide)
      refine z_aload_n C dX10_run_130 rfl ?_
      refine z_getI C dX10_run_131 zf_X10_187 zk_41 (by decide) ?_
      refine z_icmp_ne (tgt := 162) C dX10_run_134 (by decide) (fun q134 => ?_) (fun q134 => ?_)
      · simp only [nI_clamp (show i < 2 ^ 31 by omega)] at q134
        have c55 := congrFun (hc 55 (by decide) (by decide)) i
        have c54 := congrFun (hc 54 (by decide) (by decide)) i
        have c59 := congrFun (hc 59 (by decide) (by decide)) i
        have c41 := congrFun (hc 41 (by decide) (by decide)) 0
        rw [c55] at q86
        rw [c55] at q120
        rw [c59, c41] at q134
        refine K _ _ hc (hc 55 (by decide) (by decide)) ?_ ?_
        · unfold zmc2; rw [if_neg (fun z => q86 z.1), if_neg (fun z => q134 z.2)]
        · exact (Int32.add_zero _).symm.trans (by rw [if_neg (fun z => q134 z.2.1.2)])
      · simp only [nI_clamp (show i < 2 ^ 31 by omega)] at q134
        refine z_aload_n C dX10_run_137 rfl ?_
        refine z_iload C dX10_run_138 rfl ?_
        refine zs_callVv C dX10_run_140 zm_X10_375 zyX10_arrive (m_arrive n cur _ i hi8 (hcur.on1 hi (by rw [q120]; decide)) (hcur.t57 hi (Or.inl q120))) zc_10 rfl zk_41 (by decide) (by decide) rfl rfl (Nat.le_of_ble_eq_true rfl) (by decide) (by decide) ?_
        refine z_iload_n C dX10_run_143 rfl ?_
        refine z_aload_n C dX10_run_144 rfl ?_
        refine zs_getR C dX10_run_145 zf_X10_53 zk_41 (by decide) (zr_41_17 n) ?_
        refine z_iload C dX10_run_148 rfl ?_
        refine z_iald C dX10_run_150 zk_55 (by decide) ?_ ?_
        · exact vp_in_nI (by omega) (by decide)
        refine z_iconst (v := 4) C dX10_run_151 (by decide) ?_
        refine z_icmp_ne (tgt := 159) C dX10_run_152 (by decide) (fun q152 => ?_) (fun q152 => ?_)
        · simp only [nI_clamp (show i < 2 ^ 31 by omega)] at q152
          refine z_iconst (v := 0) C dX10_run_159 (by decide) ?_
          refine z_iadd C dX10_run_160 ?_
          refine z_istore_n (lv' := [some (.ref 41), some (.int mm), some (.int _), some (.int mi), some (.int _)]) C dX10_run_161 (by decide) rfl ?_
          have c55 := congrFun (hc 55 (by decide) (by decide)) i
          have c54 := congrFun (hc 54 (by decide) (by decide)) i
          have c59 := congrFun (hc 59 (by decide) (by decide)) i
          have c41 := congrFun (hc 41 (by decide) (by decide)) 0
          rw [c55] at q86
          rw [c55] at q120
          rw [c59, c41] at q134
          have e2 : zmc2 w i t = zmarr w i := by unfold zmc2; rw [if_neg (fun z => q86 z.1), if_pos ⟨q120, q134⟩]
          have a55 := congrFun (hc.arr i 55 (by decide) (by decide)) i
          rw [a55, ← e2] at q152
          refine K _ _ (hc.arr i) (hc.arr i 55 (by decide) (by decide)) e2.symm ?_
          rw [if_neg (fun z => q152 z.2.2)]
        · simp only [nI_clamp (show i < 2 ^ 31 by omega)] at q152
          refine z_iconst (v := 1) C dX10_run_155 (by decide) ?_
          refine z_goto (tgt := 160) C dX10_run_156 (by decide) ?_
          refine z_iadd C dX10_run_160 ?_
          refine z_istore_n (lv' := [some (.ref 41), some (.int mm), some (.int _), some (.int mi), some (.int _)]) C dX10_run_161 (by decide) rfl ?_
          have c55 := congrFun (hc 55 (by decide) (by decide)) i
          have c54 := congrFun (hc 54 (by decide) (by decide)) i
          have c59 := congrFun (hc 59 (by decide) (by decide)) i
          have c41 := congrFun (hc 41 (by decide) (by decide)) 0
          rw [c55] at q86
          rw [c55] at q120
          rw [c59, c41] at q134
          have e2 : zmc2 w i t = zmarr w i := by unfold zmc2; rw [if_neg (fun z => q86 z.1), if_pos ⟨q120, q134⟩]
          have a55 := congrFun (hc.arr i 55 (by decide) (by decide)) i
          rw [a55, ← e2] at q152
          refine K _ _ (hc.arr i) (hc.arr i 55 (by decide) (by decide)) e2.symm ?_
          rw [if_pos ⟨fun z => q86 z.1, ⟨q120, q134⟩, q152⟩]
  · simp only [nI_clamp (show i < 2 ^ 31 by omega)] at q86
    refine z_aload_n C dX10_run_89 rfl ?_
    refine zs_getR C dX10_run_90 zf_X10_50 zk_41 (by decide) (zr_41_16 n) ?_
    refine z_iload C dX10_run_93 rfl ?_
    refine z_iald C dX10_run_95 zk_54 (by decide) ?_ ?_
    · exact vp_in_nI (by omega) (by decide)
    refine z_aload_n C dX10_run_96 rfl ?_
    refine z_getI C dX10_run_97 zf_X10_187 zk_41 (by decide) ?_
    refine zt_icmp_gt (tgt := 112) C dX10_run_100 rfl rfl (by decide) (fun q100 => ?_) (fun q100 => ?_)
    · simp only [nI_clamp (show i < 2 ^ 31 by omega)] at q100
      refine z_aload_n C dX10_run_112 rfl ?_
      refine zs_getR C dX10_run_113 zf_X10_53 zk_41 (by decide) (zr_41_17 n) ?_
      refine z_iload C dX10_run_116 rfl ?_
      refine z_iald C dX10_run_118 zk_55 (by decide) ?_ ?_
      · exact vp_in_nI (by omega) (by decide)
      refine z_iconst (v := 1) C dX10_run_119 (by decide) ?_
      refine z_icmp_ne (tgt := 162) C dX10_run_120 (by decide) (fun q120 => ?_) (fun q120 => ?_)
      · simp only [nI_clamp (show i < 2 ^ 31 by omega)] at q120
        have c55 := congrFun (hc 55 (by decide) (by decide)) i
        have c54 := congrFun (hc 54 (by decide) (by decide)) i
        have c59 := congrFun (hc 59 (by decide) (by decide)) i
        have c41 := congrFun (hc 41 (by decide) (by decide)) 0
        rw [c55] at q86
        rw [c54, c41] at q100
        refine K _ _ hc (hc 55 (by decide) (by decide)) ?_ ?_
        · unfold zmc2; rw [if_neg (fun z => by have := z.2; omega), if_neg (fun z => absurd (q86.symm.trans z.1) (by decide))]
        · exact (Int32.add_zero _).symm.trans (by rw [if_neg (fun z => absurd (q86.symm.trans z.2.1.1) (by decide))])
      · simp only [nI_clamp (show i < 2 ^ 31 by omega)] at q120
        exact absurd (q86.symm.trans q120) (by decide)
    · simp only [nI_clamp (show i < 2 ^ 31 by omega)] at q100
      refine z_aload_n C dX10_run_103 rfl ?_
      refine z_iload C dX10_run_104 rfl ?_
      refine zs_callVv C dX10_run_106 zm_X10_372 zyX10_begin (m_begin n cur _ i hi8 t hcur.2.1 hcur.2.2.1 (hcur.sg hi (by rw [q86]; decide))) zc_10 rfl zk_41 (by decide) (by decide) rfl rfl (Nat.le_of_ble_eq_true rfl) (by decide) (by decide) ?_
      refine z_goto (tgt := 162) C dX10_run_109 (by decide) ?_
      have c55 := congrFun (hc 55 (by decide) (by decide)) i
      have c54 := congrFun (hc 54 (by decide) (by decide)) i
      have c59 := congrFun (hc 59 (by decide) (by decide)) i
      have c41 := congrFun (hc 41 (by decide) (by decide)) 0
      rw [c55] at q86
      rw [c54, c41] at q100
      refine K _ _ (hc.set i t) (hc.set i t 55 (by decide) (by decide)) ?_ ?_
      · unfold zmc2; rw [if_pos ⟨q86, by omega⟩]
      · exact (Int32.add_zero _).symm.trans (by rw [if_neg (fun z => z.1 ⟨q86, by omega⟩)])

set_option maxHeartbeats 1000000 in
set_option maxRecDepth 4000 in
theorem lm_r38 (n : Nat) (w cur : zI) (lw : zG) (t tl : Nat) (fa : Nat → Nat) (i : Nat) (hi : i < n) (hw : zMI n t tl fa w) (hc : zmsc cur w) (mm d mi : Int32) {X : zX} (C : zC X cX10_run 5 RX10 (some .int) "run" 5 0 0) (K : ∀ cur2, zmsc cur2 (zmc1 w i) → zJs X n 5 79 [some (.ref 41), some (.int mm), some (.int d), some (.int mi), some (.int (nI i))] [] cur2 lw) : zJs X n 5 38 [some (.ref 41), some (.int mm), some (.int d), some (.int mi), some (.int (nI i))] [] cur lw := by
  have hcur := hw.sc hc
  have hn := hw.2.2.2.2.2.1
  have hi8 : i < 8 := by omega
  refine z_aload_n C dX10_run_38 rfl ?_
  refine zs_getR C dX10_run_39 zf_X10_53 zk_41 (by decide) (zr_41_17 n) ?_
  refine z_iload C dX10_run_42 rfl ?_
  refine z_iald C dX10_run_44 zk_55 (by decide) ?_ ?_
  · exact vp_in_nI (by omega) (by decide)
  refine z_iconst (v := 3) C dX10_run_45 (by decide) ?_
  refine z_icmp_ne (tgt := 79) C dX10_run_46 (by decide) (fun q46 => ?_) (fun q46 => ?_)
  · simp only [nI_clamp (show i < 2 ^ 31 by omega)] at q46
    have c55 := congrFun (hc 55 (by decide) (by decide)) i
    have c58 := congrFun (hc 58 (by decide) (by decide)) i
    have c41 := congrFun (hc 41 (by decide) (by decide)) 0
    rw [c55] at q46
    refine K _ ?_
    unfold zmc1
    rw [if_neg (fun z => q46 z.1)]
    exact hc
  · simp only [nI_clamp (show i < 2 ^ 31 by omega)] at q46
    refine z_aload_n C dX10_run_49 rfl ?_
    refine zs_getR C dX10_run_50 zf_X10_62 zk_41 (by decide) (zr_41_20 n) ?_
    refine z_iload C dX10_run_53 rfl ?_
    refine z_iald C dX10_run_55 zk_58 (by decide) ?_ ?_
    · exact vp_in_nI (by omega) (by decide)
    refine z_aload_n C dX10_run_56 rfl ?_
    refine z_getI C dX10_run_57 zf_X10_187 zk_41 (by decide) ?_
    refine z_icmp_ne (tgt := 79) C dX10_run_60 (by decide) (fun q60 => ?_) (fun q60 => ?_)
    · simp only [nI_clamp (show i < 2 ^ 31 by omega)] at q60
      have c55 := congrFun (hc 55 (by decide) (by decide)) i
      have c58 := congrFun (hc 58 (by decide) (by decide)) i
      have c41 := congrFun (hc 41 (by decide) (by decide)) 0
      rw [c55] at q46
      rw [c58, c41] at q60
      refine K _ ?_
      unfold zmc1
      rw [if_neg (fun z => q60 z.2)]
      exact hc
    · simp only [nI_clamp (show i < 2 ^ 31 by omega)] at q60
      refine z_aload_n C dX10_run_63 rfl ?_
      refine zs_getR C dX10_run_64 zf_X10_53 zk_41 (by decide) (zr_41_17 n) ?_
      refine z_iload C dX10_run_67 rfl ?_
      refine z_iconst (v := 1) C dX10_run_69 (by decide) ?_
      refine z_iast C dX10_run_70 zk_55 (by decide) ?_ ?_
      · exact vp_in_nI (by omega) (by decide)
      refine z_aload_n C dX10_run_71 rfl ?_
      refine zs_getR C dX10_run_72 zf_X10_68 zk_41 (by decide) (zr_41_22 n) ?_
      refine z_iload C dX10_run_75 rfl ?_
      refine z_iconst (v := 0) C dX10_run_77 (by decide) ?_
      refine z_iast C dX10_run_78 zk_60 (by decide) ?_ ?_
      · exact vp_in_nI (by omega) (by decide)
      have c55 := congrFun (hc 55 (by decide) (by decide)) i
      have c58 := congrFun (hc 58 (by decide) (by decide)) i
      have c41 := congrFun (hc 41 (by decide) (by decide)) 0
      rw [c55] at q46
      rw [c58, c41] at q60
      simp only [nI_clamp (show i < 2 ^ 31 by omega)]
      refine K _ ?_
      unfold zmc1
      rw [if_pos ⟨q46, q60⟩]
      exact (hc.zu _ _ rfl).zu _ _ rfl

set_option maxHeartbeats 1000000 in
set_option maxRecDepth 4000 in
theorem lm_coaches (n : Nat) (v0 : zI) (lw : zG) (t tl : Nat) (fa : Nat → Nat) (h0 : zMI n t tl fa v0) (mm d0 mi : Int32) {X : zX} (C : zC X cX10_run 5 RX10 (some .int) "run" 5 0 0) (K : ∀ cur2, zmsc cur2 (zmfold v0 t tl fa n) → zJs X n 5 185 [some (.ref 41), some (.int mm), some (.int (d0 + zmcnt v0 t tl fa n)), some (.int mi), some (.int (nI n))] [] cur2 lw) : ∀ (k : Nat) (i : Nat) (cur : zI), i + k = n → zmsc cur (zmfold v0 t tl fa i) → zJs X n 5 29 [some (.ref 41), some (.int mm), some (.int (d0 + zmcnt v0 t tl fa i)), some (.int mi), some (.int (nI i))] [] cur lw := by
  intro k
  induction k with
  | zero =>
    intro i cur hk hc
    have hY := h0.fold i (by omega)
    have hcur := hY.sc hc
    have hn := hcur.2.2.2.2.2.1
    refine z_iload C dX10_run_29 rfl ?_
    refine z_aload_n C dX10_run_31 rfl ?_
    refine z_getI C dX10_run_32 zf_X10_165 zk_41 (by decide) ?_
    refine zt_icmp_ge (tgt := 185) C dX10_run_35 (nI_toInt (by omega)) (zt_nI (show cur 41 11 = nI n from hcur.2.2.2.2.1) (by omega)) (by decide) (fun q35 => ?_) (fun q35 => ?_)
    · have ei : i = n := by omega
      subst ei
      exact K cur hc
    · exfalso; omega
  | succ k ih =>
    intro i cur hk hc
    have hY := h0.fold i (by omega)
    have hcur := hY.sc hc
    have hn := hcur.2.2.2.2.2.1
    refine z_iload C dX10_run_29 rfl ?_
    refine z_aload_n C dX10_run_31 rfl ?_
    refine z_getI C dX10_run_32 zf_X10_165 zk_41 (by decide) ?_
    refine zt_icmp_ge (tgt := 185) C dX10_run_35 (nI_toInt (by omega)) (zt_nI (show cur 41 11 = nI n from hcur.2.2.2.2.1) (by omega)) (by decide) (fun q35 => ?_) (fun q35 => ?_)
    · exfalso; omega
    · have hi : i < n := by omega
      refine lm_r38 n (zmfold v0 t tl fa i) cur lw t tl fa i hi hY hc mm _ mi C (fun u1 hu1 => ?_)
      refine lm_r79 n (zmc1 (zmfold v0 t tl fa i) i) u1 lw t tl fa i hi (hY.c1 hi) hu1 mm _ mi C (fun u2 d2 hu2 hd2 => ?_)
      refine lm_r162 n (zmc2 (zmc1 (zmfold v0 t tl fa i) i) i t) u2 lw t tl fa i hi (hY.cc hi) hu2 mm _ mi C (fun u3 hu3 => ?_)
      have e2 : d2 = d0 + zmcnt v0 t tl fa (i + 1) := by
        rw [hd2, Int32.add_assoc]
        rfl
      subst e2
      refine z_iinc (y := 1) (lv' := [some (.ref 41), some (.int _), some (.int _), some (.int _), some (.int _)]) C dX10_run_179 rfl (by decide) (by decide) rfl ?_
      refine z_goto (tgt := 29) C dX10_run_182 (by decide) ?_
      rw [nI_1 i]
      exact ih (i + 1) u3 (by omega) hu3

theorem zMI.p8 {n t tl : Nat} {fa : Nat → Nat} {iv : zI} (h : zMI n t tl fa iv) : ∀ q, q < t → (iv 48 q).toInt < 8 := by
  intro q hq
  have h1 := h.2.2.2.1 q hq
  have h2 := h.1
  rcases h1 with h1 | h1
  · rw [h1]; decide
  · omega
theorem z_drop4 {a b c d e : Option Value} : ∀ (k : Nat) (v : Value), [a, b, c, d, none][k]? = some (some v) → [a, b, c, d, e][k]? = some (some v) := by
  intro k v hv
  match k, hv with
  | 0, hv => exact hv
  | 1, hv => exact hv
  | 2, hv => exact hv
  | 3, hv => exact hv
  | 4, hv => simp at hv
  | k + 5, hv => simp at hv

set_option maxHeartbeats 1000000 in
set_option maxRecDepth 4000 in
theorem lm_run (n : Nat) (iv : zI) (lw : zG) (t tl : Nat) (fa : Nat → Nat) (hX : zMI n t tl fa iv) (mm : Nat) (hm : mm ≤ 1500) {X : zX} (C : zC X cX10_run 5 RX10 (some .int) "run" 5 0 0) (E : zEnd X (91 + 3 * n) 0 0 (zQ n (fun v iv2 lw2 => v = some (.int (zmdns iv n t tl fa mm)) ∧ lw2 = lw ∧ zmsc iv2 (zmmins iv n t tl fa mm)))) : ∀ (k : Nat) (i : Nat) (cur : zI), i + k = mm → zmsc cur (zmmins iv n t tl fa i) → zJs X n 5 17 [some (.ref 41), some (.int (nI mm)), some (.int (zmdns iv n t tl fa i)), some (.int (nI i)), none] [] cur lw := by
  intro k
  induction k with
  | zero =>
    intro i cur hk hc
    have hY := hX.minutes i
    have hcur := hY.sc hc
    refine z_iload_n C dX10_run_17 rfl ?_
    refine z_iload_n C dX10_run_18 rfl ?_
    refine zt_icmp_ge (tgt := 201) C dX10_run_19 (nI_toInt (by omega)) (nI_toInt (by omega)) (by decide) (fun q19 => ?_) (fun q19 => ?_)
    · refine z_iload_n C dX10_run_201 rfl ?_
      refine zs_qiret C E dX10_run_202 rfl ?_
      exact ⟨by rw [show i = mm by omega], rfl, by rw [← show i = mm by omega]; exact hc⟩
    · exfalso; omega
  | succ k ih =>
    intro i cur hk hc
    have hY := hX.minutes i
    have hcur := hY.sc hc
    refine z_iload_n C dX10_run_17 rfl ?_
    refine z_iload_n C dX10_run_18 rfl ?_
    refine zt_icmp_ge (tgt := 201) C dX10_run_19 (nI_toInt (by omega)) (nI_toInt (by omega)) (by decide) (fun q19 => ?_) (fun q19 => ?_)
    · exfalso; omega
    · refine z_aload_n C dX10_run_22 rfl ?_
      refine zs_callVv C dX10_run_23 zm_X10_369 zyX10_rest (m_rest n cur _ t hcur.2.1 hcur.2.2.1 hcur.p8) zc_10 rfl zk_41 (by decide) (by decide) rfl rfl (Nat.le_of_ble_eq_true rfl) (by decide) (by decide) ?_
      refine z_iconst (v := 0) C dX10_run_26 (by decide) ?_
      refine z_istore (lv' := [some (.ref 41), some (.int _), some (.int _), some (.int _), some (.int _)]) C dX10_run_27 (by decide) rfl ?_
      have hz : zmdns iv n t tl fa i + zmcnt (zmrest cur t) t tl fa 0 = zmdns iv n t tl fa i := Int32.add_zero _
      rw [← hz]
      refine lm_coaches n (zmrest cur t) lw t tl fa hcur.rest _ (zmdns iv n t tl fa i) _ (zC_le (by decide) C) (fun u hu => ?_) n 0 _ (by omega) (zmsc.rf _)
      refine z_aload_n C dX10_run_185 rfl ?_
      refine z_dup C dX10_run_186 rfl ?_
      refine z_getI C dX10_run_187 zf_X10_187 zk_41 (by decide) ?_
      refine z_iconst (v := 1) C dX10_run_190 (by decide) ?_
      refine z_iadd C dX10_run_191 ?_
      refine z_putI C dX10_run_192 zf_X10_187 zk_41 (by decide) ?_
      refine z_iinc (y := 1) (lv' := [some (.ref 41), some (.int _), some (.int _), some (.int _), some (.int _)]) C dX10_run_195 rfl (by decide) (by decide) rfl ?_
      refine z_goto (tgt := 17) C dX10_run_198 (by decide) ?_
      refine z_sub z_drop4 ?_
      rw [nI_1 i]
      have e2 : zmdns iv n t tl fa (i + 1) = zmdns iv n t tl fa i + zmcnt (zmrest cur t) t tl fa n := by
        show zmdns iv n t tl fa i + zmcnt (zmrest (zmmins iv n t tl fa i) t) t tl fa n = _
        rw [(hc.rs t).cnt hY.rest n (Nat.le_refl _)]
      rw [← e2]
      refine ih (i + 1) _ (by omega) ?_
      have h3 := hu.tr ((hc.rs t).fold hY.rest n (Nat.le_refl _))
      exact h3.zu 41 0 (by rw [h3 41 (by decide) (by decide)])

set_option maxRecDepth 4000 in
theorem m_run1 (n : Nat) (iv : zI) (lw : zG) (t tl : Nat) (fa : Nat → Nat) (hX : zMI n t tl fa iv) (mm : Nat) (hm : mm ≤ 1500) : zMs yX10_run cX10_run 5 (some .int) 5 [.ref 41, .int (nI mm)] n iv lw (fun v iv2 lw2 => v = some (.int (zmdns iv n t tl fa mm)) ∧ lw2 = lw ∧ zmsc iv2 (zmmins iv n t tl fa mm)) := by
  refine zM.of (by decide) (Nat.le_of_ble_eq_true rfl) (fun X C E => ?_)
  change zJs X n 5 0 [some (.ref 41), some (.int (nI mm)), none, none, none] [] iv lw
  refine z_iload_n C dX10_run_0 rfl ?_
  refine zt_if_lt (tgt := 11) C dX10_run_1 (nI_toInt (by omega)) (by decide) (fun q1 => ?_) (fun q1 => ?_)
  · exfalso; omega
  · refine z_iload_n C dX10_run_4 rfl ?_
    refine z_sipush (v := 1500) C dX10_run_5 (by decide) ?_
    refine zt_icmp_le (tgt := 13) C dX10_run_8 (nI_toInt (by omega)) (show (1500 : Int32).toInt = 1500 by decide) (by decide) (fun q8 => ?_) (fun q8 => ?_)
    · refine z_iconst (v := 0) C dX10_run_13 (by decide) ?_
      refine z_istore_n (lv' := [some (.ref 41), some (.int _), some (.int _), none, none]) C dX10_run_14 (by decide) rfl ?_
      refine z_iconst (v := 0) C dX10_run_15 (by decide) ?_
      refine z_istore_n (lv' := [some (.ref 41), some (.int _), some (.int _), some (.int _), none]) C dX10_run_16 (by decide) rfl ?_
      exact lm_run n iv lw t tl fa hX mm hm (zC_le (by decide) C) E mm 0 iv (by omega) (zmsc.rf _)
    · exfalso; omega

set_option maxRecDepth 4000 in
theorem m_run0 (n : Nat) (iv : zI) (lw : zG) (mm : Int32) (hm : ¬ (0 ≤ mm.toInt ∧ mm.toInt ≤ 1500)) : zMi yX10_run cX10_run 5 (some .int) 5 [.ref 41, .int mm] n iv lw (-1) iv lw := by
  refine zM.of (by decide) (Nat.le_of_ble_eq_true rfl) (fun X C E => ?_)
  change zJs X n 5 0 [some (.ref 41), some (.int mm), none, none, none] [] iv lw
  refine z_iload_n C dX10_run_0 rfl ?_
  refine zt_if_lt (tgt := 11) C dX10_run_1 rfl (by decide) (fun q1 => ?_) (fun q1 => ?_)
  · refine z_iconst (v := (-1)) C dX10_run_11 (by decide) ?_
    refine zs_iret C E dX10_run_12 rfl ?_ ?_ ?_
    · rfl
    · rfl
    · rfl
  · refine z_iload_n C dX10_run_4 rfl ?_
    refine z_sipush (v := 1500) C dX10_run_5 (by decide) ?_
    refine zt_icmp_le (tgt := 13) C dX10_run_8 rfl (show (1500 : Int32).toInt = 1500 by decide) (by decide) (fun q8 => ?_) (fun q8 => ?_)
    · exfalso; omega
    · refine z_iconst (v := (-1)) C dX10_run_11 (by decide) ?_
      refine zs_iret C E dX10_run_12 rfl ?_ ?_ ?_
      · rfl
      · rfl
      · rfl
