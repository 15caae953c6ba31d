/-- what the reference's guard sees -/
def zmfr (iv : zI) (i t : Nat) : Int32 := if (zmbest iv i t).toInt < 0 then -1 else iv 47 (zmbest iv i t).toNatClampNeg
def zmlook (iv : zI) (i t : Nat) : zI := zu (zu (zu (zu (zu (zu (zu (zu (zu (zu iv 75 0 (iv 41 0 - zmtold iv i (iv 56 i).toNatClampNeg)) 75 1 (iv 51 i)) 75 2 (iv 44 (zmsg iv i).toNatClampNeg)) 75 3 (iv 42 (zmsg iv i).toNatClampNeg)) 75 4 (if iv 50 i = 1 then 1 else 0)) 75 5 (if iv 50 i = 2 then 1 else 0)) 75 6 (zmfr iv i t)) 75 7 (zmsv iv i)) 75 8 (iv 56 i)) 75 9 (iv 60 i)
def zmcho (names S N does : Nat → Int32) (fa : Nat → Nat) (df : Int32) : Nat → Nat → Int32
  | _, 0 => df
  | l, k + 1 => if ¬ zbot (zmev names S N (fa l) (fa (l + 1) - fa l) []) = 0 then does l else zmcho names S N does fa df (l + 1) k
def zmdf (iv : zI) (i t : Nat) : Int32 := if ¬ (zmbest iv i t).toInt < 0 ∧ (zmsv iv i).toInt < (iv 47 (zmbest iv i t).toNatClampNeg).toInt then 2 else 1
def zmord (iv : zI) (i t tl : Nat) (fa : Nat → Nat) : Int32 := zmcho (zmlook iv i t 75) (iv 64) (iv 65) (iv 67) fa (zmdf iv i t) 0 tl
def zmGI (tl : Nat) (fa : Nat → Nat) (iv : zI) : Prop := iv 41 30 = nI tl ∧ tl ≤ 10 ∧ (∀ l, l ≤ tl → iv 66 l = nI (fa l) ∧ fa l ≤ 500) ∧ (∀ l, l < tl → fa l ≤ fa (l + 1)) ∧ (∀ l, l < tl → zmwf (iv 64) (fa l) (fa (l + 1) - fa l) 0)

set_option maxHeartbeats 1000000 in
set_option maxRecDepth 4000 in
theorem lm_deed (n : Nat) (iv : zI) (lw : zG) (i : Nat) (hi : i < 8) (t : Nat) (ht : iv 41 7 = nI t) (ht2 : t ≤ 20) (tl : Nat) (fa : Nat → Nat) (hG : zmGI tl fa iv) (ht57 : vp_in (iv 57 i) 20) (r0 : Int32) {X : zX} (C : zC X cX10_deed 5 RX10 (some .int) "deed" 1 0 0) (E : zEnd X (91 + 3 * n) 0 0 (zQ n (fun v iv2 lw2 => v = some (.int r0) ∧ lw2 = lw ∧ ∀ c, c ≠ 74 → iv2 c = zmlook iv i t c))) : ∀ (k : Nat) (l : Nat) (cur : zI), l + k = tl → (∀ c, c ≠ 74 → cur c = zmlook iv i t c) → zmcho (zmlook iv i t 75) (iv 64) (iv 65) (iv 67) fa (zmdf iv i t) l k = r0 → zJs X n 5 191 [some (.ref 41), some (.int (nI i)), some (.int (zmsg iv i)), some (.int (zmbest iv i t)), some (.int (nI l))] [] cur lw := by
  intro k
  induction k with
  | zero =>
    intro l cur hk ho hr
    have htl := hG.2.1
    refine z_iload C dX10_deed_191 rfl ?_
    refine z_aload_n C dX10_deed_193 rfl ?_
    refine z_getI C dX10_deed_194 zf_X10_348 zk_41 (by decide) ?_
    refine zt_icmp_ge (tgt := 223) C dX10_deed_197 (nI_toInt (by omega)) (zt_nI (show cur 41 30 = nI tl by rw [ho 41 (by decide)]; exact hG.1) (by omega)) (by decide) (fun q197 => ?_) (fun q197 => ?_)
    · refine z_iload_n C dX10_deed_223 rfl ?_
      refine zt_if_lt (tgt := 251) C dX10_deed_224 rfl (by decide) (fun q224 => ?_) (fun q224 => ?_)
      · refine z_iconst (v := 1) C dX10_deed_251 (by decide) ?_
        refine zs_qiret C E dX10_deed_252 rfl ?_
        refine ⟨?_, rfl, ho⟩
        have hr2 : zmdf iv i t = r0 := hr
        rw [← hr2]
        unfold zmdf
        rw [if_neg (fun z => z.1 (by omega))]
      · refine z_aload_n C dX10_deed_227 rfl ?_
        refine zs_getR C dX10_deed_228 zf_X10_29 zk_41 (by decide) (zr_41_8 n) ?_
        refine z_iload_n C dX10_deed_231 rfl ?_
        refine z_iald C dX10_deed_232 zk_47 (by decide) ?_ ?_
        · exact vp_in_iff.mpr (by have := zmbest_in ht2 (show ¬ (zmbest iv i t).toInt < 0 by omega); omega)
        refine z_aload_n C dX10_deed_233 rfl ?_
        refine zs_getR C dX10_deed_234 zf_X10_29 zk_41 (by decide) (zr_41_8 n) ?_
        refine z_aload_n C dX10_deed_237 rfl ?_
        refine zs_getR C dX10_deed_238 zf_X10_59 zk_41 (by decide) (zr_41_19 n) ?_
        refine z_iload_n C dX10_deed_241 rfl ?_
        refine z_iald C dX10_deed_242 zk_57 (by decide) ?_ ?_
        · exact vp_in_nI (by omega) (by decide)
        refine z_iald C dX10_deed_243 zk_47 (by decide) ?_ ?_
        · rw [nI_clamp (by omega), ho 57 (by decide)]
          exact ht57
        refine zt_icmp_le (tgt := 251) C dX10_deed_244 rfl rfl (by decide) (fun q244 => ?_) (fun q244 => ?_)
        · refine z_iconst (v := 1) C dX10_deed_251 (by decide) ?_
          refine zs_qiret C E dX10_deed_252 rfl ?_
          refine ⟨?_, rfl, ho⟩
          have hr2 : zmdf iv i t = r0 := hr
          rw [← hr2]
          unfold zmdf
          simp only [nI_clamp (show i < 2 ^ 31 by omega)] at q244
          rw [ho 47 (by decide), ho 57 (by decide)] at q244
          have q244x : (iv 47 (zmbest iv i t).toNatClampNeg).toInt ≤ (zmsv iv i).toInt := q244
          rw [if_neg (fun z => by have := z.2; omega)]
        · refine z_iconst (v := 2) C dX10_deed_247 (by decide) ?_
          refine z_goto (tgt := 252) C dX10_deed_248 (by decide) ?_
          refine zs_qiret C E dX10_deed_252 rfl ?_
          refine ⟨?_, rfl, ho⟩
          have hr2 : zmdf iv i t = r0 := hr
          rw [← hr2]
          unfold zmdf
          simp only [nI_clamp (show i < 2 ^ 31 by omega)] at q244
          rw [ho 47 (by decide), ho 57 (by decide)] at q244
          have q244x : ¬ (iv 47 (zmbest iv i t).toNatClampNeg).toInt ≤ (zmsv iv i).toInt := q244
          rw [if_pos ⟨by omega, by omega⟩]
    · exfalso; omega
  | succ k ih =>
    intro l cur hk ho hr
    have htl := hG.2.1
    refine z_iload C dX10_deed_191 rfl ?_
    refine z_aload_n C dX10_deed_193 rfl ?_
    refine z_getI C dX10_deed_194 zf_X10_348 zk_41 (by decide) ?_
    refine zt_icmp_ge (tgt := 223) C dX10_deed_197 (nI_toInt (by omega)) (zt_nI (show cur 41 30 = nI tl by rw [ho 41 (by decide)]; exact hG.1) (by omega)) (by decide) (fun q197 => ?_) (fun q197 => ?_)
    · exfalso; omega
    · refine z_aload_n C dX10_deed_200 rfl ?_
      refine z_iload C dX10_deed_201 rfl ?_
      refine zs_callVq C dX10_deed_203 zm_X10_354 zyX10_holds (m_holds n cur _ l (fa l) (fa (l + 1)) (by omega) (by rw [ho 66 (by decide)]; exact (hG.2.2.1 l (by omega)).1) (by rw [ho 66 (by decide)]; exact (hG.2.2.1 (l + 1) (by omega)).1) (hG.2.2.1 (l + 1) (by omega)).2 (hG.2.2.2.1 l (by omega)) (by rw [ho 64 (by decide)]; exact hG.2.2.2.2 l (by omega))) zc_10 rfl zk_41 (by decide) (by decide) rfl rfl (Nat.le_of_ble_eq_true rfl) (by decide) (by decide) (fun v203 iv203 lw203 hq203 => ?_)
      obtain ⟨rfl, rfl, hb203⟩ := hq203
      have ho203 : ∀ c, c ≠ 74 → iv203 c = zmlook iv i t c := fun c hc => by rw [hb203 c hc, ho c hc]
      rw [ho 75 (by decide), ho 64 (by decide), ho 65 (by decide), show zmlook iv i t 64 = iv 64 from rfl, show zmlook iv i t 65 = iv 65 from rfl]
      refine zb_if_eq (tgt := 217) C dX10_deed_206 (by decide) (fun q206 => ?_) (fun q206 => ?_)
      · refine z_iinc (y := 1) (lv' := [some (.ref 41), some (.int _), some (.int _), some (.int _), some (.int _)]) C dX10_deed_217 rfl (by decide) (by decide) rfl ?_
        refine z_goto (tgt := 191) C dX10_deed_220 (by decide) ?_
        rw [nI_1 l]
        refine ih (l + 1) iv203 (by omega) ho203 ?_
        rw [← hr, zmcho, if_neg q206]
      · refine z_aload_n C dX10_deed_209 rfl ?_
        refine zs_getR C dX10_deed_210 zf_X10_89 zk_41 (by decide) (zr_41_29 n) ?_
        refine z_iload C dX10_deed_213 rfl ?_
        refine z_iald C dX10_deed_215 zk_67 (by decide) ?_ ?_
        · exact vp_in_nI (by omega) (by decide)
        refine zs_qiret C E dX10_deed_216 rfl ?_
        refine ⟨?_, rfl, ho203⟩
        rw [nI_clamp (by omega), ho203 67 (by decide), ← hr, zmcho, if_pos q206]
        rfl

set_option maxHeartbeats 1000000 in
set_option maxRecDepth 4000 in
theorem m_deed (n : Nat) (iv : zI) (lw : zG) (i : Nat) (hi : i < 8) (t : Nat) (ht : iv 41 7 = nI t) (ht2 : t ≤ 20) (tl : Nat) (fa : Nat → Nat) (hG : zmGI tl fa iv) (ht57 : vp_in (iv 57 i) 20) (hs : vp_in (zmsg iv i) 8) (hon : zmon iv i (iv 56 i)) : zMs yX10_deed cX10_deed 5 (some .int) 3 [.ref 41, .int (nI i)] n iv lw (fun v iv2 lw2 => v = some (.int (zmord iv i t tl fa)) ∧ lw2 = lw ∧ ∀ c, c ≠ 74 → iv2 c = zmlook iv i t c) := by
  refine zM.of (by decide) (Nat.le_of_ble_eq_true rfl) (fun X C E => ?_)
  change zJs X n 5 0 [some (.ref 41), some (.int (nI i)), none, none, none] [] iv lw
  refine z_aload_n C dX10_deed_0 rfl ?_
  refine z_iload_n C dX10_deed_1 rfl ?_
  refine z_aload_n C dX10_deed_2 rfl ?_
  refine zs_getR C dX10_deed_3 zf_X10_56 zk_41 (by decide) (zr_41_18 n) ?_
  refine z_iload_n C dX10_deed_6 rfl ?_
  refine z_iald C dX10_deed_7 zk_56 (by decide) ?_ ?_
  · exact vp_in_nI (by omega) (by decide)
  refine zs_callVi C dX10_deed_8 zm_X10_195 zyX10_stageFrom (m_stageFrom _ _ _ i hi _) zc_10 rfl zk_41 (by decide) (by decide) rfl rfl (Nat.le_of_ble_eq_true rfl) (by decide) (by decide) ?_
  rw [nI_clamp (by omega)]
  show zJs X n 5 11 _ (.int (zmsg iv i) :: []) iv lw
  refine z_istore_n (lv' := [some (.ref 41), some (.int _), some (.int _), none, none]) C dX10_deed_11 (by decide) rfl ?_
  refine z_aload_n C dX10_deed_12 rfl ?_
  refine z_aload_n C dX10_deed_13 rfl ?_
  refine zs_getR C dX10_deed_14 zf_X10_56 zk_41 (by decide) (zr_41_18 n) ?_
  refine z_iload_n C dX10_deed_17 rfl ?_
  refine z_iald C dX10_deed_18 zk_56 (by decide) ?_ ?_
  · exact vp_in_nI (by omega) (by decide)
  refine zs_callVi C dX10_deed_19 zm_X10_351 zyX10_strongest (m_strongest _ _ _ _ t ht ht2) zc_10 rfl zk_41 (by decide) (by decide) rfl rfl (Nat.le_of_ble_eq_true rfl) (by decide) (by decide) ?_
  rw [nI_clamp (by omega)]
  show zJs X n 5 22 _ (.int (zmbest iv i t) :: []) iv lw
  refine z_istore_n (lv' := [some (.ref 41), some (.int _), some (.int _), some (.int _), none]) C dX10_deed_22 (by decide) rfl ?_
  refine z_aload_n C dX10_deed_23 rfl ?_
  refine zs_getR C dX10_deed_24 zf_X10_116 zk_41 (by decide) (zr_41_52 n) ?_
  refine z_iconst (v := 0) C dX10_deed_27 (by decide) ?_
  refine z_aload_n C dX10_deed_28 rfl ?_
  refine z_getI C dX10_deed_29 zf_X10_187 zk_41 (by decide) ?_
  refine z_aload_n C dX10_deed_32 rfl ?_
  refine z_iload_n C dX10_deed_33 rfl ?_
  refine z_aload_n C dX10_deed_34 rfl ?_
  refine zs_getR C dX10_deed_35 zf_X10_56 zk_41 (by decide) (zr_41_18 n) ?_
  refine z_iload_n C dX10_deed_38 rfl ?_
  refine z_iald C dX10_deed_39 zk_56 (by decide) ?_ ?_
  · exact vp_in_nI (by omega) (by decide)
  refine zs_callVi C dX10_deed_40 zm_X10_209 zyX10_toldAt (m_toldAt n iv _ i hi _ (by rw [nI_clamp (by omega)]; exact hon)) zc_10 rfl zk_41 (by decide) (by decide) rfl rfl (Nat.le_of_ble_eq_true rfl) (by decide) (by decide) ?_
  refine z_isub C dX10_deed_43 ?_
  refine z_iast C dX10_deed_44 zk_75 (by decide) ?_ ?_
  · exact vp_in_iff.mpr (by decide)
  refine z_aload_n C dX10_deed_45 rfl ?_
  refine zs_getR C dX10_deed_46 zf_X10_116 zk_41 (by decide) (zr_41_52 n) ?_
  refine z_iconst (v := 1) C dX10_deed_49 (by decide) ?_
  refine z_aload_n C dX10_deed_50 rfl ?_
  refine zs_getR C dX10_deed_51 zf_X10_41 zk_41 (by decide) (zr_41_13 n) ?_
  refine z_iload_n C dX10_deed_54 rfl ?_
  refine z_iald C dX10_deed_55 zk_51 (by decide) ?_ ?_
  · exact vp_in_nI (by omega) (by decide)
  refine z_iast C dX10_deed_56 zk_75 (by decide) ?_ ?_
  · exact vp_in_iff.mpr (by decide)
  refine z_aload_n C dX10_deed_57 rfl ?_
  refine zs_getR C dX10_deed_58 zf_X10_116 zk_41 (by decide) (zr_41_52 n) ?_
  refine z_iconst (v := 2) C dX10_deed_61 (by decide) ?_
  refine z_aload_n C dX10_deed_62 rfl ?_
  refine zs_getR C dX10_deed_63 zf_X10_20 zk_41 (by decide) (zr_41_4 n) ?_
  refine z_iload_n C dX10_deed_66 rfl ?_
  refine z_iald C dX10_deed_67 zk_44 (by decide) ?_ ?_
  · exact hs
  refine z_iast C dX10_deed_68 zk_75 (by decide) ?_ ?_
  · exact vp_in_iff.mpr (by decide)
  refine z_aload_n C dX10_deed_69 rfl ?_
  refine zs_getR C dX10_deed_70 zf_X10_116 zk_41 (by decide) (zr_41_52 n) ?_
  refine z_iconst (v := 3) C dX10_deed_73 (by decide) ?_
  refine z_aload_n C dX10_deed_74 rfl ?_
  refine zs_getR C dX10_deed_75 zf_X10_13 zk_41 (by decide) (zr_41_2 n) ?_
  refine z_iload_n C dX10_deed_78 rfl ?_
  refine z_iald C dX10_deed_79 zk_42 (by decide) ?_ ?_
  · exact hs
  refine z_iast C dX10_deed_80 zk_75 (by decide) ?_ ?_
  · exact vp_in_iff.mpr (by decide)
  refine z_aload_n C dX10_deed_81 rfl ?_
  refine zs_getR C dX10_deed_82 zf_X10_116 zk_41 (by decide) (zr_41_52 n) ?_
  refine z_iconst (v := 4) C dX10_deed_85 (by decide) ?_
  refine z_aload_n C dX10_deed_86 rfl ?_
  refine zs_getR C dX10_deed_87 zf_X10_38 zk_41 (by decide) (zr_41_12 n) ?_
  refine z_iload_n C dX10_deed_90 rfl ?_
  refine z_iald C dX10_deed_91 zk_50 (by decide) ?_ ?_
  · exact vp_in_nI (by omega) (by decide)
  refine z_iconst (v := 1) C dX10_deed_92 (by decide) ?_
  refine z_icmp_ne (tgt := 100) C dX10_deed_93 (by decide) (fun q93 => ?_) (fun q93 => ?_)
  · simp only [nI_clamp (show i < 2 ^ 31 by omega)] at q93
    have q93 : ¬ iv 50 i = 1 := q93
    refine z_iconst (v := 0) C dX10_deed_100 (by decide) ?_
    refine z_iast C dX10_deed_101 zk_75 (by decide) ?_ ?_
    · exact vp_in_iff.mpr (by decide)
    refine z_aload_n C dX10_deed_102 rfl ?_
    refine zs_getR C dX10_deed_103 zf_X10_116 zk_41 (by decide) (zr_41_52 n) ?_
    refine z_iconst (v := 5) C dX10_deed_106 (by decide) ?_
    refine z_aload_n C dX10_deed_107 rfl ?_
    refine zs_getR C dX10_deed_108 zf_X10_38 zk_41 (by decide) (zr_41_12 n) ?_
    refine z_iload_n C dX10_deed_111 rfl ?_
    refine z_iald C dX10_deed_112 zk_50 (by decide) ?_ ?_
    · exact vp_in_nI (by omega) (by decide)
    refine z_iconst (v := 2) C dX10_deed_113 (by decide) ?_
    refine z_icmp_ne (tgt := 121) C dX10_deed_114 (by decide) (fun q114 => ?_) (fun q114 => ?_)
    · simp only [nI_clamp (show i < 2 ^ 31 by omega)] at q114
      have q114 : ¬ iv 50 i = 2 := q114
      refine z_iconst (v := 0) C dX10_deed_121 (by decide) ?_
      refine z_iast C dX10_deed_122 zk_75 (by decide) ?_ ?_
      · exact vp_in_iff.mpr (by decide)
      refine z_aload_n C dX10_deed_123 rfl ?_
      refine zs_getR C dX10_deed_124 zf_X10_116 zk_41 (by decide) (zr_41_52 n) ?_
      refine z_bipush (v := 6) C dX10_deed_127 (by decide) ?_
      refine z_iload_n C dX10_deed_129 rfl ?_
      refine zt_if_ge (tgt := 137) C dX10_deed_130 rfl (by decide) (fun q130 => ?_) (fun q130 => ?_)
      · refine z_aload_n C dX10_deed_137 rfl ?_
        refine zs_getR C dX10_deed_138 zf_X10_29 zk_41 (by decide) (zr_41_8 n) ?_
        refine z_iload_n C dX10_deed_141 rfl ?_
        refine z_iald C dX10_deed_142 zk_47 (by decide) ?_ ?_
        · exact vp_in_iff.mpr (by have := zmbest_in ht2 (show ¬ (zmbest iv i t).toInt < 0 by omega); omega)
        refine z_iast C dX10_deed_143 zk_75 (by decide) ?_ ?_
        · exact vp_in_iff.mpr (by decide)
        refine z_aload_n C dX10_deed_144 rfl ?_
        refine zs_getR C dX10_deed_145 zf_X10_116 zk_41 (by decide) (zr_41_52 n) ?_
        refine z_bipush (v := 7) C dX10_deed_148 (by decide) ?_
        refine z_aload_n C dX10_deed_150 rfl ?_
        refine zs_getR C dX10_deed_151 zf_X10_29 zk_41 (by decide) (zr_41_8 n) ?_
        refine z_aload_n C dX10_deed_154 rfl ?_
        refine zs_getR C dX10_deed_155 zf_X10_59 zk_41 (by decide) (zr_41_19 n) ?_
        refine z_iload_n C dX10_deed_158 rfl ?_
        refine z_iald C dX10_deed_159 zk_57 (by decide) ?_ ?_
        · exact vp_in_nI (by omega) (by decide)
        refine z_iald C dX10_deed_160 zk_47 (by decide) ?_ ?_
        · rw [nI_clamp (by omega)]
          exact ht57
        refine z_iast C dX10_deed_161 zk_75 (by decide) ?_ ?_
        · exact vp_in_iff.mpr (by decide)
        refine z_aload_n C dX10_deed_162 rfl ?_
        refine zs_getR C dX10_deed_163 zf_X10_116 zk_41 (by decide) (zr_41_52 n) ?_
        refine z_bipush (v := 8) C dX10_deed_166 (by decide) ?_
        refine z_aload_n C dX10_deed_168 rfl ?_
        refine zs_getR C dX10_deed_169 zf_X10_56 zk_41 (by decide) (zr_41_18 n) ?_
        refine z_iload_n C dX10_deed_172 rfl ?_
        refine z_iald C dX10_deed_173 zk_56 (by decide) ?_ ?_
        · exact vp_in_nI (by omega) (by decide)
        refine z_iast C dX10_deed_174 zk_75 (by decide) ?_ ?_
        · exact vp_in_iff.mpr (by decide)
        refine z_aload_n C dX10_deed_175 rfl ?_
        refine zs_getR C dX10_deed_176 zf_X10_116 zk_41 (by decide) (zr_41_52 n) ?_
        refine z_bipush (v := 9) C dX10_deed_179 (by decide) ?_
        refine z_aload_n C dX10_deed_181 rfl ?_
        refine zs_getR C dX10_deed_182 zf_X10_68 zk_41 (by decide) (zr_41_22 n) ?_
        refine z_iload_n C dX10_deed_185 rfl ?_
        refine z_iald C dX10_deed_186 zk_60 (by decide) ?_ ?_
        · exact vp_in_nI (by omega) (by decide)
        refine z_iast C dX10_deed_187 zk_75 (by decide) ?_ ?_
        · exact vp_in_iff.mpr (by decide)
        refine z_iconst (v := 0) C dX10_deed_188 (by decide) ?_
        refine z_istore (lv' := [some (.ref 41), some (.int _), some (.int _), some (.int _), some (.int _)]) C dX10_deed_189 (by decide) rfl ?_
        simp only [nI_clamp (show i < 2 ^ 31 by omega)]
        refine z_eqv (iv1 := zmlook iv i t) ?_ ?_
        · unfold zmlook zmfr
          rw [if_neg q93, if_neg q114, if_neg (by omega)]
          rfl
        · exact lm_deed n iv lw i hi t ht ht2 tl fa hG ht57 _ (zC_le (by decide) C) E tl 0 _ (by omega) (fun _ _ => rfl) rfl
      · refine z_iconst (v := (-1)) C dX10_deed_133 (by decide) ?_
        refine z_goto (tgt := 143) C dX10_deed_134 (by decide) ?_
        refine z_iast C dX10_deed_143 zk_75 (by decide) ?_ ?_
        · exact vp_in_iff.mpr (by decide)
        refine z_aload_n C dX10_deed_144 rfl ?_
        refine zs_getR C dX10_deed_145 zf_X10_116 zk_41 (by decide) (zr_41_52 n) ?_
        refine z_bipush (v := 7) C dX10_deed_148 (by decide) ?_
        refine z_aload_n C dX10_deed_150 rfl ?_
        refine zs_getR C dX10_deed_151 zf_X10_29 zk_41 (by decide) (zr_41_8 n) ?_
        refine z_aload_n C dX10_deed_154 rfl ?_
        refine zs_getR C dX10_deed_155 zf_X10_59 zk_41 (by decide) (zr_41_19 n) ?_
        refine z_iload_n C dX10_deed_158 rfl ?_
        refine z_iald C dX10_deed_159 zk_57 (by decide) ?_ ?_
        · exact vp_in_nI (by omega) (by decide)
        refine z_iald C dX10_deed_160 zk_47 (by decide) ?_ ?_
        · rw [nI_clamp (by omega)]
          exact ht57
        refine z_iast C dX10_deed_161 zk_75 (by decide) ?_ ?_
        · exact vp_in_iff.mpr (by decide)
        refine z_aload_n C dX10_deed_162 rfl ?_
        refine zs_getR C dX10_deed_163 zf_X10_116 zk_41 (by decide) (zr_41_52 n) ?_
        refine z_bipush (v := 8) C dX10_deed_166 (by decide) ?_
        refine z_aload_n C dX10_deed_168 rfl ?_
        refine zs_getR C dX10_deed_169 zf_X10_56 zk_41 (by decide) (zr_41_18 n) ?_
        refine z_iload_n C dX10_deed_172 rfl ?_
        refine z_iald C dX10_deed_173 zk_56 (by decide) ?_ ?_
        · exact vp_in_nI (by omega) (by decide)
        refine z_iast C dX10_deed_174 zk_75 (by decide) ?_ ?_
        · exact vp_in_iff.mpr (by decide)
        refine z_aload_n C dX10_deed_175 rfl ?_
        refine zs_getR C dX10_deed_176 zf_X10_116 zk_41 (by decide) (zr_41_52 n) ?_
        refine z_bipush (v := 9) C dX10_deed_179 (by decide) ?_
        refine z_aload_n C dX10_deed_181 rfl ?_
        refine zs_getR C dX10_deed_182 zf_X10_68 zk_41 (by decide) (zr_41_22 n) ?_
        refine z_iload_n C dX10_deed_185 rfl ?_
        refine z_iald C dX10_deed_186 zk_60 (by decide) ?_ ?_
        · exact vp_in_nI (by omega) (by decide)
        refine z_iast C dX10_deed_187 zk_75 (by decide) ?_ ?_
        · exact vp_in_iff.mpr (by decide)
        refine z_iconst (v := 0) C dX10_deed_188 (by decide) ?_
        refine z_istore (lv' := [some (.ref 41), some (.int _), some (.int _), some (.int _), some (.int _)]) C dX10_deed_189 (by decide) rfl ?_
        simp only [nI_clamp (show i < 2 ^ 31 by omega)]
        refine z_eqv (iv1 := zmlook iv i t) ?_ ?_
        · unfold zmlook zmfr
          rw [if_neg q93, if_neg q114, if_pos (by omega)]
          rfl
        · exact lm_deed n iv lw i hi t ht ht2 tl fa hG ht57 _ (zC_le (by decide) C) E tl 0 _ (by omega) (fun _ _ => rfl) rfl
    · simp only [nI_clamp (show i < 2 ^ 31 by omega)] at q114
      have q114 : iv 50 i = 2 := q114
      refine z_iconst (v := 1) C dX10_deed_117 (by decide) ?_
      refine z_goto (tgt := 122) C dX10_deed_118 (by decide) ?_
      refine z_iast C dX10_deed_122 zk_75 (by decide) ?_ ?_
      · exact vp_in_iff.mpr (by decide)
      refine z_aload_n C dX10_deed_123 rfl ?_
      refine zs_getR C dX10_deed_124 zf_X10_116 zk_41 (by decide) (zr_41_52 n) ?_
      refine z_bipush (v := 6) C dX10_deed_127 (by decide) ?_
      refine z_iload_n C dX10_deed_129 rfl ?_
      refine zt_if_ge (tgt := 137) C dX10_deed_130 rfl (by decide) (fun q130 => ?_) (fun q130 => ?_)
      · refine z_aload_n C dX10_deed_137 rfl ?_
        refine zs_getR C dX10_deed_138 zf_X10_29 zk_41 (by decide) (zr_41_8 n) ?_
        refine z_iload_n C dX10_deed_141 rfl ?_
        refine z_iald C dX10_deed_142 zk_47 (by decide) ?_ ?_
        · exact vp_in_iff.mpr (by have := zmbest_in ht2 (show ¬ (zmbest iv i t).toInt < 0 by omega); omega)
        refine z_iast C dX10_deed_143 zk_75 (by decide) ?_ ?_
        · exact vp_in_iff.mpr (by decide)
        refine z_aload_n C dX10_deed_144 rfl ?_
        refine zs_getR C dX10_deed_145 zf_X10_116 zk_41 (by decide) (zr_41_52 n) ?_
        refine z_bipush (v := 7) C dX10_deed_148 (by decide) ?_
        refine z_aload_n C dX10_deed_150 rfl ?_
        refine zs_getR C dX10_deed_151 zf_X10_29 zk_41 (by decide) (zr_41_8 n) ?_
        refine z_aload_n C dX10_deed_154 rfl ?_
        refine zs_getR C dX10_deed_155 zf_X10_59 zk_41 (by decide) (zr_41_19 n) ?_
        refine z_iload_n C dX10_deed_158 rfl ?_
        refine z_iald C dX10_deed_159 zk_57 (by decide) ?_ ?_
        · exact vp_in_nI (by omega) (by decide)
        refine z_iald C dX10_deed_160 zk_47 (by decide) ?_ ?_
        · rw [nI_clamp (by omega)]
          exact ht57
        refine z_iast C dX10_deed_161 zk_75 (by decide) ?_ ?_
        · exact vp_in_iff.mpr (by decide)
        refine z_aload_n C dX10_deed_162 rfl ?_
        refine zs_getR C dX10_deed_163 zf_X10_116 zk_41 (by decide) (zr_41_52 n) ?_
        refine z_bipush (v := 8) C dX10_deed_166 (by decide) ?_
        refine z_aload_n C dX10_deed_168 rfl ?_
        refine zs_getR C dX10_deed_169 zf_X10_56 zk_41 (by decide) (zr_41_18 n) ?_
        refine z_iload_n C dX10_deed_172 rfl ?_
        refine z_iald C dX10_deed_173 zk_56 (by decide) ?_ ?_
        · exact vp_in_nI (by omega) (by decide)
        refine z_iast C dX10_deed_174 zk_75 (by decide) ?_ ?_
        · exact vp_in_iff.mpr (by decide)
        refine z_aload_n C dX10_deed_175 rfl ?_
        refine zs_getR C dX10_deed_176 zf_X10_116 zk_41 (by decide) (zr_41_52 n) ?_
        refine z_bipush (v := 9) C dX10_deed_179 (by decide) ?_
        refine z_aload_n C dX10_deed_181 rfl ?_
        refine zs_getR C dX10_deed_182 zf_X10_68 zk_41 (by decide) (zr_41_22 n) ?_
        refine z_iload_n C dX10_deed_185 rfl ?_
        refine z_iald C dX10_deed_186 zk_60 (by decide) ?_ ?_
        · exact vp_in_nI (by omega) (by decide)
        refine z_iast C dX10_deed_187 zk_75 (by decide) ?_ ?_
        · exact vp_in_iff.mpr (by decide)
        refine z_iconst (v := 0) C dX10_deed_188 (by decide) ?_
        refine z_istore (lv' := [some (.ref 41), some (.int _), some (.int _), some (.int _), some (.int _)]) C dX10_deed_189 (by decide) rfl ?_
        simp only [nI_clamp (show i < 2 ^ 31 by omega)]
        refine z_eqv (iv1 := zmlook iv i t) ?_ ?_
        · unfold zmlook zmfr
          rw [if_neg q93, if_pos q114, if_neg (by omega)]
          rfl
        · exact lm_deed n iv lw i hi t ht ht2 tl fa hG ht57 _ (zC_le (by decide) C) E tl 0 _ (by omega) (fun _ _ => rfl) rfl
      · refine z_iconst (v := (-1)) C dX10_deed_133 (by decide) ?_
        refine z_goto (tgt := 143) C dX10_deed_134 (by decide) ?_
        refine z_iast C dX10_deed_143 zk_75 (by decide) ?_ ?_
        · exact vp_in_iff.mpr (by decide)
        refine z_aload_n C dX10_deed_144 rfl ?_
        refine zs_getR C dX10_deed_145 zf_X10_116 zk_41 (by decide) (zr_41_52 n) ?_
        refine z_bipush (v := 7) C dX10_deed_148 (by decide) ?_
        refine z_aload_n C dX10_deed_150 rfl ?_
        refine zs_getR C dX10_deed_151 zf_X10_29 zk_41 (by decide) (zr_41_8 n) ?_
        refine z_aload_n C dX10_deed_154 rfl ?_
        refine zs_getR C dX10_deed_155 zf_X10_59 zk_41 (by decide) (zr_41_19 n) ?_
        refine z_iload_n C dX10_deed_158 rfl ?_
        refine z_iald C dX10_deed_159 zk_57 (by decide) ?_ ?_
        · exact vp_in_nI (by omega) (by decide)
        refine z_iald C dX10_deed_160 zk_47 (by decide) ?_ ?_
        · rw [nI_clamp (by omega)]
          exact ht57
        refine z_iast C dX10_deed_161 zk_75 (by decide) ?_ ?_
        · exact vp_in_iff.mpr (by decide)
        refine z_aload_n C dX10_deed_162 rfl ?_
        refine zs_getR C dX10_deed_163 zf_X10_116 zk_41 (by decide) (zr_41_52 n) ?_
        refine z_bipush (v := 8) C dX10_deed_166 (by decide) ?_
        refine z_aload_n C dX10_deed_168 rfl ?_
        refine zs_getR C dX10_deed_169 zf_X10_56 zk_41 (by decide) (zr_41_18 n) ?_
        refine z_iload_n C dX10_deed_172 rfl ?_
        refine z_iald C dX10_deed_173 zk_56 (by decide) ?_ ?_
        · exact vp_in_nI (by omega) (by decide)
        refine z_iast C dX10_deed_174 zk_75 (by decide) ?_ ?_
        · exact vp_in_iff.mpr (by decide)
        refine z_aload_n C dX10_deed_175 rfl ?_
        refine zs_getR C dX10_deed_176 zf_X10_116 zk_41 (by decide) (zr_41_52 n) ?_
        refine z_bipush (v := 9) C dX10_deed_179 (by decide) ?_
        refine z_aload_n C dX10_deed_181 rfl ?_
        refine zs_getR C dX10_deed_182 zf_X10_68 zk_41 (by decide) (zr_41_22 n) ?_
        refine z_iload_n C dX10_deed_185 rfl ?_
        refine z_iald C dX10_deed_186 zk_60 (by decide) ?_ ?_
        · exact vp_in_nI (by omega) (by decide)
        refine z_iast C dX10_deed_187 zk_75 (by decide) ?_ ?_
        · exact vp_in_iff.mpr (by decide)
        refine z_iconst (v := 0) C dX10_deed_188 (by decide) ?_
        refine z_istore (lv' := [some (.ref 41), some (.int _), some (.int _), some (.int _), some (.int _)]) C dX10_deed_189 (by decide) rfl ?_
        simp only [nI_clamp (show i < 2 ^ 31 by omega)]
        refine z_eqv (iv1 := zmlook iv i t) ?_ ?_
        · unfold zmlook zmfr
          rw [if_neg q93, if_pos q114, if_pos (by omega)]
          rfl
        · exact lm_deed n iv lw i hi t ht ht2 tl fa hG ht57 _ (zC_le (by decide) C) E tl 0 _ (by omega) (fun _ _ => rfl) rfl
  · simp only [nI_clamp (show i < 2 ^ 31 by omega)] at q93
    have q93 : iv 50 i = 1 := q93
    refine z_iconst (v := 1) C dX10_deed_96 (by decide) ?_
    refine z_goto (tgt := 101) C dX10_deed_97 (by decide) ?_
    refine z_iast C dX10_deed_101 zk_75 (by decide) ?_ ?_
    · exact vp_in_iff.mpr (by decide)
    refine z_aload_n C dX10_deed_102 rfl ?_
    refine zs_getR C dX10_deed_103 zf_X10_116 zk_41 (by decide) (zr_41_52 n) ?_
    refine z_iconst (v := 5) C dX10_deed_106 (by decide) ?_
    refine z_aload_n C dX10_deed_107 rfl ?_
    refine zs_getR C dX10_deed_108 zf_X10_38 zk_41 (by decide) (zr_41_12 n) ?_
    refine z_iload_n C dX10_deed_111 rfl ?_
    refine z_iald C dX10_deed_112 zk_50 (by decide) ?_ ?_
    · exact vp_in_nI (by omega) (by decide)
    refine z_iconst (v := 2) C dX10_deed_113 (by decide) ?_
    refine z_icmp_ne (tgt := 121) C dX10_deed_114 (by decide) (fun q114 => ?_) (fun q114 => ?_)
    · simp only [nI_clamp (show i < 2 ^ 31 by omega)] at q114
      have q114 : ¬ iv 50 i = 2 := q114
      refine z_iconst (v := 0) C dX10_deed_121 (by decide) ?_
      refine z_iast C dX10_deed_122 zk_75 (by decide) ?_ ?_
      · exact vp_in_iff.mpr (by decide)
      refine z_aload_n C dX10_deed_123 rfl ?_
      refine zs_getR C dX10_deed_124 zf_X10_116 zk_41 (by decide) (zr_41_52 n) ?_
      refine z_bipush (v := 6) C dX10_deed_127 (by decide) ?_
      refine z_iload_n C dX10_deed_129 rfl ?_
      refine zt_if_ge (tgt := 137) C dX10_deed_130 rfl (by decide) (fun q130 => ?_) (fun q130 => ?_)
      · refine z_aload_n C dX10_deed_137 rfl ?_
        refine zs_getR C dX10_deed_138 zf_X10_29 zk_41 (by decide) (zr_41_8 n) ?_
        refine z_iload_n C dX10_deed_141 rfl ?_
        refine z_iald C dX10_deed_142 zk_47 (by decide) ?_ ?_
        · exact vp_in_iff.mpr (by have := zmbest_in ht2 (show ¬ (zmbest iv i t).toInt < 0 by omega); omega)
        refine z_iast C dX10_deed_143 zk_75 (by decide) ?_ ?_
        · exact vp_in_iff.mpr (by decide)
        refine z_aload_n C dX10_deed_144 rfl ?_
        refine zs_getR C dX10_deed_145 zf_X10_116 zk_41 (by decide) (zr_41_52 n) ?_
        refine z_bipush (v := 7) C dX10_deed_148 (by decide) ?_
        refine z_aload_n C dX10_deed_150 rfl ?_
        refine zs_getR C dX10_deed_151 zf_X10_29 zk_41 (by decide) (zr_41_8 n) ?_
        refine z_aload_n C dX10_deed_154 rfl ?_
        refine zs_getR C dX10_deed_155 zf_X10_59 zk_41 (by decide) (zr_41_19 n) ?_
        refine z_iload_n C dX10_deed_158 rfl ?_
        refine z_iald C dX10_deed_159 zk_57 (by decide) ?_ ?_
        · exact vp_in_nI (by omega) (by decide)
        refine z_iald C dX10_deed_160 zk_47 (by decide) ?_ ?_
        · rw [nI_clamp (by omega)]
          exact ht57
        refine z_iast C dX10_deed_161 zk_75 (by decide) ?_ ?_
        · exact vp_in_iff.mpr (by decide)
        refine z_aload_n C dX10_deed_162 rfl ?_
        refine zs_getR C dX10_deed_163 zf_X10_116 zk_41 (by decide) (zr_41_52 n) ?_
        refine z_bipush (v := 8) C dX10_deed_166 (by decide) ?_
        refine z_aload_n C dX10_deed_168 rfl ?_
        refine zs_getR C dX10_deed_169 zf_X10_56 zk_41 (by decide) (zr_41_18 n) ?_
        refine z_iload_n C dX10_deed_172 rfl ?_
        refine z_iald C dX10_deed_173 zk_56 (by decide) ?_ ?_
        · exact vp_in_nI (by omega) (by decide)
        refine z_iast C dX10_deed_174 zk_75 (by decide) ?_ ?_
        · exact vp_in_iff.mpr (by decide)
        refine z_aload_n C dX10_deed_175 rfl ?_
        refine zs_getR C dX10_deed_176 zf_X10_116 zk_41 (by decide) (zr_41_52 n) ?_
        refine z_bipush (v := 9) C dX10_deed_179 (by decide) ?_
        refine z_aload_n C dX10_deed_181 rfl ?_
        refine zs_getR C dX10_deed_182 zf_X10_68 zk_41 (by decide) (zr_41_22 n) ?_
        refine z_iload_n C dX10_deed_185 rfl ?_
        refine z_iald C dX10_deed_186 zk_60 (by decide) ?_ ?_
        · exact vp_in_nI (by omega) (by decide)
        refine z_iast C dX10_deed_187 zk_75 (by decide) ?_ ?_
        · exact vp_in_iff.mpr (by decide)
        refine z_iconst (v := 0) C dX10_deed_188 (by decide) ?_
        refine z_istore (lv' := [some (.ref 41), some (.int _), some (.int _), some (.int _), some (.int _)]) C dX10_deed_189 (by decide) rfl ?_
        simp only [nI_clamp (show i < 2 ^ 31 by omega)]
        refine z_eqv (iv1 := zmlook iv i t) ?_ ?_
        · unfold zmlook zmfr
          rw [if_pos q93, if_neg q114, if_neg (by omega)]
          rfl
        · exact lm_deed n iv lw i hi t ht ht2 tl fa hG ht57 _ (zC_le (by decide) C) E tl 0 _ (by omega) (fun _ _ => rfl) rfl
      · refine z_iconst (v := (-1)) C dX10_deed_133 (by decide) ?_
        refine z_goto (tgt := 143) C dX10_deed_134 (by decide) ?_
        refine z_iast C dX10_deed_143 zk_75 (by decide) ?_ ?_
        · exact vp_in_iff.mpr (by decide)
        refine z_aload_n C dX10_deed_144 rfl ?_
        refine zs_getR C dX10_deed_145 zf_X10_116 zk_41 (by decide) (zr_41_52 n) ?_
        refine z_bipush (v := 7) C dX10_deed_148 (by decide) ?_
        refine z_aload_n C dX10_deed_150 rfl ?_
        refine zs_getR C dX10_deed_151 zf_X10_29 zk_41 (by decide) (zr_41_8 n) ?_
        refine z_aload_n C dX10_deed_154 rfl ?_
        refine zs_getR C dX10_deed_155 zf_X10_59 zk_41 (by decide) (zr_41_19 n) ?_
        refine z_iload_n C dX10_deed_158 rfl ?_
        refine z_iald C dX10_deed_159 zk_57 (by decide) ?_ ?_
        · exact vp_in_nI (by omega) (by decide)
        refine z_iald C dX10_deed_160 zk_47 (by decide) ?_ ?_
        · rw [nI_clamp (by omega)]
          exact ht57
        refine z_iast C dX10_deed_161 zk_75 (by decide) ?_ ?_
        · exact vp_in_iff.mpr (by decide)
        refine z_aload_n C dX10_deed_162 rfl ?_
        refine zs_getR C dX10_deed_163 zf_X10_116 zk_41 (by decide) (zr_41_52 n) ?_
        refine z_bipush (v := 8) C dX10_deed_166 (by decide) ?_
        refine z_aload_n C dX10_deed_168 rfl ?_
        refine zs_getR C dX10_deed_169 zf_X10_56 zk_41 (by decide) (zr_41_18 n) ?_
        refine z_iload_n C dX10_deed_172 rfl ?_
        refine z_iald C dX10_deed_173 zk_56 (by decide) ?_ ?_
        · exact vp_in_nI (by omega) (by decide)
        refine z_iast C dX10_deed_174 zk_75 (by decide) ?_ ?_
        · exact vp_in_iff.mpr (by decide)
        refine z_aload_n C dX10_deed_175 rfl ?_
        refine zs_getR C dX10_deed_176 zf_X10_116 zk_41 (by decide) (zr_41_52 n) ?_
        refine z_bipush (v := 9) C dX10_deed_179 (by decide) ?_
        refine z_aload_n C dX10_deed_181 rfl ?_
        refine zs_getR C dX10_deed_182 zf_X10_68 zk_41 (by decide) (zr_41_22 n) ?_
        refine z_iload_n C dX10_deed_185 rfl ?_
        refine z_iald C dX10_deed_186 zk_60 (by decide) ?_ ?_
        · exact vp_in_nI (by omega) (by decide)
        refine z_iast C dX10_deed_187 zk_75 (by decide) ?_ ?_
        · exact vp_in_iff.mpr (by decide)
        refine z_iconst (v := 0) C dX10_deed_188 (by decide) ?_
        refine z_istore (lv' := [some (.ref 41), some (.int _), some (.int _), some (.int _), some (.int _)]) C dX10_deed_189 (by decide) rfl ?_
        simp only [nI_clamp (show i < 2 ^ 31 by omega)]
        refine z_eqv (iv1 := zmlook iv i t) ?_ ?_
        · unfold zmlook zmfr
          rw [if_pos q93, if_neg q114, if_pos (by omega)]
          rfl
        · exact lm_deed n iv lw i hi t ht ht2 tl fa hG ht57 _ (zC_le (by decide) C) E tl 0 _ (by omega) (fun _ _ => rfl) rfl
    · simp only [nI_clamp (show i < 2 ^ 31 by omega)] at q114
      have q114 : iv 50 i = 2 := q114
      exact absurd ((show iv 50 i = 1 from q93).symm.trans (show iv 50 i = 2 from q114)) (by decide)

def zmunh (iv : zI) (i : Nat) : zI := zu (zu (zu iv 48 (iv 57 i).toNatClampNeg (iv 56 i)) 49 (iv 57 i).toNatClampNeg (-1)) 57 i (-1)
def zmchg (iv : zI) (i : Nat) (be : Int32) : zI := zu (zmharn (zmunh iv i) i be) 63 (5 * i + 4) (iv 63 (5 * i + 4) + 2)
/-- what the reference's held coach does -/
def zmobf (iv : zI) (i : Nat) (be od : Int32) : zI := if od = 0 ∨ (od = 2 ∧ be.toInt < 0) then zu iv 60 i (iv 60 i + 1) else if od = 2 then zu (zmlv (zmchg iv i be) i (iv 41 0 + 2)) 55 i 3 else if od = 1 then zu (zu (zmlv iv i (iv 41 0)) 55 i 1) 60 i 0 else zu (zmlv iv i (iv 41 0)) 55 i 1
def zmsc (u v : zI) : Prop := ∀ q, q ≠ 74 → q ≠ 75 → u q = v q

set_option maxHeartbeats 2000000 in
set_option maxRecDepth 4000 in
theorem m_held (n : Nat) (iv : zI) (lw : zG) (i : Nat) (hi : i < 8) (t : Nat) (ht : iv 41 7 = nI t) (ht2 : t ≤ 20) (tl : Nat) (fa : Nat → Nat) (hG : zmGI tl fa iv) (ht57 : vp_in (iv 57 i) 20) (hs : vp_in (zmsg iv i) 8) (hon : zmon iv i (iv 56 i)) : zMs yX10_held cX10_held 4 none 4 [.ref 41, .int (nI i)] n iv lw (fun v iv2 lw2 => v = none ∧ lw2 = lw ∧ ∃ iv1, zmsc iv1 iv ∧ iv2 = zmobf iv1 i (zmbest iv i t) (zmord iv i t tl fa)) := by
  refine zM.of (by decide) (Nat.le_of_ble_eq_true rfl) (fun X C E => ?_)
  change zJs X n 4 0 [some (.ref 41), some (.int (nI i)), none, none] [] iv lw
  refine z_aload_n C dX10_held_0 rfl ?_
  refine z_iload_n C dX10_held_1 rfl ?_
  refine zs_callVq C dX10_held_2 zm_X10_366 zyX10_deed (m_deed _ _ _ i hi t ht ht2 tl fa hG ht57 hs hon) zc_10 rfl zk_41 (by decide) (by decide) rfl rfl (Nat.le_of_ble_eq_true rfl) (by decide) (by decide) (fun v2 iv2 lw2 hq2 => ?_)
  obtain ⟨rfl, rfl, hb2⟩ := hq2
  have ho : zmsc iv2 iv := fun q h1 h2 => by
    rw [hb2 q h1]
    unfold zmlook
    simp only [zu_n _ _ _ h2]
  have o41 : iv2 41 = iv 41 := ho 41 (by decide) (by decide)
  have o57 : iv2 57 = iv 57 := ho 57 (by decide) (by decide)
  have osg : zmsg iv2 i = zmsg iv i := by unfold zmsg; rw [ho 52 (by decide) (by decide), ho 53 (by decide) (by decide), ho 56 (by decide) (by decide)]
  have obe : zmst (iv2 48) (iv2 47) (iv2 56 i) t = zmbest iv i t := by unfold zmbest; rw [ho 48 (by decide) (by decide), ho 47 (by decide) (by decide), ho 56 (by decide) (by decide)]
  refine z_istore_n (lv' := [some (.ref 41), some (.int _), some (.int _), none]) C dX10_held_5 (by decide) rfl ?_
  refine z_iload_n C dX10_held_6 rfl ?_
  refine z_iconst (v := 2) C dX10_held_7 (by decide) ?_
  refine z_icmp_ne (tgt := 24) C dX10_held_8 (by decide) (fun q8 => ?_) (fun q8 => ?_)
  · refine z_iconst (v := (-1)) C dX10_held_24 (by decide) ?_
    refine z_istore_n (lv' := [some (.ref 41), some (.int _), some (.int _), some (.int _)]) C dX10_held_25 (by decide) rfl ?_
    refine z_iload_n C dX10_held_26 rfl ?_
    refine z_if_eq (tgt := 39) C dX10_held_27 (by decide) (fun q27 => ?_) (fun q27 => ?_)
    · refine z_aload_n C dX10_held_39 rfl ?_
      refine zs_getR C dX10_held_40 zf_X10_68 zk_41 (by decide) (zr_41_22 n) ?_
      refine z_iload_n C dX10_held_43 rfl ?_
      refine z_dup2 C dX10_held_44 rfl rfl ?_
      refine z_iald C dX10_held_45 zk_60 (by decide) ?_ ?_
      · exact vp_in_nI (by omega) (by decide)
      refine z_iconst (v := 1) C dX10_held_46 (by decide) ?_
      refine z_iadd C dX10_held_47 ?_
      refine z_iast C dX10_held_48 zk_60 (by decide) ?_ ?_
      · exact vp_in_nI (by omega) (by decide)
      refine zs_qvret C E dX10_held_49 ?_
      refine ⟨rfl, rfl, iv2, ho, ?_⟩
      rw [nI_clamp (by omega)]
      unfold zmobf
      rw [if_pos (Or.inl q27)]
    · refine z_iload_n C dX10_held_30 rfl ?_
      refine z_iconst (v := 2) C dX10_held_31 (by decide) ?_
      refine z_icmp_ne (tgt := 50) C dX10_held_32 (by decide) (fun q32 => ?_) (fun q32 => ?_)
      · refine z_iload_n C dX10_held_50 rfl ?_
        refine z_iconst (v := 2) C dX10_held_51 (by decide) ?_
        refine z_icmp_ne (tgt := 80) C dX10_held_52 (by decide) (fun q52 => ?_) (fun q52 => ?_)
        · skip
          refine z_aload_n C dX10_held_80 rfl ?_
          refine z_iload_n C dX10_held_81 rfl ?_
          refine z_iload_n C dX10_held_82 rfl ?_
          refine z_iconst (v := 2) C dX10_held_83 (by decide) ?_
          refine z_icmp_ne (tgt := 96) C dX10_held_84 (by decide) (fun q84 => ?_) (fun q84 => ?_)
          · refine z_aload_n C dX10_held_96 rfl ?_
            refine z_getI C dX10_held_97 zf_X10_187 zk_41 (by decide) ?_
            refine zs_callVv C dX10_held_100 zm_X10_360 zyX10_leave (m_leave n iv2 _ i hi _ (by rw [osg]; exact hs) (by rw [o57]; exact ht57)) zc_10 rfl zk_41 (by decide) (by decide) rfl rfl (Nat.le_of_ble_eq_true rfl) (by decide) (by decide) ?_
            refine z_aload_n C dX10_held_103 rfl ?_
            refine zs_getR C dX10_held_104 zf_X10_53 zk_41 (by decide) (zr_41_17 n) ?_
            refine z_iload_n C dX10_held_107 rfl ?_
            refine z_iload_n C dX10_held_108 rfl ?_
            refine z_iconst (v := 2) C dX10_held_109 (by decide) ?_
            refine z_icmp_ne (tgt := 117) C dX10_held_110 (by decide) (fun q110 => ?_) (fun q110 => ?_)
            · refine z_iconst (v := 1) C dX10_held_117 (by decide) ?_
              refine z_iast C dX10_held_118 zk_55 (by decide) ?_ ?_
              · exact vp_in_nI (by omega) (by decide)
              refine z_iload_n C dX10_held_119 rfl ?_
              refine z_iconst (v := 1) C dX10_held_120 (by decide) ?_
              refine z_icmp_ne (tgt := 131) C dX10_held_121 (by decide) (fun q121 => ?_) (fun q121 => ?_)
              · refine zs_qvret C E dX10_held_131 ?_
                refine ⟨rfl, rfl, iv2, ho, ?_⟩
                simp only [nI_clamp (show i < 2 ^ 31 by omega)]
                unfold zmobf
                rw [if_neg (fun z => by
                  rcases z with z | z
                  · exact q27 z
                  · exact q32 z.1), if_neg q52, if_neg q121]
                try rfl
              · refine z_aload_n C dX10_held_124 rfl ?_
                refine zs_getR C dX10_held_125 zf_X10_68 zk_41 (by decide) (zr_41_22 n) ?_
                refine z_iload_n C dX10_held_128 rfl ?_
                refine z_iconst (v := 0) C dX10_held_129 (by decide) ?_
                refine z_iast C dX10_held_130 zk_60 (by decide) ?_ ?_
                · exact vp_in_nI (by omega) (by decide)
                refine zs_qvret C E dX10_held_131 ?_
                refine ⟨rfl, rfl, iv2, ho, ?_⟩
                simp only [nI_clamp (show i < 2 ^ 31 by omega)]
                unfold zmobf
                rw [if_neg (fun z => by
                  rcases z with z | z
                  · exact q27 z
                  · exact q32 z.1), if_neg q52, if_pos q121]
                try rfl
            · exact absurd q110 q8
          · exact absurd q84 q8
        · exact absurd q52 q8
      · exact absurd q32 q8
  · refine z_aload_n C dX10_held_11 rfl ?_
    refine z_aload_n C dX10_held_12 rfl ?_
    refine zs_getR C dX10_held_13 zf_X10_56 zk_41 (by decide) (zr_41_18 n) ?_
    refine z_iload_n C dX10_held_16 rfl ?_
    refine z_iald C dX10_held_17 zk_56 (by decide) ?_ ?_
    · exact vp_in_nI (by omega) (by decide)
    refine zs_callVi C dX10_held_18 zm_X10_351 zyX10_strongest (m_strongest n iv2 _ _ t (by rw [o41]; exact ht) ht2) zc_10 rfl zk_41 (by decide) (by decide) rfl rfl (Nat.le_of_ble_eq_true rfl) (by decide) (by decide) ?_
    rw [nI_clamp (by omega), obe]
    refine z_goto (tgt := 25) C dX10_held_21 (by decide) ?_
    refine z_istore_n (lv' := [some (.ref 41), some (.int _), some (.int _), some (.int _)]) C dX10_held_25 (by decide) rfl ?_
    refine z_iload_n C dX10_held_26 rfl ?_
    refine z_if_eq (tgt := 39) C dX10_held_27 (by decide) (fun q27 => ?_) (fun q27 => ?_)
    · exact absurd (q8.symm.trans q27) (by decide)
    · refine z_iload_n C dX10_held_30 rfl ?_
      refine z_iconst (v := 2) C dX10_held_31 (by decide) ?_
      refine z_icmp_ne (tgt := 50) C dX10_held_32 (by decide) (fun q32 => ?_) (fun q32 => ?_)
      · exact absurd q8 q32
      · refine z_iload_n C dX10_held_35 rfl ?_
        refine zt_if_ge (tgt := 50) C dX10_held_36 rfl (by decide) (fun q36 => ?_) (fun q36 => ?_)
        · have hb0 : ¬ (zmbest iv i t).toInt < 0 := by omega
          refine z_iload_n C dX10_held_50 rfl ?_
          refine z_iconst (v := 2) C dX10_held_51 (by decide) ?_
          refine z_icmp_ne (tgt := 80) C dX10_held_52 (by decide) (fun q52 => ?_) (fun q52 => ?_)
          · exact absurd q8 q52
          · refine z_aload_n C dX10_held_55 rfl ?_
            refine z_iload_n C dX10_held_56 rfl ?_
            refine zs_callVv C dX10_held_57 zm_X10_363 zyX10_unharness (m_unharness n iv2 _ i hi (by rw [o57]; exact ht57)) zc_10 rfl zk_41 (by decide) (by decide) rfl rfl (Nat.le_of_ble_eq_true rfl) (by decide) (by decide) ?_
            show zJs X n 4 60 _ [] (zmunh iv2 i) _
            refine z_aload_n C dX10_held_60 rfl ?_
            refine z_iload_n C dX10_held_61 rfl ?_
            refine z_iload_n C dX10_held_62 rfl ?_
            refine zs_callVv C dX10_held_63 zm_X10_357 zyX10_harness (m_harness n (zmunh iv2 i) _ i hi _ (vp_in_iff.mpr (by have := zmbest_in ht2 hb0; omega))) zc_10 rfl zk_41 (by decide) (by decide) rfl rfl (Nat.le_of_ble_eq_true rfl) (by decide) (by decide) ?_
            refine z_aload_n C dX10_held_66 rfl ?_
            refine zs_getR C dX10_held_67 zf_X10_77 zk_41 (by decide) (zr_41_25 n) ?_
            refine z_iconst (v := 5) C dX10_held_70 (by decide) ?_
            refine z_iload_n C dX10_held_71 rfl ?_
            refine z_imul C dX10_held_72 ?_
            refine z_iconst (v := 4) C dX10_held_73 (by decide) ?_
            refine z_iadd C dX10_held_74 ?_
            rw [z5_0 i, show nI (5 * i) + 4 = nI (5 * i + 4) from nI_add _ 4]
            refine z_dup2 C dX10_held_75 rfl rfl ?_
            refine z_iald C dX10_held_76 zk_63 (by decide) ?_ ?_
            · exact vp_in_nI (by omega) (by decide)
            refine z_iconst (v := 2) C dX10_held_77 (by decide) ?_
            refine z_iadd C dX10_held_78 ?_
            refine z_iast C dX10_held_79 zk_63 (by decide) ?_ ?_
            · exact vp_in_nI (by omega) (by decide)
            rw [nI_clamp (by omega)]
            refine z_eqv (iv1 := zmchg iv2 i (zmbest iv i t)) rfl ?_
            refine z_aload_n C dX10_held_80 rfl ?_
            refine z_iload_n C dX10_held_81 rfl ?_
            refine z_iload_n C dX10_held_82 rfl ?_
            refine z_iconst (v := 2) C dX10_held_83 (by decide) ?_
            refine z_icmp_ne (tgt := 96) C dX10_held_84 (by decide) (fun q84 => ?_) (fun q84 => ?_)
            · exact absurd q8 q84
            · refine z_aload_n C dX10_held_87 rfl ?_
              refine z_getI C dX10_held_88 zf_X10_187 zk_41 (by decide) ?_
              refine z_iconst (v := 2) C dX10_held_91 (by decide) ?_
              refine z_iadd C dX10_held_92 ?_
              refine z_goto (tgt := 100) C dX10_held_93 (by decide) ?_
              refine zs_callVv C dX10_held_100 zm_X10_360 zyX10_leave (m_leave n (zmchg iv2 i (zmbest iv i t)) _ i hi _ (by show vp_in (zmsg iv2 i) 8; rw [osg]; exact hs) (by show vp_in (zmharn (zmunh iv2 i) i (zmbest iv i t) 57 i) 20; rw [zmharn_57]; exact (vp_in_iff.mpr (by have := zmbest_in ht2 hb0; omega)))) zc_10 rfl zk_41 (by decide) (by decide) rfl rfl (Nat.le_of_ble_eq_true rfl) (by decide) (by decide) ?_
              refine z_aload_n C dX10_held_103 rfl ?_
              refine zs_getR C dX10_held_104 zf_X10_53 zk_41 (by decide) (zr_41_17 n) ?_
              refine z_iload_n C dX10_held_107 rfl ?_
              refine z_iload_n C dX10_held_108 rfl ?_
              refine z_iconst (v := 2) C dX10_held_109 (by decide) ?_
              refine z_icmp_ne (tgt := 117) C dX10_held_110 (by decide) (fun q110 => ?_) (fun q110 => ?_)
              · exact absurd q8 q110
              · refine z_iconst (v := 3) C dX10_held_113 (by decide) ?_
                refine z_goto (tgt := 118) C dX10_held_114 (by decide) ?_
                refine z_iast C dX10_held_118 zk_55 (by decide) ?_ ?_
                · exact vp_in_nI (by omega) (by decide)
                refine z_iload_n C dX10_held_119 rfl ?_
                refine z_iconst (v := 1) C dX10_held_120 (by decide) ?_
                refine z_icmp_ne (tgt := 131) C dX10_held_121 (by decide) (fun q121 => ?_) (fun q121 => ?_)
                · refine zs_qvret C E dX10_held_131 ?_
                  refine ⟨rfl, rfl, iv2, ho, ?_⟩
                  simp only [nI_clamp (show i < 2 ^ 31 by omega)]
                  unfold zmobf
                  rw [if_neg (fun z => by
                    rcases z with z | z
                    · exact q27 z
                    · omega), if_pos q52]
                  try rfl
                · exact absurd (q8.symm.trans q121) (by decide)
        · refine z_aload_n C dX10_held_39 rfl ?_
          refine zs_getR C dX10_held_40 zf_X10_68 zk_41 (by decide) (zr_41_22 n) ?_
          refine z_iload_n C dX10_held_43 rfl ?_
          refine z_dup2 C dX10_held_44 rfl rfl ?_
          refine z_iald C dX10_held_45 zk_60 (by decide) ?_ ?_
          · exact vp_in_nI (by omega) (by decide)
          refine z_iconst (v := 1) C dX10_held_46 (by decide) ?_
          refine z_iadd C dX10_held_47 ?_
          refine z_iast C dX10_held_48 zk_60 (by decide) ?_ ?_
          · exact vp_in_nI (by omega) (by decide)
          refine zs_qvret C E dX10_held_49 ?_
          refine ⟨rfl, rfl, iv2, ho, ?_⟩
          rw [nI_clamp (by omega)]
          unfold zmobf
          rw [if_pos (Or.inr ⟨q32, by omega⟩)]
