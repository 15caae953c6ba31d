def zmbest (iv : zI) (i t : Nat) : Int32 := zmst (iv 48) (iv 47) (iv 56 i) t
theorem zmbest_in {iv : zI} {i t : Nat} (ht : t ≤ 20) (h : ¬ (zmbest iv i t).toInt < 0) : 0 ≤ (zmbest iv i t).toInt ∧ (zmbest iv i t).toInt < t := by
  have := zmst_lt (iv 48) (iv 47) (iv 56 i) t (by omega)
  unfold zmbest at *
  omega
def zmharn (iv : zI) (i : Nat) (te : Int32) : zI := zu (zu (zu iv 57 i te) 48 te.toNatClampNeg (-1)) 49 te.toNatClampNeg (nI i)
theorem zmharn_57 (iv : zI) (i : Nat) (te : Int32) : zmharn iv i te 57 i = te := by
  show upd (iv 57) i te i = te
  exact pk_us
def zmset (iv : zI) (i t : Nat) : zI := if (zmbest iv i t).toInt < 0 then zu iv 60 i (iv 60 i + 1) else zu (zu (zmlv (zmharn iv i (zmbest iv i t)) i (iv 41 0)) 55 i 1) 60 i 0

set_option maxRecDepth 4000 in
theorem m_begin (n : Nat) (iv : zI) (lw : zG) (i : Nat) (hi : i < 8) (t : Nat) (ht : iv 41 7 = nI t) (ht2 : t ≤ 20) (hs : vp_in (zmsg iv i) 8) : zMv yX10_begin cX10_begin 3 none 3 [.ref 41, .int (nI i)] n iv lw (zmset iv i t) lw := by
  refine zM.of (by decide) (Nat.le_of_ble_eq_true rfl) (fun X C E => ?_)
  change zJs X n 3 0 [some (.ref 41), some (.int (nI i)), none] [] iv lw
  refine z_aload_n C dX10_begin_0 rfl ?_
  refine z_aload_n C dX10_begin_1 rfl ?_
  refine zs_getR C dX10_begin_2 zf_X10_56 zk_41 (by decide) (zr_41_18 n) ?_
  refine z_iload_n C dX10_begin_5 rfl ?_
  refine z_iald C dX10_begin_6 zk_56 (by decide) ?_ ?_
  · exact vp_in_nI (by omega) (by decide)
  refine zs_callVi C dX10_begin_7 zm_X10_351 zyX10_strongest (m_strongest _ _ _ _ t ht ht2) zc_10 rfl zk_41 (by decide) (by decide) rfl rfl (Nat.le_of_ble_eq_true rfl) (by decide) (by decide) ?_
  rw [nI_clamp (by omega)]
  show zJs X n 3 10 _ (.int (zmbest iv i t) :: []) iv lw
  refine z_istore_n (lv' := [some (.ref 41), some (.int _), some (.int _)]) C dX10_begin_10 (by decide) rfl ?_
  refine z_iload_n C dX10_begin_11 rfl ?_
  refine zt_if_ge (tgt := 26) C dX10_begin_12 rfl (by decide) (fun q12 => ?_) (fun q12 => ?_)
  · refine z_aload_n C dX10_begin_26 rfl ?_
    refine z_iload_n C dX10_begin_27 rfl ?_
    refine z_iload_n C dX10_begin_28 rfl ?_
    refine zs_callVv C dX10_begin_29 zm_X10_357 zyX10_harness (m_harness _ _ _ i hi _ (vp_in_iff.mpr (by have := zmbest_in ht2 (show ¬ (zmbest iv i t).toInt < 0 by omega); omega))) zc_10 rfl zk_41 (by decide) (by decide) rfl rfl (Nat.le_of_ble_eq_true rfl) (by decide) (by decide) ?_
    show zJs X n 3 32 _ [] (zmharn iv i (zmbest iv i t)) lw
    refine z_aload_n C dX10_begin_32 rfl ?_
    refine z_iload_n C dX10_begin_33 rfl ?_
    refine z_aload_n C dX10_begin_34 rfl ?_
    refine z_getI C dX10_begin_35 zf_X10_187 zk_41 (by decide) ?_
    refine zs_callVv C dX10_begin_38 zm_X10_360 zyX10_leave (m_leave n (zmharn iv i (zmbest iv i t)) _ i hi _ hs (by rw [zmharn_57]; exact vp_in_iff.mpr (by have := zmbest_in ht2 (show ¬ (zmbest iv i t).toInt < 0 by omega); omega))) zc_10 rfl zk_41 (by decide) (by decide) rfl rfl (Nat.le_of_ble_eq_true rfl) (by decide) (by decide) ?_
    refine z_aload_n C dX10_begin_41 rfl ?_
    refine zs_getR C dX10_begin_42 zf_X10_53 zk_41 (by decide) (zr_41_17 n) ?_
    refine z_iload_n C dX10_begin_45 rfl ?_
    refine z_iconst (v := 1) C dX10_begin_46 (by decide) ?_
    refine z_iast C dX10_begin_47 zk_55 (by decide) ?_ ?_
    · exact vp_in_nI (by omega) (by decide)
    refine z_aload_n C dX10_begin_48 rfl ?_
    refine zs_getR C dX10_begin_49 zf_X10_68 zk_41 (by decide) (zr_41_22 n) ?_
    refine z_iload_n C dX10_begin_52 rfl ?_
    refine z_iconst (v := 0) C dX10_begin_53 (by decide) ?_
    refine z_iast C dX10_begin_54 zk_60 (by decide) ?_ ?_
    · exact vp_in_nI (by omega) (by decide)
    refine zs_vret C E dX10_begin_55 ?_ rfl
    simp only [nI_clamp (show i < 2 ^ 31 by omega)]
    exact (if_neg (by omega)).symm
  · refine z_aload_n C dX10_begin_15 rfl ?_
    refine zs_getR C dX10_begin_16 zf_X10_68 zk_41 (by decide) (zr_41_22 n) ?_
    refine z_iload_n C dX10_begin_19 rfl ?_
    refine z_dup2 C dX10_begin_20 rfl rfl ?_
    refine z_iald C dX10_begin_21 zk_60 (by decide) ?_ ?_
    · exact vp_in_nI (by omega) (by decide)
    refine z_iconst (v := 1) C dX10_begin_22 (by decide) ?_
    refine z_iadd C dX10_begin_23 ?_
    refine z_iast C dX10_begin_24 zk_60 (by decide) ?_ ?_
    · exact vp_in_nI (by omega) (by decide)
    refine zs_vret C E dX10_begin_25 ?_ rfl
    simp only [nI_clamp (show i < 2 ^ 31 by omega)]
    exact (if_pos (by omega)).symm

def zma1 (iv : zI) (i : Nat) : zI := zu iv 56 i (iv 56 i + zstep (iv 52 i) (iv 53 i))
def zma2 (iv : zI) (i : Nat) : zI := zu (zma1 iv i) 61 i (iv 41 0 - zmtold iv i (iv 56 i + zstep (iv 52 i) (iv 53 i)).toNatClampNeg)
def zmcp (iv : zI) (i : Nat) : Nat → zI
  | 0 => iv
  | p + 1 => zu (zmcp iv i p) 62 (5 * i + p) (iv 63 (5 * i + p))
theorem zmcp_o (iv : zI) (i : Nat) {q : Nat} (h : q ≠ 62) : ∀ m, zmcp iv i m q = iv q
  | 0 => rfl
  | m + 1 => by rw [zmcp, zu_n _ _ _ h, zmcp_o iv i h m]
def zma4 (iv : zI) (i : Nat) : zI := zu (zu (zu (zmcp (zma2 iv i) i 5) 59 i (-1)) 58 i (-1)) 60 i 0
def zmarr (iv : zI) (i : Nat) : zI := if iv 56 i + zstep (iv 52 i) (iv 53 i) = iv 53 i then zu (zu (zu (zu (zma4 iv i) 55 i 4) 48 (iv 57 i).toNatClampNeg (iv 56 i + zstep (iv 52 i) (iv 53 i))) 49 (iv 57 i).toNatClampNeg (-1)) 57 i (-1) else zu (zma4 iv i) 55 i 2
theorem zma4_o (iv : zI) (i : Nat) {q : Nat} (h1 : q ≠ 56) (h2 : q ≠ 61) (h3 : q ≠ 62) (h4 : q ≠ 59) (h5 : q ≠ 58) (h6 : q ≠ 60) : zma4 iv i q = iv q := by
  unfold zma4
  rw [zu_n _ _ _ h6, zu_n _ _ _ h5, zu_n _ _ _ h4, zmcp_o _ _ h3]
  unfold zma2 zma1
  rw [zu_n _ _ _ h2, zu_n _ _ _ h1]
theorem zma4_56 (iv : zI) (i : Nat) : zma4 iv i 56 i = iv 56 i + zstep (iv 52 i) (iv 53 i) := by
  unfold zma4
  rw [zu_n _ _ _ (by decide), zu_n _ _ _ (by decide), zu_n _ _ _ (by decide), zmcp_o _ _ (by decide)]
  show upd (iv 56) i _ i = _
  exact pk_us
theorem zmtold_c {u v : zI} {i b : Nat} (h42 : u 42 = v 42) (h43 : u 43 = v 43) (h50 : u 50 = v 50) (h52 : u 52 = v 52) (h53 : u 53 = v 53) (h54 : u 54 = v 54) : zmtold u i b = zmtold v i b := by
  unfold zmtold
  rw [h42, h43, h50, h52, h53, h54]

set_option maxRecDepth 4000 in
theorem lm_cp0 (n : Nat) (iv : zI) (lw : zG) (i : Nat) (hi : i < 8) (Q0 : Option Value → zI → zG → Prop) {X : zX} (C : zC X cX10_arrive 3 RX10 none "arrive" 0 0 0) (E : zEnd X (91 + 3 * n) 0 0 (zQ n Q0)) : ∀ (k : Nat) (p : Nat), p + k = 5 → zJs X n 3 69 [some (.ref 41), some (.int (nI i)), some (.int (nI 5))] [] (zmcp iv i 5) lw → zJs X n 3 38 [some (.ref 41), some (.int (nI i)), some (.int (nI p))] [] (zmcp iv i p) lw := by
  intro k
  induction k with
  | zero =>
    intro p hk hend
    refine z_iload_n C dX10_arrive_38 rfl ?_
    refine z_iconst (v := 5) C dX10_arrive_39 (by decide) ?_
    refine zt_icmp_ge (tgt := 69) C dX10_arrive_40 (nI_toInt (by omega)) (show (5 : Int32).toInt = 5 by decide) (by decide) (fun q40 => ?_) (fun q40 => ?_)
    · rw [show p = 5 by omega]
      exact hend
    · exfalso; omega
  | succ k ih =>
    intro p hk hend
    refine z_iload_n C dX10_arrive_38 rfl ?_
    refine z_iconst (v := 5) C dX10_arrive_39 (by decide) ?_
    refine zt_icmp_ge (tgt := 69) C dX10_arrive_40 (nI_toInt (by omega)) (show (5 : Int32).toInt = 5 by decide) (by decide) (fun q40 => ?_) (fun q40 => ?_)
    · exfalso; omega
    · refine z_aload_n C dX10_arrive_43 rfl ?_
      refine zs_getR C dX10_arrive_44 zf_X10_74 zk_41 (by decide) (zr_41_24 n) ?_
      refine z_iconst (v := 5) C dX10_arrive_47 (by decide) ?_
      refine z_iload_n C dX10_arrive_48 rfl ?_
      refine z_imul C dX10_arrive_49 ?_
      refine z_iload_n C dX10_arrive_50 rfl ?_
      refine z_iadd C dX10_arrive_51 ?_
      refine z_aload_n C dX10_arrive_52 rfl ?_
      refine zs_getR C dX10_arrive_53 zf_X10_77 zk_41 (by decide) (zr_41_25 n) ?_
      refine z_iconst (v := 5) C dX10_arrive_56 (by decide) ?_
      refine z_iload_n C dX10_arrive_57 rfl ?_
      refine z_imul C dX10_arrive_58 ?_
      refine z_iload_n C dX10_arrive_59 rfl ?_
      refine z_iadd C dX10_arrive_60 ?_
      refine z_iald C dX10_arrive_61 zk_63 (by decide) ?_ ?_
      · rw [z5_0, nI_add]
        exact vp_in_nI (by omega) (by decide)
      refine z_iast C dX10_arrive_62 zk_62 (by decide) ?_ ?_
      · rw [z5_0, nI_add]
        exact vp_in_nI (by omega) (by decide)
      refine z_iinc (y := 1) (lv' := [some (.ref 41), some (.int _), some (.int _)]) C dX10_arrive_63 rfl (by decide) (by decide) rfl ?_
      refine z_goto (tgt := 38) C dX10_arrive_66 (by decide) ?_
      rw [nI_1 p, z5_0, nI_add, nI_clamp (show 5 * i + p < 2 ^ 31 by omega), zmcp_o iv i (show 63 ≠ 62 by decide)]
      exact ih (p + 1) (by omega) hend

set_option maxHeartbeats 1000000 in
set_option maxRecDepth 4000 in
theorem m_arrive (n : Nat) (iv : zI) (lw : zG) (i : Nat) (hi : i < 8) (hon : zmon (zma1 iv i) i (iv 56 i + zstep (iv 52 i) (iv 53 i))) (ht : vp_in (iv 57 i) 20) : zMv yX10_arrive cX10_arrive 3 none 3 [.ref 41, .int (nI i)] n iv lw (zmarr iv i) lw := by
  refine zM.of (by decide) (Nat.le_of_ble_eq_true rfl) (fun X C E => ?_)
  change zJs X n 3 0 [some (.ref 41), some (.int (nI i)), none] [] iv lw
  refine z_aload_n C dX10_arrive_0 rfl ?_
  refine zs_getR C dX10_arrive_1 zf_X10_56 zk_41 (by decide) (zr_41_18 n) ?_
  refine z_iload_n C dX10_arrive_4 rfl ?_
  refine z_dup2 C dX10_arrive_5 rfl rfl ?_
  refine z_iald C dX10_arrive_6 zk_56 (by decide) ?_ ?_
  · exact vp_in_nI (by omega) (by decide)
  refine z_aload_n C dX10_arrive_7 rfl ?_
  refine z_iload_n C dX10_arrive_8 rfl ?_
  refine zs_callVi C dX10_arrive_9 zm_X10_191 zyX10_wayOf (m_wayOf _ _ _ i hi) zc_10 rfl zk_41 (by decide) (by decide) rfl rfl (Nat.le_of_ble_eq_true rfl) (by decide) (by decide) ?_
  refine z_iadd C dX10_arrive_12 ?_
  refine z_iast C dX10_arrive_13 zk_56 (by decide) ?_ ?_
  · exact vp_in_nI (by omega) (by decide)
  simp only [nI_clamp (show i < 2 ^ 31 by omega)]
  show zJs X n 3 14 _ [] (zma1 iv i) lw
  have e56 : zma1 iv i 56 i = (iv 56 i + zstep (iv 52 i) (iv 53 i)) := by
    show upd (iv 56) i _ i = _
    exact pk_us
  refine z_aload_n C dX10_arrive_14 rfl ?_
  refine zs_getR C dX10_arrive_15 zf_X10_71 zk_41 (by decide) (zr_41_23 n) ?_
  refine z_iload_n C dX10_arrive_18 rfl ?_
  refine z_aload_n C dX10_arrive_19 rfl ?_
  refine z_getI C dX10_arrive_20 zf_X10_187 zk_41 (by decide) ?_
  refine z_aload_n C dX10_arrive_23 rfl ?_
  refine z_iload_n C dX10_arrive_24 rfl ?_
  refine z_aload_n C dX10_arrive_25 rfl ?_
  refine zs_getR C dX10_arrive_26 zf_X10_56 zk_41 (by decide) (zr_41_18 n) ?_
  refine z_iload_n C dX10_arrive_29 rfl ?_
  refine z_iald C dX10_arrive_30 zk_56 (by decide) ?_ ?_
  · exact vp_in_nI (by omega) (by decide)
  simp only [nI_clamp (show i < 2 ^ 31 by omega)]
  rw [e56]
  refine zs_callVi C dX10_arrive_31 zm_X10_209 zyX10_toldAt (m_toldAt n (zma1 iv i) _ i hi _ hon) zc_10 rfl zk_41 (by decide) (by decide) rfl rfl (Nat.le_of_ble_eq_true rfl) (by decide) (by decide) ?_
  refine z_eqi (show _ = zmtold iv i (iv 56 i + zstep (iv 52 i) (iv 53 i)).toNatClampNeg from zmtold_c rfl rfl rfl rfl rfl rfl) ?_
  refine z_isub C dX10_arrive_34 ?_
  refine z_iast C dX10_arrive_35 zk_61 (by decide) ?_ ?_
  · exact vp_in_nI (by omega) (by decide)
  simp only [nI_clamp (show i < 2 ^ 31 by omega)]
  show zJs X n 3 36 _ [] (zma2 iv i) lw
  refine z_iconst (v := 0) C dX10_arrive_36 (by decide) ?_
  refine z_istore_n (lv' := [some (.ref 41), some (.int _), some (.int _)]) C dX10_arrive_37 (by decide) rfl ?_
  refine lm_cp0 n (zma2 iv i) lw i hi _ (zC_le (by decide) C) E 5 0 (by omega) ?_
  refine z_aload_n C dX10_arrive_69 rfl ?_
  refine zs_getR C dX10_arrive_70 zf_X10_65 zk_41 (by decide) (zr_41_21 n) ?_
  refine z_iload_n C dX10_arrive_73 rfl ?_
  refine z_iconst (v := (-1)) C dX10_arrive_74 (by decide) ?_
  refine z_iast C dX10_arrive_75 zk_59 (by decide) ?_ ?_
  · exact vp_in_nI (by omega) (by decide)
  refine z_aload_n C dX10_arrive_76 rfl ?_
  refine zs_getR C dX10_arrive_77 zf_X10_62 zk_41 (by decide) (zr_41_20 n) ?_
  refine z_iload_n C dX10_arrive_80 rfl ?_
  refine z_iconst (v := (-1)) C dX10_arrive_81 (by decide) ?_
  refine z_iast C dX10_arrive_82 zk_58 (by decide) ?_ ?_
  · exact vp_in_nI (by omega) (by decide)
  refine z_aload_n C dX10_arrive_83 rfl ?_
  refine zs_getR C dX10_arrive_84 zf_X10_68 zk_41 (by decide) (zr_41_22 n) ?_
  refine z_iload_n C dX10_arrive_87 rfl ?_
  refine z_iconst (v := 0) C dX10_arrive_88 (by decide) ?_
  refine z_iast C dX10_arrive_89 zk_60 (by decide) ?_ ?_
  · exact vp_in_nI (by omega) (by decide)
  simp only [nI_clamp (show i < 2 ^ 31 by omega)]
  show zJs X n 3 90 _ [] (zma4 iv i) lw
  have f56 := zma4_56 iv i
  have f53 : zma4 iv i 53 = iv 53 := zma4_o iv i (by decide) (by decide) (by decide) (by decide) (by decide) (by decide)
  refine z_aload_n C dX10_arrive_90 rfl ?_
  refine zs_getR C dX10_arrive_91 zf_X10_53 zk_41 (by decide) (zr_41_17 n) ?_
  refine z_iload_n C dX10_arrive_94 rfl ?_
  refine z_aload_n C dX10_arrive_95 rfl ?_
  refine zs_getR C dX10_arrive_96 zf_X10_56 zk_41 (by decide) (zr_41_18 n) ?_
  refine z_iload_n C dX10_arrive_99 rfl ?_
  refine z_iald C dX10_arrive_100 zk_56 (by decide) ?_ ?_
  · exact vp_in_nI (by omega) (by decide)
  refine z_aload_n C dX10_arrive_101 rfl ?_
  refine zs_getR C dX10_arrive_102 zf_X10_47 zk_41 (by decide) (zr_41_15 n) ?_
  refine z_iload_n C dX10_arrive_105 rfl ?_
  refine z_iald C dX10_arrive_106 zk_53 (by decide) ?_ ?_
  · exact vp_in_nI (by omega) (by decide)
  refine z_icmp_ne (tgt := 114) C dX10_arrive_107 (by decide) (fun q107 => ?_) (fun q107 => ?_)
  · simp only [nI_clamp (show i < 2 ^ 31 by omega)] at q107
    rw [f56, f53] at q107
    refine z_iconst (v := 2) C dX10_arrive_114 (by decide) ?_
    refine z_iast C dX10_arrive_115 zk_55 (by decide) ?_ ?_
    · exact vp_in_nI (by omega) (by decide)
    simp only [nI_clamp (show i < 2 ^ 31 by omega)]
    have f55 : zu (zma4 iv i) 55 i 2 55 i = 2 := by rw [zu_s]; exact pk_us
    refine z_aload_n C dX10_arrive_116 rfl ?_
    refine zs_getR C dX10_arrive_117 zf_X10_53 zk_41 (by decide) (zr_41_17 n) ?_
    refine z_iload_n C dX10_arrive_120 rfl ?_
    refine z_iald C dX10_arrive_121 zk_55 (by decide) ?_ ?_
    · exact vp_in_nI (by omega) (by decide)
    refine z_iconst (v := 4) C dX10_arrive_122 (by decide) ?_
    refine z_icmp_ne (tgt := 131) C dX10_arrive_123 (by decide) (fun q123 => ?_) (fun q123 => ?_)
    · simp only [nI_clamp (show i < 2 ^ 31 by omega)] at q123
      rw [f55] at q123
      refine zs_vret C E dX10_arrive_131 ?_ rfl
      unfold zmarr
      rw [if_neg q107]
    · simp only [nI_clamp (show i < 2 ^ 31 by omega)] at q123
      rw [f55] at q123
      exact absurd q123 (by decide)
  · simp only [nI_clamp (show i < 2 ^ 31 by omega)] at q107
    rw [f56, f53] at q107
    refine z_iconst (v := 4) C dX10_arrive_110 (by decide) ?_
    refine z_goto (tgt := 115) C dX10_arrive_111 (by decide) ?_
    refine z_iast C dX10_arrive_115 zk_55 (by decide) ?_ ?_
    · exact vp_in_nI (by omega) (by decide)
    simp only [nI_clamp (show i < 2 ^ 31 by omega)]
    have f55 : zu (zma4 iv i) 55 i 4 55 i = 4 := by rw [zu_s]; exact pk_us
    refine z_aload_n C dX10_arrive_116 rfl ?_
    refine zs_getR C dX10_arrive_117 zf_X10_53 zk_41 (by decide) (zr_41_17 n) ?_
    refine z_iload_n C dX10_arrive_120 rfl ?_
    refine z_iald C dX10_arrive_121 zk_55 (by decide) ?_ ?_
    · exact vp_in_nI (by omega) (by decide)
    refine z_iconst (v := 4) C dX10_arrive_122 (by decide) ?_
    refine z_icmp_ne (tgt := 131) C dX10_arrive_123 (by decide) (fun q123 => ?_) (fun q123 => ?_)
    · simp only [nI_clamp (show i < 2 ^ 31 by omega)] at q123
      rw [f55] at q123
      exact absurd rfl q123
    · simp only [nI_clamp (show i < 2 ^ 31 by omega)] at q123
      rw [f55] at q123
      refine z_aload_n C dX10_arrive_126 rfl ?_
      refine z_iload_n C dX10_arrive_127 rfl ?_
      refine zs_callVv C dX10_arrive_128 zm_X10_363 zyX10_unharness (m_unharness n (zu (zma4 iv i) 55 i 4) _ i hi (by show vp_in (zma4 iv i 57 i) 20; rw [zma4_o iv i (by decide) (by decide) (by decide) (by decide) (by decide) (by decide)]; exact ht)) zc_10 rfl zk_41 (by decide) (by decide) rfl rfl (Nat.le_of_ble_eq_true rfl) (by decide) (by decide) ?_
      refine zs_vret C E dX10_arrive_131 ?_ rfl
      unfold zmarr
      rw [if_pos q107]
      have g57 : zma4 iv i 57 = iv 57 := zma4_o iv i (by decide) (by decide) (by decide) (by decide) (by decide) (by decide)
      show zu (zu (zu (zu (zma4 iv i) 55 i 4) 48 (zma4 iv i 57 i).toNatClampNeg (zma4 iv i 56 i)) 49 (zma4 iv i 57 i).toNatClampNeg (-1)) 57 i (-1) = _
      rw [g57, f56]
