theorem z_eqi {X : zX} {N0 nL pc : Nat} {lv : zLs} {x y : Int32} {st : List Value} {N : Nat} {kd : zD} {iv : zI} {rf : zF} {lw : zG} {cells slots : Nat} (h : x = y) (k : zJ X N0 nL pc lv (.int y :: st) N kd iv rf lw cells slots) : zJ X N0 nL pc lv (.int x :: st) N kd iv rf lw cells slots := h ▸ k
theorem zreck_o (iv : zI) (c : Nat) (mu we ch : Int32) {q : Nat} (h : q ≠ c + 2) : zreck iv c mu we ch q = iv q := by
  unfold zreck
  rw [zu_n _ _ _ h, zu_n _ _ _ h, zu_n _ _ _ h, zu_n _ _ _ h, zu_n _ _ _ h]
/-- a coach's next stage, what it costs, how weak its team is for it -/
def zsg (iv : zI) (i : Nat) : Int32 := znext (iv (91 + 3 * i) 2) (iv (91 + 3 * i) 3) (iv (91 + 3 * i) 6)
def zco (iv : zI) (i : Nat) : Int32 := 12 * iv 2 (zsg iv i).toNatClampNeg + 10 * iv 3 (zsg iv i).toNatClampNeg + 5 * iv 4 (zsg iv i).toNatClampNeg + iv (91 + 3 * i) 1
def zsv (iv : zI) (i : Nat) : Int32 := iv 8 (iv (91 + 3 * i) 7).toNatClampNeg
def zwe (iv : zI) (i : Nat) : Int32 := if (zsv iv i).toInt < (zco iv i).toInt then (zco iv i - zsv iv i + 9) / 10 else 0
def zd1 (iv : zI) (i : Nat) : zI := zu iv 8 (iv (91 + 3 * i) 7).toNatClampNeg (if 0 < zsv iv i - zco iv i then zsv iv i - zco iv i else 0)
def zd2 (iv : zI) (i : Nat) (ch : Int32) : zI := zreck (zd1 iv i) (91 + 3 * i) (iv 4 (zsg iv i).toNatClampNeg * iv 2 (zsg iv i).toNatClampNeg / 4) (zwe iv i) ch
def zd3 (iv : zI) (i : Nat) (ch : Int32) : zI := zu (zd2 iv i ch) (91 + 3 * i) 8 (if ch = 0 then iv 0 10 else iv 0 10 + 2)
def zd4 (iv : zI) (i : Nat) (ch : Int32) : zI := zu (zd3 iv i ch) (91 + 3 * i) 9 ((if ch = 0 then iv 0 10 else iv 0 10 + 2) + (iv 2 (zsg iv i).toNatClampNeg * zpace (iv (91 + 3 * i) 0) + 2 * iv 3 (zsg iv i).toNatClampNeg) + (zd3 iv i ch (91 + 3 * i + 2) 0 + zd3 iv i ch (91 + 3 * i + 2) 1 + zd3 iv i ch (91 + 3 * i + 2) 2))
/-- a coach leaves, or begins to change -/
def zdep (iv : zI) (i : Nat) (ch : Int32) : zI := zu (zd4 iv i ch) (91 + 3 * i) 5 (if ch = 0 then 1 else 3)
theorem zd1_o (iv : zI) (i : Nat) {q : Nat} (h : q ≠ 8) : zd1 iv i q = iv q := zu_n _ _ _ h
theorem zd2_o (iv : zI) (i : Nat) (ch : Int32) {q : Nat} (h : q ≠ 8) (h2 : q ≠ 91 + 3 * i + 2) : zd2 iv i ch q = iv q := by
  unfold zd2
  rw [zreck_o _ _ _ _ _ h2, zd1_o _ _ h]
theorem zd3_o (iv : zI) (i : Nat) (ch : Int32) {q : Nat} (h : q ≠ 8) (h2 : q ≠ 91 + 3 * i + 2) (h3 : q ≠ 91 + 3 * i) : zd3 iv i ch q = iv q := by
  unfold zd3
  rw [zu_n _ _ _ h3, zd2_o _ _ _ h h2]

set_option maxHeartbeats 1000000 in
set_option maxRecDepth 4000 in
theorem c_depart (n : Nat) (iv : zI) (lw : zG) (i : Nat) (hi : i < n) (hn : n ≤ 8) (ch : Int32) (hI : 2 ≤ (iv 1 0).toInt ∧ (iv 1 0).toInt ≤ 8) (hs : 0 ≤ (zsg iv i).toInt ∧ (zsg iv i).toInt < (iv 1 0).toInt - 1) (hT : (iv 7 0).toInt ≤ 20) (ht : 0 ≤ (iv (91 + 3 * i) 7).toInt ∧ (iv (91 + 3 * i) 7).toInt < (iv 7 0).toInt) : zMv yX9_depart cX9_depart 7 none 2 [.ref 0, .ref (91 + 3 * i), .int ch] n iv lw (zdep iv i ch) lw := by
  refine zM.of (by decide) (Nat.le_of_ble_eq_true rfl) (fun X C E => ?_)
  change zJs X n 7 0 [some (.ref 0), some (.ref (91 + 3 * i)), some (.int ch), none, none, none, none] [] iv lw
  refine z_aload_n C dX9_depart_0 rfl ?_
  refine zs_callVi C dX9_depart_1 zm_X9_245 zyX0_nextStage (c_nextStage _ _ _ i hi hn) zc_0 rfl (zkc i) (by omega) (by decide) rfl rfl (Nat.le_of_ble_eq_true rfl) (by decide) (by decide) ?_
  show zJs X n 7 4 _ (.int (zsg iv i) :: []) iv lw
  refine z_istore_n (lv' := [some (.ref 0), some (.ref (91 + 3 * i)), some (.int ch), some (.int _), none, none, none]) C dX9_depart_4 (by decide) rfl ?_
  refine z_aload_n C dX9_depart_5 rfl ?_
  refine zs_getR C dX9_depart_6 zf_X9_10 zk_0 (by decide) (zr_0_0 n) ?_
  refine z_iload_n C dX9_depart_9 rfl ?_
  refine z_aload_n C dX9_depart_10 rfl ?_
  refine z_getI C dX9_depart_11 zf_X9_248 (zkc i) (by omega) ?_
  refine zs_callVi C dX9_depart_14 zm_X9_254 zyX2_cost (c_cost _ _ _ (zsg iv i) _ hI hs) zc_2 rfl zk_1 (by decide) (by decide) rfl rfl (Nat.le_of_ble_eq_true rfl) (by decide) (by decide) ?_
  show zJs X n 7 17 _ (.int (zco iv i) :: []) iv lw
  refine z_istore (lv' := [some (.ref 0), some (.ref (91 + 3 * i)), some (.int ch), some (.int _), some (.int _), none, none]) C dX9_depart_17 (by decide) rfl ?_
  refine z_aload_n C dX9_depart_19 rfl ?_
  refine zs_getR C dX9_depart_20 zf_X9_19 zk_0 (by decide) (zr_0_1 n) ?_
  refine z_aload_n C dX9_depart_23 rfl ?_
  refine z_getI C dX9_depart_24 zf_X9_213 (zkc i) (by omega) ?_
  refine zs_callVi C dX9_depart_27 zm_X9_235 zyX7_strengthOf (c_strengthOf _ _ _ _ hT) zc_7 rfl zk_7 (by decide) (by decide) rfl rfl (Nat.le_of_ble_eq_true rfl) (by decide) (by decide) ?_
  rw [if_pos ht]
  show zJs X n 7 30 _ (.int (zsv iv i) :: []) iv lw
  refine z_istore (lv' := [some (.ref 0), some (.ref (91 + 3 * i)), some (.int ch), some (.int _), some (.int _), some (.int _), none]) C dX9_depart_30 (by decide) rfl ?_
  refine z_iload C dX9_depart_32 rfl ?_
  refine z_iload C dX9_depart_34 rfl ?_
  refine zt_icmp_ge (tgt := 53) C dX9_depart_36 rfl rfl (by decide) (fun q36 => ?_) (fun q36 => ?_)
  · refine z_iconst (v := 0) C dX9_depart_53 (by decide) ?_
    rw [show (0 : Int32) = zwe iv i from (if_neg (by omega)).symm]
    refine z_istore (lv' := [some (.ref 0), some (.ref (91 + 3 * i)), some (.int ch), some (.int _), some (.int _), some (.int _), some (.int _)]) C dX9_depart_54 (by decide) rfl ?_
    refine z_aload_n C dX9_depart_56 rfl ?_
    refine zs_getR C dX9_depart_57 zf_X9_19 zk_0 (by decide) (zr_0_1 n) ?_
    refine z_aload_n C dX9_depart_60 rfl ?_
    refine z_getI C dX9_depart_61 zf_X9_213 (zkc i) (by omega) ?_
    refine z_iload C dX9_depart_64 rfl ?_
    refine zs_callVv C dX9_depart_66 zm_X9_257 zyX7_tire (c_tire _ _ _ _ _ hT ht) zc_7 rfl zk_7 (by decide) (by decide) rfl rfl (Nat.le_of_ble_eq_true rfl) (by decide) (by decide) ?_
    show zJs X n 7 69 _ [] (zd1 iv i) lw
    refine z_aload_n C dX9_depart_69 rfl ?_
    refine z_aload_n C dX9_depart_70 rfl ?_
    refine zs_getR C dX9_depart_71 zf_X9_10 zk_0 (by decide) (zr_0_0 n) ?_
    refine z_iload_n C dX9_depart_74 rfl ?_
    refine zs_callVi C dX9_depart_75 zm_X9_260 zyX2_muds (c_muds _ (zd1 iv i) _ (zsg iv i) hI hs) zc_2 rfl zk_1 (by decide) (by decide) rfl rfl (Nat.le_of_ble_eq_true rfl) (by decide) (by decide) ?_
    refine z_iload C dX9_depart_78 rfl ?_
    refine z_iload_n C dX9_depart_80 rfl ?_
    refine zs_callVv C dX9_depart_81 zm_X9_263 zyX0_reckon (c_reckon _ _ _ i hi hn _ _ _) zc_0 rfl (zkc i) (by omega) (by decide) rfl rfl (Nat.le_of_ble_eq_true rfl) (by decide) (by decide) ?_
    show zJs X n 7 84 _ [] (zd2 iv i ch) lw
    have e20 : zd2 iv i ch 0 = iv 0 := zd2_o iv i ch (by decide) (by omega)
    have e31 : zd3 iv i ch 1 = iv 1 := zd3_o iv i ch (by decide) (by omega) (by omega)
    have e32 : zd3 iv i ch 2 = iv 2 := zd3_o iv i ch (by decide) (by omega) (by omega)
    have e33 : zd3 iv i ch 3 = iv 3 := zd3_o iv i ch (by decide) (by omega) (by omega)
    have e3c : zd3 iv i ch (91 + 3 * i) 0 = iv (91 + 3 * i) 0 := by
      unfold zd3; rw [zu_s, pk_un (by decide), zd2_o iv i ch (by omega) (by omega)]
    have e3l : zd3 iv i ch (91 + 3 * i) 8 = (if ch = 0 then iv 0 10 else iv 0 10 + 2) := by
      unfold zd3; rw [zu_s]; exact pk_us
    refine z_aload_n C dX9_depart_84 rfl ?_
    refine z_iload_n C dX9_depart_85 rfl ?_
    refine z_if_eq (tgt := 98) C dX9_depart_86 (by decide) (fun q86 => ?_) (fun q86 => ?_)
    · refine z_aload_n C dX9_depart_98 rfl ?_
      refine z_getI C dX9_depart_99 zf_X9_115 zk_0 (by decide) ?_
      rw [e20, show iv 0 10 = (if ch = 0 then iv 0 10 else iv 0 10 + 2) from (if_pos q86).symm]
      refine z_putI C dX9_depart_102 zf_X9_187 (zkc i) (by omega) ?_
      show zJs X n 7 105 _ [] (zd3 iv i ch) lw
      refine z_aload_n C dX9_depart_105 rfl ?_
      refine z_aload_n C dX9_depart_106 rfl ?_
      refine z_getI C dX9_depart_107 zf_X9_187 (zkc i) (by omega) ?_
      refine z_aload_n C dX9_depart_110 rfl ?_
      refine zs_getR C dX9_depart_111 zf_X9_10 zk_0 (by decide) (zr_0_0 n) ?_
      refine z_iload_n C dX9_depart_114 rfl ?_
      refine z_aload_n C dX9_depart_115 rfl ?_
      refine zs_callVi C dX9_depart_116 zm_X9_267 zyX0_pace (c_pace _ _ _ i hi hn) zc_0 rfl (zkc i) (by omega) (by decide) rfl rfl (Nat.le_of_ble_eq_true rfl) (by decide) (by decide) ?_
      refine zs_callVi C dX9_depart_119 zm_X9_270 zyX2_plainMinutes (c_plainMinutes _ (zd3 iv i ch) _ (zsg iv i) _ (by rw [e31]; exact hI) (by rw [e31]; exact hs)) zc_2 rfl zk_1 (by decide) (by decide) rfl rfl (Nat.le_of_ble_eq_true rfl) (by decide) (by decide) ?_
      rw [e32, e33, e3c, e3l]
      refine z_iadd C dX9_depart_122 ?_
      refine z_aload_n C dX9_depart_123 rfl ?_
      refine zs_callVi C dX9_depart_124 zm_X9_273 zyX0_extraMinutes (c_extra _ _ _ i hi hn) zc_0 rfl (zkc i) (by omega) (by decide) rfl rfl (Nat.le_of_ble_eq_true rfl) (by decide) (by decide) ?_
      refine z_iadd C dX9_depart_127 ?_
      refine z_putI C dX9_depart_128 zf_X9_190 (zkc i) (by omega) ?_
      show zJs X n 7 131 _ [] (zd4 iv i ch) lw
      refine z_aload_n C dX9_depart_131 rfl ?_
      refine z_iload_n C dX9_depart_132 rfl ?_
      refine z_if_eq (tgt := 140) C dX9_depart_133 (by decide) (fun q133 => ?_) (fun q133 => ?_)
      · refine z_iconst (v := 1) C dX9_depart_140 (by decide) ?_
        refine z_putI C dX9_depart_141 zf_X9_174 (zkc i) (by omega) ?_
        refine zs_vret C E dX9_depart_144 ?_ rfl
        first
          | (show zu (zd4 iv i ch) _ 5 1 = _; unfold zdep; rw [if_pos q86]; done)
          | (show zu (zd4 iv i ch) _ 5 3 = _; unfold zdep; rw [if_neg q86]; done)
      · exact absurd q86 q133
    · refine z_aload_n C dX9_depart_89 rfl ?_
      refine z_getI C dX9_depart_90 zf_X9_115 zk_0 (by decide) ?_
      refine z_iconst (v := 2) C dX9_depart_93 (by decide) ?_
      refine z_iadd C dX9_depart_94 ?_
      refine z_goto (tgt := 102) C dX9_depart_95 (by decide) ?_
      rw [e20, show iv 0 10 + 2 = (if ch = 0 then iv 0 10 else iv 0 10 + 2) from (if_neg q86).symm]
      refine z_putI C dX9_depart_102 zf_X9_187 (zkc i) (by omega) ?_
      show zJs X n 7 105 _ [] (zd3 iv i ch) lw
      refine z_aload_n C dX9_depart_105 rfl ?_
      refine z_aload_n C dX9_depart_106 rfl ?_
      refine z_getI C dX9_depart_107 zf_X9_187 (zkc i) (by omega) ?_
      refine z_aload_n C dX9_depart_110 rfl ?_
      refine zs_getR C dX9_depart_111 zf_X9_10 zk_0 (by decide) (zr_0_0 n) ?_
      refine z_iload_n C dX9_depart_114 rfl ?_
      refine z_aload_n C dX9_depart_115 rfl ?_
      refine zs_callVi C dX9_depart_116 zm_X9_267 zyX0_pace (c_pace _ _ _ i hi hn) zc_0 rfl (zkc i) (by omega) (by decide) rfl rfl (Nat.le_of_ble_eq_true rfl) (by decide) (by decide) ?_
      refine zs_callVi C dX9_depart_119 zm_X9_270 zyX2_plainMinutes (c_plainMinutes _ (zd3 iv i ch) _ (zsg iv i) _ (by rw [e31]; exact hI) (by rw [e31]; exact hs)) zc_2 rfl zk_1 (by decide) (by decide) rfl rfl (Nat.le_of_ble_eq_true rfl) (by decide) (by decide) ?_
      rw [e32, e33, e3c, e3l]
      refine z_iadd C dX9_depart_122 ?_
      refine z_aload_n C dX9_depart_123 rfl ?_
      refine zs_callVi C dX9_depart_124 zm_X9_273 zyX0_extraMinutes (c_extra _ _ _ i hi hn) zc_0 rfl (zkc i) (by omega) (by decide) rfl rfl (Nat.le_of_ble_eq_true rfl) (by decide) (by decide) ?_
      refine z_iadd C dX9_depart_127 ?_
      refine z_putI C dX9_depart_128 zf_X9_190 (zkc i) (by omega) ?_
      show zJs X n 7 131 _ [] (zd4 iv i ch) lw
      refine z_aload_n C dX9_depart_131 rfl ?_
      refine z_iload_n C dX9_depart_132 rfl ?_
      refine z_if_eq (tgt := 140) C dX9_depart_133 (by decide) (fun q133 => ?_) (fun q133 => ?_)
      · exact absurd q133 q86
      · refine z_iconst (v := 3) C dX9_depart_136 (by decide) ?_
        refine z_goto (tgt := 141) C dX9_depart_137 (by decide) ?_
        refine z_putI C dX9_depart_141 zf_X9_174 (zkc i) (by omega) ?_
        refine zs_vret C E dX9_depart_144 ?_ rfl
        first
          | (show zu (zd4 iv i ch) _ 5 1 = _; unfold zdep; rw [if_pos q86]; done)
          | (show zu (zd4 iv i ch) _ 5 3 = _; unfold zdep; rw [if_neg q86]; done)
  · refine z_iload C dX9_depart_39 rfl ?_
    refine z_iload C dX9_depart_41 rfl ?_
    refine z_isub C dX9_depart_43 ?_
    refine z_bipush (v := 9) C dX9_depart_44 (by decide) ?_
    refine z_iadd C dX9_depart_46 ?_
    refine z_bipush (v := 10) C dX9_depart_47 (by decide) ?_
    refine z_idiv C dX9_depart_49 (by decide) ?_
    refine z_goto (tgt := 54) C dX9_depart_50 (by decide) ?_
    rw [show (zco iv i - zsv iv i + 9) / 10 = zwe iv i from (if_pos (by omega)).symm]
    refine z_istore (lv' := [some (.ref 0), some (.ref (91 + 3 * i)), some (.int ch), some (.int _), some (.int _), some (.int _), some (.int _)]) C dX9_depart_54 (by decide) rfl ?_
    refine z_aload_n C dX9_depart_56 rfl ?_
    refine zs_getR C dX9_depart_57 zf_X9_19 zk_0 (by decide) (zr_0_1 n) ?_
    refine z_aload_n C dX9_depart_60 rfl ?_
    refine z_getI C dX9_depart_61 zf_X9_213 (zkc i) (by omega) ?_
    refine z_iload C dX9_depart_64 rfl ?_
    refine zs_callVv C dX9_depart_66 zm_X9_257 zyX7_tire (c_tire _ _ _ _ _ hT ht) zc_7 rfl zk_7 (by decide) (by decide) rfl rfl (Nat.le_of_ble_eq_true rfl) (by decide) (by decide) ?_
    show zJs X n 7 69 _ [] (zd1 iv i) lw
    refine z_aload_n C dX9_depart_69 rfl ?_
    refine z_aload_n C dX9_depart_70 rfl ?_
    refine zs_getR C dX9_depart_71 zf_X9_10 zk_0 (by decide) (zr_0_0 n) ?_
    refine z_iload_n C dX9_depart_74 rfl ?_
    refine zs_callVi C dX9_depart_75 zm_X9_260 zyX2_muds (c_muds _ (zd1 iv i) _ (zsg iv i) hI hs) zc_2 rfl zk_1 (by decide) (by decide) rfl rfl (Nat.le_of_ble_eq_true rfl) (by decide) (by decide) ?_
    refine z_iload C dX9_depart_78 rfl ?_
    refine z_iload_n C dX9_depart_80 rfl ?_
    refine zs_callVv C dX9_depart_81 zm_X9_263 zyX0_reckon (c_reckon _ _ _ i hi hn _ _ _) zc_0 rfl (zkc i) (by omega) (by decide) rfl rfl (Nat.le_of_ble_eq_true rfl) (by decide) (by decide) ?_
    show zJs X n 7 84 _ [] (zd2 iv i ch) lw
    have e20 : zd2 iv i ch 0 = iv 0 := zd2_o iv i ch (by decide) (by omega)
    have e31 : zd3 iv i ch 1 = iv 1 := zd3_o iv i ch (by decide) (by omega) (by omega)
    have e32 : zd3 iv i ch 2 = iv 2 := zd3_o iv i ch (by decide) (by omega) (by omega)
    have e33 : zd3 iv i ch 3 = iv 3 := zd3_o iv i ch (by decide) (by omega) (by omega)
    have e3c : zd3 iv i ch (91 + 3 * i) 0 = iv (91 + 3 * i) 0 := by
      unfold zd3; rw [zu_s, pk_un (by decide), zd2_o iv i ch (by omega) (by omega)]
    have e3l : zd3 iv i ch (91 + 3 * i) 8 = (if ch = 0 then iv 0 10 else iv 0 10 + 2) := by
      unfold zd3; rw [zu_s]; exact pk_us
    refine z_aload_n C dX9_depart_84 rfl ?_
    refine z_iload_n C dX9_depart_85 rfl ?_
    refine z_if_eq (tgt := 98) C dX9_depart_86 (by decide) (fun q86 => ?_) (fun q86 => ?_)
    · refine z_aload_n C dX9_depart_98 rfl ?_
      refine z_getI C dX9_depart_99 zf_X9_115 zk_0 (by decide) ?_
      rw [e20, show iv 0 10 = (if ch = 0 then iv 0 10 else iv 0 10 + 2) from (if_pos q86).symm]
      refine z_putI C dX9_depart_102 zf_X9_187 (zkc i) (by omega) ?_
      show zJs X n 7 105 _ [] (zd3 iv i ch) lw
      refine z_aload_n C dX9_depart_105 rfl ?_
      refine z_aload_n C dX9_depart_106 rfl ?_
      refine z_getI C dX9_depart_107 zf_X9_187 (zkc i) (by omega) ?_
      refine z_aload_n C dX9_depart_110 rfl ?_
      refine zs_getR C dX9_depart_111 zf_X9_10 zk_0 (by decide) (zr_0_0 n) ?_
      refine z_iload_n C dX9_depart_114 rfl ?_
      refine z_aload_n C dX9_depart_115 rfl ?_
      refine zs_callVi C dX9_depart_116 zm_X9_267 zyX0_pace (c_pace _ _ _ i hi hn) zc_0 rfl (zkc i) (by omega) (by decide) rfl rfl (Nat.le_of_ble_eq_true rfl) (by decide) (by decide) ?_
      refine zs_callVi C dX9_depart_119 zm_X9_270 zyX2_plainMinutes (c_plainMinutes _ (zd3 iv i ch) _ (zsg iv i) _ (by rw [e31]; exact hI) (by rw [e31]; exact hs)) zc_2 rfl zk_1 (by decide) (by decide) rfl rfl (Nat.le_of_ble_eq_true rfl) (by decide) (by decide) ?_
      rw [e32, e33, e3c, e3l]
      refine z_iadd C dX9_depart_122 ?_
      refine z_aload_n C dX9_depart_123 rfl ?_
      refine zs_callVi C dX9_depart_124 zm_X9_273 zyX0_extraMinutes (c_extra _ _ _ i hi hn) zc_0 rfl (zkc i) (by omega) (by decide) rfl rfl (Nat.le_of_ble_eq_true rfl) (by decide) (by decide) ?_
      refine z_iadd C dX9_depart_127 ?_
      refine z_putI C dX9_depart_128 zf_X9_190 (zkc i) (by omega) ?_
      show zJs X n 7 131 _ [] (zd4 iv i ch) lw
      refine z_aload_n C dX9_depart_131 rfl ?_
      refine z_iload_n C dX9_depart_132 rfl ?_
      refine z_if_eq (tgt := 140) C dX9_depart_133 (by decide) (fun q133 => ?_) (fun q133 => ?_)
      · refine z_iconst (v := 1) C dX9_depart_140 (by decide) ?_
        refine z_putI C dX9_depart_141 zf_X9_174 (zkc i) (by omega) ?_
        refine zs_vret C E dX9_depart_144 ?_ rfl
        first
          | (show zu (zd4 iv i ch) _ 5 1 = _; unfold zdep; rw [if_pos q86]; done)
          | (show zu (zd4 iv i ch) _ 5 3 = _; unfold zdep; rw [if_neg q86]; done)
      · exact absurd q86 q133
    · refine z_aload_n C dX9_depart_89 rfl ?_
      refine z_getI C dX9_depart_90 zf_X9_115 zk_0 (by decide) ?_
      refine z_iconst (v := 2) C dX9_depart_93 (by decide) ?_
      refine z_iadd C dX9_depart_94 ?_
      refine z_goto (tgt := 102) C dX9_depart_95 (by decide) ?_
      rw [e20, show iv 0 10 + 2 = (if ch = 0 then iv 0 10 else iv 0 10 + 2) from (if_neg q86).symm]
      refine z_putI C dX9_depart_102 zf_X9_187 (zkc i) (by omega) ?_
      show zJs X n 7 105 _ [] (zd3 iv i ch) lw
      refine z_aload_n C dX9_depart_105 rfl ?_
      refine z_aload_n C dX9_depart_106 rfl ?_
      refine z_getI C dX9_depart_107 zf_X9_187 (zkc i) (by omega) ?_
      refine z_aload_n C dX9_depart_110 rfl ?_
      refine zs_getR C dX9_depart_111 zf_X9_10 zk_0 (by decide) (zr_0_0 n) ?_
      refine z_iload_n C dX9_depart_114 rfl ?_
      refine z_aload_n C dX9_depart_115 rfl ?_
      refine zs_callVi C dX9_depart_116 zm_X9_267 zyX0_pace (c_pace _ _ _ i hi hn) zc_0 rfl (zkc i) (by omega) (by decide) rfl rfl (Nat.le_of_ble_eq_true rfl) (by decide) (by decide) ?_
      refine zs_callVi C dX9_depart_119 zm_X9_270 zyX2_plainMinutes (c_plainMinutes _ (zd3 iv i ch) _ (zsg iv i) _ (by rw [e31]; exact hI) (by rw [e31]; exact hs)) zc_2 rfl zk_1 (by decide) (by decide) rfl rfl (Nat.le_of_ble_eq_true rfl) (by decide) (by decide) ?_
      rw [e32, e33, e3c, e3l]
      refine z_iadd C dX9_depart_122 ?_
      refine z_aload_n C dX9_depart_123 rfl ?_
      refine zs_callVi C dX9_depart_124 zm_X9_273 zyX0_extraMinutes (c_extra _ _ _ i hi hn) zc_0 rfl (zkc i) (by omega) (by decide) rfl rfl (Nat.le_of_ble_eq_true rfl) (by decide) (by decide) ?_
      refine z_iadd C dX9_depart_127 ?_
      refine z_putI C dX9_depart_128 zf_X9_190 (zkc i) (by omega) ?_
      show zJs X n 7 131 _ [] (zd4 iv i ch) lw
      refine z_aload_n C dX9_depart_131 rfl ?_
      refine z_iload_n C dX9_depart_132 rfl ?_
      refine z_if_eq (tgt := 140) C dX9_depart_133 (by decide) (fun q133 => ?_) (fun q133 => ?_)
      · exact absurd q133 q86
      · refine z_iconst (v := 3) C dX9_depart_136 (by decide) ?_
        refine z_goto (tgt := 141) C dX9_depart_137 (by decide) ?_
        refine z_putI C dX9_depart_141 zf_X9_174 (zkc i) (by omega) ?_
        refine zs_vret C E dX9_depart_144 ?_ rfl
        first
          | (show zu (zd4 iv i ch) _ 5 1 = _; unfold zdep; rw [if_pos q86]; done)
          | (show zu (zd4 iv i ch) _ 5 3 = _; unfold zdep; rw [if_neg q86]; done)

/-- what a guard sees -/
def zlook (iv : zI) (i : Nat) (fr : Int32) : zI := zu (zu (zu (zu (zu (zu (zu (zu (zu (zu iv 28 0 (iv 0 10 - iv (91 + 3 * i) 11)) 28 1 (iv (91 + 3 * i) 1)) 28 2 (iv 4 (zsg iv i).toNatClampNeg)) 28 3 (iv 2 (zsg iv i).toNatClampNeg)) 28 4 (if iv (91 + 3 * i) 0 = 1 then 1 else 0)) 28 5 (if iv (91 + 3 * i) 0 = 2 then 1 else 0)) 28 6 fr) 28 7 (zsv iv i)) 28 8 (iv (91 + 3 * i) 6)) 28 9 (iv (91 + 3 * i) 10)

theorem zroad_2 {inns : Int} {mi cl mu ma oa : Nat → Int32} {k : Int32} (h : 0 ≤ k.toInt ∧ k.toInt < inns - 1) : zroad inns mi cl mu ma oa k 2 = mu k.toNatClampNeg := by
  unfold zroad
  rw [if_neg (by decide), if_neg (fun z => z h), if_neg (by decide), if_neg (by decide), if_pos rfl]
theorem zroad_0 {inns : Int} {mi cl mu ma oa : Nat → Int32} {k : Int32} (h : 0 ≤ k.toInt ∧ k.toInt < inns - 1) : zroad inns mi cl mu ma oa k 0 = mi k.toNatClampNeg := by
  unfold zroad
  rw [if_neg (by decide), if_neg (fun z => z h), if_pos rfl]

set_option maxHeartbeats 1000000 in
set_option maxRecDepth 4000 in
theorem c_look (n : Nat) (iv : zI) (lw : zG) (i : Nat) (hi : i < n) (hn : n ≤ 8) (fr : Int32) (hI : 2 ≤ (iv 1 0).toInt ∧ (iv 1 0).toInt ≤ 8) (hs : 0 ≤ (zsg iv i).toInt ∧ (zsg iv i).toInt < (iv 1 0).toInt - 1) (hT : (iv 7 0).toInt ≤ 20) (ht : 0 ≤ (iv (91 + 3 * i) 7).toInt ∧ (iv (91 + 3 * i) 7).toInt < (iv 7 0).toInt) : zMv yX9_look cX9_look 4 none 2 [.ref 0, .ref (91 + 3 * i), .int fr] n iv lw (zlook iv i fr) lw := by
  refine zM.of (by decide) (Nat.le_of_ble_eq_true rfl) (fun X C E => ?_)
  change zJs X n 4 0 [some (.ref 0), some (.ref (91 + 3 * i)), some (.int fr), none] [] iv lw
  refine z_aload_n C dX9_look_0 rfl ?_
  refine zs_callVi C dX9_look_1 zm_X9_245 zyX0_nextStage (c_nextStage _ _ _ i hi hn) zc_0 rfl (zkc i) (by omega) (by decide) rfl rfl (Nat.le_of_ble_eq_true rfl) (by decide) (by decide) ?_
  show zJs X n 4 4 _ (.int (zsg iv i) :: []) iv lw
  have hnc : 91 + 3 * i ≠ 28 := by omega
  refine z_istore_n (lv' := [some (.ref 0), some (.ref (91 + 3 * i)), some (.int fr), some (.int _)]) C dX9_look_4 (by decide) rfl ?_
  refine z_aload_n C dX9_look_5 rfl ?_
  refine zs_getR C dX9_look_6 zf_X9_58 zk_0 (by decide) (zr_0_7 n) ?_
  refine z_iconst (v := 0) C dX9_look_9 (by decide) ?_
  refine z_aload_n C dX9_look_10 rfl ?_
  refine z_getI C dX9_look_11 zf_X9_115 zk_0 (by decide) ?_
  refine z_aload_n C dX9_look_14 rfl ?_
  refine z_getI C dX9_look_15 zf_X9_223 (zkc i) (by omega) ?_
  refine z_isub C dX9_look_18 ?_
  refine z_iast C dX9_look_19 zk_28 (by decide) ?_ ?_
  · exact vp_in_iff.mpr (by decide)
  refine z_aload_n C dX9_look_20 rfl ?_
  refine zs_getR C dX9_look_21 zf_X9_58 zk_0 (by decide) (zr_0_7 n) ?_
  refine z_iconst (v := 1) C dX9_look_24 (by decide) ?_
  refine z_aload_n C dX9_look_25 rfl ?_
  refine z_getI C dX9_look_26 zf_X9_248 (zkc i) (by omega) ?_
  simp only [zu_n _ _ _ hnc]
  refine z_iast C dX9_look_29 zk_28 (by decide) ?_ ?_
  · exact vp_in_iff.mpr (by decide)
  refine z_aload_n C dX9_look_30 rfl ?_
  refine zs_getR C dX9_look_31 zf_X9_58 zk_0 (by decide) (zr_0_7 n) ?_
  refine z_iconst (v := 2) C dX9_look_34 (by decide) ?_
  refine z_aload_n C dX9_look_35 rfl ?_
  refine zs_getR C dX9_look_36 zf_X9_10 zk_0 (by decide) (zr_0_0 n) ?_
  refine z_iload_n C dX9_look_39 rfl ?_
  refine z_iconst (v := 2) C dX9_look_40 (by decide) ?_
  refine zs_callVi C dX9_look_41 zm_X9_103 zyX2_tell (c_htell _ _ _ (zsg iv i) _ hI) zc_2 rfl zk_1 (by decide) (by decide) rfl rfl (Nat.le_of_ble_eq_true rfl) (by decide) (by decide) ?_
  refine z_eqi (zroad_2 hs) ?_
  refine z_iast C dX9_look_44 zk_28 (by decide) ?_ ?_
  · exact vp_in_iff.mpr (by decide)
  refine z_aload_n C dX9_look_45 rfl ?_
  refine zs_getR C dX9_look_46 zf_X9_58 zk_0 (by decide) (zr_0_7 n) ?_
  refine z_iconst (v := 3) C dX9_look_49 (by decide) ?_
  refine z_aload_n C dX9_look_50 rfl ?_
  refine zs_getR C dX9_look_51 zf_X9_10 zk_0 (by decide) (zr_0_0 n) ?_
  refine z_iload_n C dX9_look_54 rfl ?_
  refine z_iconst (v := 0) C dX9_look_55 (by decide) ?_
  refine zs_callVi C dX9_look_56 zm_X9_103 zyX2_tell (c_htell _ _ _ (zsg iv i) _ hI) zc_2 rfl zk_1 (by decide) (by decide) rfl rfl (Nat.le_of_ble_eq_true rfl) (by decide) (by decide) ?_
  refine z_eqi (zroad_0 hs) ?_
  refine z_iast C dX9_look_59 zk_28 (by decide) ?_ ?_
  · exact vp_in_iff.mpr (by decide)
  refine z_aload_n C dX9_look_60 rfl ?_
  refine zs_getR C dX9_look_61 zf_X9_58 zk_0 (by decide) (zr_0_7 n) ?_
  refine z_iconst (v := 4) C dX9_look_64 (by decide) ?_
  refine z_aload_n C dX9_look_65 rfl ?_
  refine z_getI C dX9_look_66 zf_X9_251 (zkc i) (by omega) ?_
  refine z_iconst (v := 1) C dX9_look_69 (by decide) ?_
  refine z_icmp_ne (tgt := 77) C dX9_look_70 (by decide) (fun q70 => ?_) (fun q70 => ?_)
  · simp only [zu_n _ _ _ hnc] at q70
    refine z_iconst (v := 0) C dX9_look_77 (by decide) ?_
    refine z_iast C dX9_look_78 zk_28 (by decide) ?_ ?_
    · exact vp_in_iff.mpr (by decide)
    refine z_aload_n C dX9_look_79 rfl ?_
    refine zs_getR C dX9_look_80 zf_X9_58 zk_0 (by decide) (zr_0_7 n) ?_
    refine z_iconst (v := 5) C dX9_look_83 (by decide) ?_
    refine z_aload_n C dX9_look_84 rfl ?_
    refine z_getI C dX9_look_85 zf_X9_251 (zkc i) (by omega) ?_
    refine z_iconst (v := 2) C dX9_look_88 (by decide) ?_
    refine z_icmp_ne (tgt := 96) C dX9_look_89 (by decide) (fun q89 => ?_) (fun q89 => ?_)
    · simp only [zu_n _ _ _ hnc] at q89
      refine z_iconst (v := 0) C dX9_look_96 (by decide) ?_
      refine z_iast C dX9_look_97 zk_28 (by decide) ?_ ?_
      · exact vp_in_iff.mpr (by decide)
      refine z_aload_n C dX9_look_98 rfl ?_
      refine zs_getR C dX9_look_99 zf_X9_58 zk_0 (by decide) (zr_0_7 n) ?_
      refine z_bipush (v := 6) C dX9_look_102 (by decide) ?_
      refine z_iload_n C dX9_look_104 rfl ?_
      refine z_iast C dX9_look_105 zk_28 (by decide) ?_ ?_
      · exact vp_in_iff.mpr (by decide)
      refine z_aload_n C dX9_look_106 rfl ?_
      refine zs_getR C dX9_look_107 zf_X9_58 zk_0 (by decide) (zr_0_7 n) ?_
      refine z_bipush (v := 7) C dX9_look_110 (by decide) ?_
      refine z_aload_n C dX9_look_112 rfl ?_
      refine zs_getR C dX9_look_113 zf_X9_19 zk_0 (by decide) (zr_0_1 n) ?_
      refine z_aload_n C dX9_look_116 rfl ?_
      refine z_getI C dX9_look_117 zf_X9_213 (zkc i) (by omega) ?_
      refine zs_callVi C dX9_look_120 zm_X9_235 zyX7_strengthOf (c_strengthOf _ _ _ _ (by exact hT)) zc_7 rfl zk_7 (by decide) (by decide) rfl rfl (Nat.le_of_ble_eq_true rfl) (by decide) (by decide) ?_
      rw [if_pos (by simp only [zu_n _ _ _ hnc]; exact ht)]
      refine z_iast C dX9_look_123 zk_28 (by decide) ?_ ?_
      · exact vp_in_iff.mpr (by decide)
      refine z_aload_n C dX9_look_124 rfl ?_
      refine zs_getR C dX9_look_125 zf_X9_58 zk_0 (by decide) (zr_0_7 n) ?_
      refine z_bipush (v := 8) C dX9_look_128 (by decide) ?_
      refine z_aload_n C dX9_look_130 rfl ?_
      refine z_getI C dX9_look_131 zf_X9_200 (zkc i) (by omega) ?_
      simp only [zu_n _ _ _ hnc]
      refine z_iast C dX9_look_134 zk_28 (by decide) ?_ ?_
      · exact vp_in_iff.mpr (by decide)
      refine z_aload_n C dX9_look_135 rfl ?_
      refine zs_getR C dX9_look_136 zf_X9_58 zk_0 (by decide) (zr_0_7 n) ?_
      refine z_bipush (v := 9) C dX9_look_139 (by decide) ?_
      refine z_aload_n C dX9_look_141 rfl ?_
      refine z_getI C dX9_look_142 zf_X9_206 (zkc i) (by omega) ?_
      simp only [zu_n _ _ _ hnc]
      refine z_iast C dX9_look_145 zk_28 (by decide) ?_ ?_
      · exact vp_in_iff.mpr (by decide)
      refine zs_vret C E dX9_look_146 ?_ rfl
      unfold zlook
      rw [if_neg q70]
      rw [if_neg q89]
      try simp only [zu_n _ _ _ hnc]
      rfl
    · simp only [zu_n _ _ _ hnc] at q89
      refine z_iconst (v := 1) C dX9_look_92 (by decide) ?_
      refine z_goto (tgt := 97) C dX9_look_93 (by decide) ?_
      refine z_iast C dX9_look_97 zk_28 (by decide) ?_ ?_
      · exact vp_in_iff.mpr (by decide)
      refine z_aload_n C dX9_look_98 rfl ?_
      refine zs_getR C dX9_look_99 zf_X9_58 zk_0 (by decide) (zr_0_7 n) ?_
      refine z_bipush (v := 6) C dX9_look_102 (by decide) ?_
      refine z_iload_n C dX9_look_104 rfl ?_
      refine z_iast C dX9_look_105 zk_28 (by decide) ?_ ?_
      · exact vp_in_iff.mpr (by decide)
      refine z_aload_n C dX9_look_106 rfl ?_
      refine zs_getR C dX9_look_107 zf_X9_58 zk_0 (by decide) (zr_0_7 n) ?_
      refine z_bipush (v := 7) C dX9_look_110 (by decide) ?_
      refine z_aload_n C dX9_look_112 rfl ?_
      refine zs_getR C dX9_look_113 zf_X9_19 zk_0 (by decide) (zr_0_1 n) ?_
      refine z_aload_n C dX9_look_116 rfl ?_
      refine z_getI C dX9_look_117 zf_X9_213 (zkc i) (by omega) ?_
      refine zs_callVi C dX9_look_120 zm_X9_235 zyX7_strengthOf (c_strengthOf _ _ _ _ (by exact hT)) zc_7 rfl zk_7 (by decide) (by decide) rfl rfl (Nat.le_of_ble_eq_true rfl) (by decide) (by decide) ?_
      rw [if_pos (by simp only [zu_n _ _ _ hnc]; exact ht)]
      refine z_iast C dX9_look_123 zk_28 (by decide) ?_ ?_
      · exact vp_in_iff.mpr (by decide)
      refine z_aload_n C dX9_look_124 rfl ?_
      refine zs_getR C dX9_look_125 zf_X9_58 zk_0 (by decide) (zr_0_7 n) ?_
      refine z_bipush (v := 8) C dX9_look_128 (by decide) ?_
      refine z_aload_n C dX9_look_130 rfl ?_
      refine z_getI C dX9_look_131 zf_X9_200 (zkc i) (by omega) ?_
      simp only [zu_n _ _ _ hnc]
      refine z_iast C dX9_look_134 zk_28 (by decide) ?_ ?_
      · exact vp_in_iff.mpr (by decide)
      refine z_aload_n C dX9_look_135 rfl ?_
      refine zs_getR C dX9_look_136 zf_X9_58 zk_0 (by decide) (zr_0_7 n) ?_
      refine z_bipush (v := 9) C dX9_look_139 (by decide) ?_
      refine z_aload_n C dX9_look_141 rfl ?_
      refine z_getI C dX9_look_142 zf_X9_206 (zkc i) (by omega) ?_
      simp only [zu_n _ _ _ hnc]
      refine z_iast C dX9_look_145 zk_28 (by decide) ?_ ?_
      · exact vp_in_iff.mpr (by decide)
      refine zs_vret C E dX9_look_146 ?_ rfl
      unfold zlook
      rw [if_neg q70]
      rw [if_pos q89]
      try simp only [zu_n _ _ _ hnc]
      rfl
  · simp only [zu_n _ _ _ hnc] at q70
    refine z_iconst (v := 1) C dX9_look_73 (by decide) ?_
    refine z_goto (tgt := 78) C dX9_look_74 (by decide) ?_
    refine z_iast C dX9_look_78 zk_28 (by decide) ?_ ?_
    · exact vp_in_iff.mpr (by decide)
    refine z_aload_n C dX9_look_79 rfl ?_
    refine zs_getR C dX9_look_80 zf_X9_58 zk_0 (by decide) (zr_0_7 n) ?_
    refine z_iconst (v := 5) C dX9_look_83 (by decide) ?_
    refine z_aload_n C dX9_look_84 rfl ?_
    refine z_getI C dX9_look_85 zf_X9_251 (zkc i) (by omega) ?_
    refine z_iconst (v := 2) C dX9_look_88 (by decide) ?_
    refine z_icmp_ne (tgt := 96) C dX9_look_89 (by decide) (fun q89 => ?_) (fun q89 => ?_)
    · simp only [zu_n _ _ _ hnc] at q89
      refine z_iconst (v := 0) C dX9_look_96 (by decide) ?_
      refine z_iast C dX9_look_97 zk_28 (by decide) ?_ ?_
      · exact vp_in_iff.mpr (by decide)
      refine z_aload_n C dX9_look_98 rfl ?_
      refine zs_getR C dX9_look_99 zf_X9_58 zk_0 (by decide) (zr_0_7 n) ?_
      refine z_bipush (v := 6) C dX9_look_102 (by decide) ?_
      refine z_iload_n C dX9_look_104 rfl ?_
      refine z_iast C dX9_look_105 zk_28 (by decide) ?_ ?_
      · exact vp_in_iff.mpr (by decide)
      refine z_aload_n C dX9_look_106 rfl ?_
      refine zs_getR C dX9_look_107 zf_X9_58 zk_0 (by decide) (zr_0_7 n) ?_
      refine z_bipush (v := 7) C dX9_look_110 (by decide) ?_
      refine z_aload_n C dX9_look_112 rfl ?_
      refine zs_getR C dX9_look_113 zf_X9_19 zk_0 (by decide) (zr_0_1 n) ?_
      refine z_aload_n C dX9_look_116 rfl ?_
      refine z_getI C dX9_look_117 zf_X9_213 (zkc i) (by omega) ?_
      refine zs_callVi C dX9_look_120 zm_X9_235 zyX7_strengthOf (c_strengthOf _ _ _ _ (by exact hT)) zc_7 rfl zk_7 (by decide) (by decide) rfl rfl (Nat.le_of_ble_eq_true rfl) (by decide) (by decide) ?_
      rw [if_pos (by simp only [zu_n _ _ _ hnc]; exact ht)]
      refine z_iast C dX9_look_123 zk_28 (by decide) ?_ ?_
      · exact vp_in_iff.mpr (by decide)
      refine z_aload_n C dX9_look_124 rfl ?_
      refine zs_getR C dX9_look_125 zf_X9_58 zk_0 (by decide) (zr_0_7 n) ?_
      refine z_bipush (v := 8) C dX9_look_128 (by decide) ?_
      refine z_aload_n C dX9_look_130 rfl ?_
      refine z_getI C dX9_look_131 zf_X9_200 (zkc i) (by omega) ?_
      simp only [zu_n _ _ _ hnc]
      refine z_iast C dX9_look_134 zk_28 (by decide) ?_ ?_
      · exact vp_in_iff.mpr (by decide)
      refine z_aload_n C dX9_look_135 rfl ?_
      refine zs_getR C dX9_look_136 zf_X9_58 zk_0 (by decide) (zr_0_7 n) ?_
      refine z_bipush (v := 9) C dX9_look_139 (by decide) ?_
      refine z_aload_n C dX9_look_141 rfl ?_
      refine z_getI C dX9_look_142 zf_X9_206 (zkc i) (by omega) ?_
      simp only [zu_n _ _ _ hnc]
      refine z_iast C dX9_look_145 zk_28 (by decide) ?_ ?_
      · exact vp_in_iff.mpr (by decide)
      refine zs_vret C E dX9_look_146 ?_ rfl
      unfold zlook
      rw [if_pos q70]
      rw [if_neg q89]
      try simp only [zu_n _ _ _ hnc]
      rfl
    · simp only [zu_n _ _ _ hnc] at q89
      exact absurd (q70.symm.trans q89) (by decide)
