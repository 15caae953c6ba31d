set_option maxRecDepth 4000 in
theorem x_told1 (n : Nat) (iv : zI) (lw : zG) (hc : iv 0 3 = nI n) (hn : n ≤ 8) (i : Nat) (hi : i < n) (wh : Int32) (hI : 2 ≤ (iv 1 0).toInt ∧ (iv 1 0).toInt ≤ 8) (a d : Nat) (hL : (zlo (iv (91 + 3 * i) 2) wh) = nI a) (hH : (zhi (iv (91 + 3 * i) 2) wh) = nI (a + d)) (hB : ((a + d : Nat) : Int) < (iv 1 0).toInt) (hp : ((zlo (iv (91 + 3 * i) 2) (iv (91 + 3 * i) 3)).toInt ≤ wh.toInt ∧ wh.toInt ≤ (zhi (iv (91 + 3 * i) 2) (iv (91 + 3 * i) 3)).toInt)) : zMi yX9_told cX9_told 4 (some .int) 3 [.ref 0, .int (nI i), .int wh] n iv lw (zacc (iv (91 + 3 * i) 4) (fun j => iv 2 (a + j) * zpace (iv (91 + 3 * i) 0) + 2 * iv 3 (a + j)) d + 2 * (if 0 < nI (a + d) - nI a - 1 then nI (a + d) - nI a - 1 else 0)) iv lw := by
  refine zM.of (by decide) (Nat.le_of_ble_eq_true rfl) (fun X C E => ?_)
  change zJs X n 4 0 [some (.ref 0), some (.int (nI i)), some (.int wh), none] [] iv lw
  refine z_aload_n C dX9_told_0 rfl ?_
  refine z_iload_n C dX9_told_1 rfl ?_
  refine zs_callVR C dX9_told_2 zm_X9_122 zyX9_coachOf (c_coachOf1 n _ _ hc hn i hi) zc_9 rfl zk_0 (by decide) (by decide) rfl rfl (Nat.le_of_ble_eq_true rfl) (by decide) (by decide) ?_
  refine z_astore_n (lv' := [some (.ref 0), some (.int _), some (.int wh), some (.ref (91 + 3 * i))]) C dX9_told_5 (by decide) rfl ?_
  refine z_aload_n C dX9_told_6 rfl ?_
  refine z_ifnull C dX9_told_7 ?_
  refine z_aload_n C dX9_told_10 rfl ?_
  refine z_iload_n C dX9_told_11 rfl ?_
  refine zs_callVi C dX9_told_12 zm_X9_132 zyX0_passesInn (c_passesInn _ _ _ i hi hn _) zc_0 rfl (zkc i) (by omega) (by decide) rfl rfl (Nat.le_of_ble_eq_true rfl) (by decide) (by decide) ?_
  refine zb_if_ne (tgt := 20) C dX9_told_15 (by decide) (fun q15 => ?_) (fun q15 => ?_)
  · refine z_aload_n C dX9_told_20 rfl ?_
    refine z_iload_n C dX9_told_21 rfl ?_
    refine z_aload_n C dX9_told_22 rfl ?_
    refine zs_getR C dX9_told_23 zf_X9_10 zk_0 (by decide) (zr_0_0 n) ?_
    refine zs_callVi C dX9_told_26 zm_X9_135 zyX0_toldAt (c_toldAt _ _ _ i hi hn _ hI a d hL hH hB) zc_0 rfl (zkc i) (by omega) (by decide) rfl rfl (Nat.le_of_ble_eq_true rfl) (by decide) (by decide) ?_
    refine zs_iret C E dX9_told_29 rfl ?_ ?_ ?_
    · rfl
    · rfl
    · rfl
  · exact absurd hp q15

set_option maxRecDepth 4000 in
theorem x_told2 (n : Nat) (iv : zI) (lw : zG) (hc : iv 0 3 = nI n) (hn : n ≤ 8) (i : Nat) (hi : i < n) (wh : Int32) (hp : ¬ ((zlo (iv (91 + 3 * i) 2) (iv (91 + 3 * i) 3)).toInt ≤ wh.toInt ∧ wh.toInt ≤ (zhi (iv (91 + 3 * i) 2) (iv (91 + 3 * i) 3)).toInt)) : zMi yX9_told cX9_told 4 (some .int) 2 [.ref 0, .int (nI i), .int wh] n iv lw (-1) iv lw := by
  refine zM.of (by decide) (Nat.le_of_ble_eq_true rfl) (fun X C E => ?_)
  change zJs X n 4 0 [some (.ref 0), some (.int (nI i)), some (.int wh), none] [] iv lw
  refine z_aload_n C dX9_told_0 rfl ?_
  refine z_iload_n C dX9_told_1 rfl ?_
  refine zs_callVR C dX9_told_2 zm_X9_122 zyX9_coachOf (c_coachOf1 n _ _ hc hn i hi) zc_9 rfl zk_0 (by decide) (by decide) rfl rfl (Nat.le_of_ble_eq_true rfl) (by decide) (by decide) ?_
  refine z_astore_n (lv' := [some (.ref 0), some (.int _), some (.int wh), some (.ref (91 + 3 * i))]) C dX9_told_5 (by decide) rfl ?_
  refine z_aload_n C dX9_told_6 rfl ?_
  refine z_ifnull C dX9_told_7 ?_
  refine z_aload_n C dX9_told_10 rfl ?_
  refine z_iload_n C dX9_told_11 rfl ?_
  refine zs_callVi C dX9_told_12 zm_X9_132 zyX0_passesInn (c_passesInn _ _ _ i hi hn _) zc_0 rfl (zkc i) (by omega) (by decide) rfl rfl (Nat.le_of_ble_eq_true rfl) (by decide) (by decide) ?_
  refine zb_if_ne (tgt := 20) C dX9_told_15 (by decide) (fun q15 => ?_) (fun q15 => ?_)
  · exact absurd q15 hp
  · refine z_iconst (v := (-1)) C dX9_told_18 (by decide) ?_
    refine zs_iret C E dX9_told_19 rfl ?_ ?_ ?_
    · rfl
    · rfl
    · rfl

set_option maxRecDepth 4000 in
theorem x_told0 (n : Nat) (iv : zI) (lw : zG) (hc : iv 0 3 = nI n) (hn : n ≤ 8) (co : Int32) (hv : ¬ (0 ≤ co.toInt ∧ co.toInt < n)) (wh : Int32) : zMi yX9_told cX9_told 4 (some .int) 1 [.ref 0, .int co, .int wh] n iv lw (-1) iv lw := by
  refine zM.of (by decide) (Nat.le_of_ble_eq_true rfl) (fun X C E => ?_)
  change zJs X n 4 0 [some (.ref 0), some (.int co), some (.int wh), none] [] iv lw
  refine z_aload_n C dX9_told_0 rfl ?_
  refine z_iload_n C dX9_told_1 rfl ?_
  refine zs_callVN C dX9_told_2 zm_X9_122 zyX9_coachOf (c_coachOf0 n _ _ hc hn co hv) zc_9 rfl zk_0 (by decide) (by decide) rfl rfl (Nat.le_of_ble_eq_true rfl) (by decide) (by decide) ?_
  refine z_astore_nN (lv' := [some (.ref 0), some (.int co), some (.int wh), some .null]) C dX9_told_5 (by decide) rfl ?_
  refine z_aload_nN C dX9_told_6 rfl ?_
  refine z_ifnullN (tgt := 18) C dX9_told_7 (by decide) ?_
  refine z_iconst (v := (-1)) C dX9_told_18 (by decide) ?_
  refine zs_iret C E dX9_told_19 rfl ?_ ?_ ?_
  · rfl
  · rfl
  · rfl

set_option maxRecDepth 4000 in
theorem m_told1U (n : Nat) (iv : zI) (lw : zG) (hc : iv 41 11 = nI n) (hn : n ≤ 8) (i : Nat) (hi : i < n) (b a d : Nat) (hf : iv 52 i = nI a) (hU : (iv 52 i).toInt < (iv 53 i).toInt) (hb : a + d = b) (hb2 : b ≤ 8) (hp : (0 ≤ (nI b).toInt ∧ (nI b).toInt < (iv 41 1).toInt) ∧ (((iv 52 i).toInt < (iv 53 i).toInt ∧ (iv 52 i).toInt ≤ (nI b).toInt ∧ (nI b).toInt ≤ (iv 53 i).toInt) ∨ (¬ (iv 52 i).toInt < (iv 53 i).toInt ∧ (nI b).toInt ≤ (iv 52 i).toInt ∧ (iv 53 i).toInt ≤ (nI b).toInt))) : zMi yX10_told cX10_told 3 (some .int) 3 [.ref 41, .int (nI i), .int (nI b)] n iv lw (zacc (iv 54 i) (fun j => iv 42 (a + j) * zpace (iv 50 i) + 2 * iv 43 (a + j) + (if j = 0 then 0 else 2)) d) iv lw := by
  refine zM.of (by decide) (Nat.le_of_ble_eq_true rfl) (fun X C E => ?_)
  change zJs X n 3 0 [some (.ref 41), some (.int (nI i)), some (.int (nI b))] [] iv lw
  refine z_aload_n C dX10_told_0 rfl ?_
  refine z_iload_n C dX10_told_1 rfl ?_
  refine zs_callVi C dX10_told_2 zm_X10_202 zyX10_isCoach (m_isCoach _ _ _ _) zc_10 rfl zk_41 (by decide) (by decide) rfl rfl (Nat.le_of_ble_eq_true rfl) (by decide) (by decide) ?_
  refine zb_if_eq (tgt := 34) C dX10_told_5 (by decide) (fun q5 => ?_) (fun q5 => ?_)
  · exfalso; apply q5; rw [nI_toInt (by omega), zt_nI hc (by omega)]; omega
  · refine z_aload_n C dX10_told_8 rfl ?_
    refine z_iload_n C dX10_told_9 rfl ?_
    refine zs_callVi C dX10_told_10 zm_X10_180 zyX10_isInn (m_isInn _ _ _ _) zc_10 rfl zk_41 (by decide) (by decide) rfl rfl (Nat.le_of_ble_eq_true rfl) (by decide) (by decide) ?_
    refine zb_if_eq (tgt := 34) C dX10_told_13 (by decide) (fun q13 => ?_) (fun q13 => ?_)
    · exact absurd hp.1 q13
    · refine z_aload_n C dX10_told_16 rfl ?_
      refine z_iload_n C dX10_told_17 rfl ?_
      refine z_iload_n C dX10_told_18 rfl ?_
      refine zs_callVi C dX10_told_19 zm_X10_205 zyX10_isOnWay (m_isOnWay _ _ _ i (by omega) _) zc_10 rfl zk_41 (by decide) (by decide) rfl rfl (Nat.le_of_ble_eq_true rfl) (by decide) (by decide) ?_
      refine zb_if_eq (tgt := 34) C dX10_told_22 (by decide) (fun q22 => ?_) (fun q22 => ?_)
      · exact absurd hp.2 q22
      · refine z_aload_n C dX10_told_25 rfl ?_
        refine z_iload_n C dX10_told_26 rfl ?_
        refine z_iload_n C dX10_told_27 rfl ?_
        refine zs_callVi C dX10_told_28 zm_X10_209 zyX10_toldAt (m_toldAtU _ _ _ i (by omega) b a d hf hU hb hb2) zc_10 rfl zk_41 (by decide) (by decide) rfl rfl (Nat.le_of_ble_eq_true rfl) (by decide) (by decide) ?_
        refine z_goto (tgt := 35) C dX10_told_31 (by decide) ?_
        refine zs_iret C E dX10_told_35 rfl ?_ ?_ ?_
        · rfl
        · rfl
        · rfl

set_option maxRecDepth 4000 in
theorem m_told1D (n : Nat) (iv : zI) (lw : zG) (hc : iv 41 11 = nI n) (hn : n ≤ 8) (i : Nat) (hi : i < n) (b a d : Nat) (hf : iv 52 i = nI a) (hU : ¬ (iv 52 i).toInt < (iv 53 i).toInt) (hb : b + d = a) (hb2 : a ≤ 8) (hp : (0 ≤ (nI b).toInt ∧ (nI b).toInt < (iv 41 1).toInt) ∧ (((iv 52 i).toInt < (iv 53 i).toInt ∧ (iv 52 i).toInt ≤ (nI b).toInt ∧ (nI b).toInt ≤ (iv 53 i).toInt) ∨ (¬ (iv 52 i).toInt < (iv 53 i).toInt ∧ (nI b).toInt ≤ (iv 52 i).toInt ∧ (iv 53 i).toInt ≤ (nI b).toInt))) : zMi yX10_told cX10_told 3 (some .int) 3 [.ref 41, .int (nI i), .int (nI b)] n iv lw (zacc (iv 54 i) (fun j => iv 42 (a - (j + 1)) * zpace (iv 50 i) + 2 * iv 43 (a - (j + 1)) + (if j = 0 then 0 else 2)) d) iv lw := by
  refine zM.of (by decide) (Nat.le_of_ble_eq_true rfl) (fun X C E => ?_)
  change zJs X n 3 0 [some (.ref 41), some (.int (nI i)), some (.int (nI b))] [] iv lw
  refine z_aload_n C dX10_told_0 rfl ?_
  refine z_iload_n C dX10_told_1 rfl ?_
  refine zs_callVi C dX10_told_2 zm_X10_202 zyX10_isCoach (m_isCoach _ _ _ _) zc_10 rfl zk_41 (by decide) (by decide) rfl rfl (Nat.le_of_ble_eq_true rfl) (by decide) (by decide) ?_
  refine zb_if_eq (tgt := 34) C dX10_told_5 (by decide) (fun q5 => ?_) (fun q5 => ?_)
  · exfalso; apply q5; rw [nI_toInt (by omega), zt_nI hc (by omega)]; omega
  · refine z_aload_n C dX10_told_8 rfl ?_
    refine z_iload_n C dX10_told_9 rfl ?_
    refine zs_callVi C dX10_told_10 zm_X10_180 zyX10_isInn (m_isInn _ _ _ _) zc_10 rfl zk_41 (by decide) (by decide) rfl rfl (Nat.le_of_ble_eq_true rfl) (by decide) (by decide) ?_
    refine zb_if_eq (tgt := 34) C dX10_told_13 (by decide) (fun q13 => ?_) (fun q13 => ?_)
    · exact absurd hp.1 q13
    · refine z_aload_n C dX10_told_16 rfl ?_
      refine z_iload_n C dX10_told_17 rfl ?_
      refine z_iload_n C dX10_told_18 rfl ?_
      refine zs_callVi C dX10_told_19 zm_X10_205 zyX10_isOnWay (m_isOnWay _ _ _ i (by omega) _) zc_10 rfl zk_41 (by decide) (by decide) rfl rfl (Nat.le_of_ble_eq_true rfl) (by decide) (by decide) ?_
      refine zb_if_eq (tgt := 34) C dX10_told_22 (by decide) (fun q22 => ?_) (fun q22 => ?_)
      · exact absurd hp.2 q22
      · refine z_aload_n C dX10_told_25 rfl ?_
        refine z_iload_n C dX10_told_26 rfl ?_
        refine z_iload_n C dX10_told_27 rfl ?_
        refine zs_callVi C dX10_told_28 zm_X10_209 zyX10_toldAt (m_toldAtD _ _ _ i (by omega) b a d hf hU hb hb2) zc_10 rfl zk_41 (by decide) (by decide) rfl rfl (Nat.le_of_ble_eq_true rfl) (by decide) (by decide) ?_
        refine z_goto (tgt := 35) C dX10_told_31 (by decide) ?_
        refine zs_iret C E dX10_told_35 rfl ?_ ?_ ?_
        · rfl
        · rfl
        · rfl

set_option maxRecDepth 4000 in
theorem m_told2 (n : Nat) (iv : zI) (lw : zG) (hc : iv 41 11 = nI n) (hn : n ≤ 8) (i : Nat) (hi : i < n) (wh : Int32) (hp : ¬ ((0 ≤ wh.toInt ∧ wh.toInt < (iv 41 1).toInt) ∧ (((iv 52 i).toInt < (iv 53 i).toInt ∧ (iv 52 i).toInt ≤ wh.toInt ∧ wh.toInt ≤ (iv 53 i).toInt) ∨ (¬ (iv 52 i).toInt < (iv 53 i).toInt ∧ wh.toInt ≤ (iv 52 i).toInt ∧ (iv 53 i).toInt ≤ wh.toInt)))) : zMi yX10_told cX10_told 3 (some .int) 2 [.ref 41, .int (nI i), .int wh] n iv lw (-1) iv lw := by
  refine zM.of (by decide) (Nat.le_of_ble_eq_true rfl) (fun X C E => ?_)
  change zJs X n 3 0 [some (.ref 41), some (.int (nI i)), some (.int wh)] [] iv lw
  refine z_aload_n C dX10_told_0 rfl ?_
  refine z_iload_n C dX10_told_1 rfl ?_
  refine zs_callVi C dX10_told_2 zm_X10_202 zyX10_isCoach (m_isCoach _ _ _ _) zc_10 rfl zk_41 (by decide) (by decide) rfl rfl (Nat.le_of_ble_eq_true rfl) (by decide) (by decide) ?_
  refine zb_if_eq (tgt := 34) C dX10_told_5 (by decide) (fun q5 => ?_) (fun q5 => ?_)
  · exfalso; apply q5; rw [nI_toInt (by omega), zt_nI hc (by omega)]; omega
  · refine z_aload_n C dX10_told_8 rfl ?_
    refine z_iload_n C dX10_told_9 rfl ?_
    refine zs_callVi C dX10_told_10 zm_X10_180 zyX10_isInn (m_isInn _ _ _ _) zc_10 rfl zk_41 (by decide) (by decide) rfl rfl (Nat.le_of_ble_eq_true rfl) (by decide) (by decide) ?_
    refine zb_if_eq (tgt := 34) C dX10_told_13 (by decide) (fun q13 => ?_) (fun q13 => ?_)
    · refine z_iconst (v := (-1)) C dX10_told_34 (by decide) ?_
      refine zs_iret C E dX10_told_35 rfl ?_ ?_ ?_
      · rfl
      · rfl
      · rfl
    · refine z_aload_n C dX10_told_16 rfl ?_
      refine z_iload_n C dX10_told_17 rfl ?_
      refine z_iload_n C dX10_told_18 rfl ?_
      refine zs_callVi C dX10_told_19 zm_X10_205 zyX10_isOnWay (m_isOnWay _ _ _ i (by omega) _) zc_10 rfl zk_41 (by decide) (by decide) rfl rfl (Nat.le_of_ble_eq_true rfl) (by decide) (by decide) ?_
      refine zb_if_eq (tgt := 34) C dX10_told_22 (by decide) (fun q22 => ?_) (fun q22 => ?_)
      · refine z_iconst (v := (-1)) C dX10_told_34 (by decide) ?_
        refine zs_iret C E dX10_told_35 rfl ?_ ?_ ?_
        · rfl
        · rfl
        · rfl
      · exact absurd ⟨q13, q22⟩ hp

set_option maxRecDepth 4000 in
theorem m_told0 (n : Nat) (iv : zI) (lw : zG) (co wh : Int32) (hv : ¬ (0 ≤ co.toInt ∧ co.toInt < (iv 41 11).toInt)) : zMi yX10_told cX10_told 3 (some .int) 1 [.ref 41, .int co, .int wh] n iv lw (-1) iv lw := by
  refine zM.of (by decide) (Nat.le_of_ble_eq_true rfl) (fun X C E => ?_)
  change zJs X n 3 0 [some (.ref 41), some (.int co), some (.int wh)] [] iv lw
  refine z_aload_n C dX10_told_0 rfl ?_
  refine z_iload_n C dX10_told_1 rfl ?_
  refine zs_callVi C dX10_told_2 zm_X10_202 zyX10_isCoach (m_isCoach _ _ _ _) zc_10 rfl zk_41 (by decide) (by decide) rfl rfl (Nat.le_of_ble_eq_true rfl) (by decide) (by decide) ?_
  refine zb_if_eq (tgt := 34) C dX10_told_5 (by decide) (fun q5 => ?_) (fun q5 => ?_)
  · refine z_iconst (v := (-1)) C dX10_told_34 (by decide) ?_
    refine zs_iret C E dX10_told_35 rfl ?_ ?_ ?_
    · rfl
    · rfl
    · rfl
  · exact absurd q5 hv

/-- all stages from l on, d of them, have a seat left -/
def zroom (se : Int32) (f : Nat → Int32) (l : Nat) : Nat → Prop
  | 0 => True
  | d + 1 => (f l).toInt < se.toInt ∧ zroom se f (l + 1) d

set_option maxRecDepth 4000 in
theorem x_book2 (n : Nat) (iv : zI) (lw : zG) (hc : iv 0 3 = nI n) (hn : n ≤ 8) (i : Nat) (hi : i < n) (a b : Int32) (hp : ¬ (((zlo (iv (91 + 3 * i) 2) (iv (91 + 3 * i) 3)).toInt ≤ a.toInt ∧ a.toInt ≤ (zhi (iv (91 + 3 * i) 2) (iv (91 + 3 * i) 3)).toInt) ∧ ((zlo (iv (91 + 3 * i) 2) (iv (91 + 3 * i) 3)).toInt ≤ b.toInt ∧ b.toInt ≤ (zhi (iv (91 + 3 * i) 2) (iv (91 + 3 * i) 3)).toInt) ∧ (((iv (91 + 3 * i) 2).toInt < (iv (91 + 3 * i) 3).toInt ∧ a.toInt < b.toInt) ∨ (¬ (iv (91 + 3 * i) 2).toInt < (iv (91 + 3 * i) 3).toInt ∧ b.toInt < a.toInt)))) : zMi yX9_book cX9_book 8 (some .int) 3 [.ref 0, .int (nI i), .int a, .int b] n iv lw (-1) iv lw := by
  refine zM.of (by decide) (Nat.le_of_ble_eq_true rfl) (fun X C E => ?_)
  change zJs X n 8 0 [some (.ref 0), some (.int (nI i)), some (.int a), some (.int b), none, none, none, none] [] iv lw
  refine z_aload_n C dX9_book_0 rfl ?_
  refine z_iload_n C dX9_book_1 rfl ?_
  refine zs_callVR C dX9_book_2 zm_X9_122 zyX9_coachOf (c_coachOf1 n _ _ hc hn i hi) zc_9 rfl zk_0 (by decide) (by decide) rfl rfl (Nat.le_of_ble_eq_true rfl) (by decide) (by decide) ?_
  refine z_astore (lv' := [some (.ref 0), some (.int _), some (.int a), some (.int b), some (.ref (91 + 3 * i)), none, none, none]) C dX9_book_5 (by decide) rfl ?_
  refine z_aload C dX9_book_7 rfl ?_
  refine z_ifnull C dX9_book_9 ?_
  refine z_aload C dX9_book_12 rfl ?_
  refine z_iload_n C dX9_book_14 rfl ?_
  refine z_iload_n C dX9_book_15 rfl ?_
  refine zs_callVi C dX9_book_16 zm_X9_292 zyX0_goesBetween (c_goesBetween _ _ _ i hi hn _ _) zc_0 rfl (zkc i) (by omega) (by decide) rfl rfl (Nat.le_of_ble_eq_true rfl) (by decide) (by decide) ?_
  refine zb_if_ne (tgt := 24) C dX9_book_19 (by decide) (fun q19 => ?_) (fun q19 => ?_)
  · exact absurd q19 hp
  · refine z_iconst (v := (-1)) C dX9_book_22 (by decide) ?_
    refine zs_iret C E dX9_book_23 rfl ?_ ?_ ?_
    · rfl
    · rfl
    · rfl

set_option maxRecDepth 4000 in
theorem x_book0 (n : Nat) (iv : zI) (lw : zG) (hc : iv 0 3 = nI n) (hn : n ≤ 8) (co : Int32) (hv : ¬ (0 ≤ co.toInt ∧ co.toInt < n)) (a b : Int32) : zMi yX9_book cX9_book 8 (some .int) 1 [.ref 0, .int co, .int a, .int b] n iv lw (-1) iv lw := by
  refine zM.of (by decide) (Nat.le_of_ble_eq_true rfl) (fun X C E => ?_)
  change zJs X n 8 0 [some (.ref 0), some (.int co), some (.int a), some (.int b), none, none, none, none] [] iv lw
  refine z_aload_n C dX9_book_0 rfl ?_
  refine z_iload_n C dX9_book_1 rfl ?_
  refine zs_callVN C dX9_book_2 zm_X9_122 zyX9_coachOf (c_coachOf0 n _ _ hc hn co hv) zc_9 rfl zk_0 (by decide) (by decide) rfl rfl (Nat.le_of_ble_eq_true rfl) (by decide) (by decide) ?_
  refine z_astoreN (lv' := [some (.ref 0), some (.int co), some (.int a), some (.int b), some .null, none, none, none]) C dX9_book_5 (by decide) rfl ?_
  refine z_aloadN C dX9_book_7 rfl ?_
  refine z_ifnullN (tgt := 22) C dX9_book_9 (by decide) ?_
  refine z_iconst (v := (-1)) C dX9_book_22 (by decide) ?_
  refine zs_iret C E dX9_book_23 rfl ?_ ?_ ?_
  · rfl
  · rfl
  · rfl

theorem zroom_s (se : Int32) (f : Nat → Int32) (l d : Nat) : zroom se f l (d + 1) = ((f l).toInt < se.toInt ∧ zroom se f (l + 1) d) := rfl

set_option maxRecDepth 4000 in
theorem lp_book (n : Nat) (iv : zI) (lw : zG) (hc : iv 0 3 = nI n) (hn : n ≤ 8) (i : Nat) (hi : i < n) (a b : Int32) (t : Nat) (ht : iv 35 0 = nI t) (ht2 : t ≤ 100) (l d : Nat) (hL : zlo a b = nI l) (hH : zhi a b = nI (l + d)) (hd : l + d ≤ 8) (r0 : Int32) (iv0 : zI) {X : zX} (C : zC X cX9_book 8 RX9 (some .int) "book" 1 0 0) (E : zEnd X (91 + 3 * n) 0 0 (zQ n (zQi r0 iv0 lw))) : ∀ (k : Nat) (j : Nat), j + k = d → ((zroom (zseats (iv (91 + 3 * i) 0)) (fun s => (zsum (ztk (iv 36) (iv 37) (iv 38) (iv 39) (iv 40) (nI i) (nI s) (iv 0 10)) t)) (l + j) k → r0 = (if t < 100 then iv 35 0 else -1) ∧ iv0 = (if t < 100 then zbook iv (nI i) (nI l) (nI (l + d)) (iv 0 10) else iv)) ∧ (¬ zroom (zseats (iv (91 + 3 * i) 0)) (fun s => (zsum (ztk (iv 36) (iv 37) (iv 38) (iv 39) (iv 40) (nI i) (nI s) (iv 0 10)) t)) (l + j) k → r0 = -1 ∧ iv0 = iv)) → zJs X n 8 42 [some (.ref 0), some (.int (nI i)), some (.int a), some (.int b), some (.ref (91 + 3 * i)), some (.int (nI l)), some (.int (nI (l + d))), some (.int (nI (l + j)))] [] iv lw := by
  intro k
  induction k with
  | zero =>
    intro j hk hr
    have e35 : (iv 35 0).toInt = t := zt_nI ht (by omega)
    refine z_iload C dX9_book_42 rfl ?_
    refine z_iload C dX9_book_44 rfl ?_
    refine zt_icmp_ge (tgt := 79) C dX9_book_46 (nI_toInt (by omega)) (nI_toInt (by omega)) (by decide) (fun q46 => ?_) (fun q46 => ?_)
    · refine z_aload_n C dX9_book_79 rfl ?_
      refine zs_getR C dX9_book_80 zf_X9_72 zk_0 (by decide) (zr_0_9 n) ?_
      refine z_iload_n C dX9_book_83 rfl ?_
      refine z_iload C dX9_book_84 rfl ?_
      refine z_iload C dX9_book_86 rfl ?_
      refine z_aload_n C dX9_book_88 rfl ?_
      refine z_getI C dX9_book_89 zf_X9_115 zk_0 (by decide) ?_
      refine zs_callVi C dX9_book_92 zm_X9_309 zyX3_enter (c_lenter _ _ _ _ _ _ _ (by rw [zt_nI ht (by omega)]; omega)) zc_3 rfl zk_35 (by decide) (by decide) rfl rfl (Nat.le_of_ble_eq_true rfl) (by decide) (by decide) ?_
      refine zs_iret C E dX9_book_95 rfl ?_ ?_ ?_
      · rw [e35]
        rw [((hr.1) trivial).1]
        by_cases h9 : t < 100
        · rw [if_pos (by omega), if_pos h9]
        · rw [if_neg (by omega), if_neg h9]
      · rw [((hr.1) trivial).2, e35]
        by_cases h9 : t < 100
        · rw [if_pos (by omega), if_pos h9]
        · rw [if_neg (by omega), if_neg h9]
      · rfl
    · exfalso; omega
  | succ k ih =>
    intro j hk hr
    have e35 : (iv 35 0).toInt = t := zt_nI ht (by omega)
    refine z_iload C dX9_book_42 rfl ?_
    refine z_iload C dX9_book_44 rfl ?_
    refine zt_icmp_ge (tgt := 79) C dX9_book_46 (nI_toInt (by omega)) (nI_toInt (by omega)) (by decide) (fun q46 => ?_) (fun q46 => ?_)
    · exfalso; omega
    · refine z_aload C dX9_book_49 rfl ?_
      refine zs_callVi C dX9_book_51 zm_X9_303 zyX0_seats (c_seats _ _ _ i hi hn) zc_0 rfl (zkc i) (by omega) (by decide) rfl rfl (Nat.le_of_ble_eq_true rfl) (by decide) (by decide) ?_
      refine z_aload_n C dX9_book_54 rfl ?_
      refine zs_getR C dX9_book_55 zf_X9_72 zk_0 (by decide) (zr_0_9 n) ?_
      refine z_iload_n C dX9_book_58 rfl ?_
      refine z_iload C dX9_book_59 rfl ?_
      refine z_aload_n C dX9_book_61 rfl ?_
      refine z_getI C dX9_book_62 zf_X9_115 zk_0 (by decide) ?_
      refine zs_callVi C dX9_book_65 zm_X9_306 zyX3_taken (c_taken _ _ _ _ _ _ t ht ht2) zc_3 rfl zk_35 (by decide) (by decide) rfl rfl (Nat.le_of_ble_eq_true rfl) (by decide) (by decide) ?_
      refine zt_icmp_gt (tgt := 73) C dX9_book_68 rfl rfl (by decide) (fun q68 => ?_) (fun q68 => ?_)
      · refine z_iinc (y := 1) (lv' := [some (.ref 0), some (.int _), some (.int a), some (.int b), some (.ref (91 + 3 * i)), some (.int _), some (.int _), some (.int _)]) C dX9_book_73 rfl (by decide) (by decide) rfl ?_
        refine z_goto (tgt := 42) C dX9_book_76 (by decide) ?_
        rw [nI_1 (l + j), show l + j + 1 = l + (j + 1) by omega]
        refine ih (j + 1) (by omega) ⟨fun z => hr.1 ⟨by omega, z⟩, fun z => hr.2 (fun y => z y.2)⟩
      · refine z_iconst (v := (-1)) C dX9_book_71 (by decide) ?_
        refine zs_iret C E dX9_book_72 rfl ?_ ?_ ?_
        · exact ((hr.2) (fun z => by have z1 := z.1; dsimp only at z1; omega)).1.symm
        · exact ((hr.2) (fun z => by have z1 := z.1; dsimp only at z1; omega)).2.symm
        · rfl

set_option maxRecDepth 4000 in
theorem x_book1 (n : Nat) (iv : zI) (lw : zG) (hc : iv 0 3 = nI n) (hn : n ≤ 8) (i : Nat) (hi : i < n) (a b : Int32) (t : Nat) (ht : iv 35 0 = nI t) (ht2 : t ≤ 100) (l d : Nat) (hL : zlo a b = nI l) (hH : zhi a b = nI (l + d)) (hd : l + d ≤ 8) (hp : (((zlo (iv (91 + 3 * i) 2) (iv (91 + 3 * i) 3)).toInt ≤ a.toInt ∧ a.toInt ≤ (zhi (iv (91 + 3 * i) 2) (iv (91 + 3 * i) 3)).toInt) ∧ ((zlo (iv (91 + 3 * i) 2) (iv (91 + 3 * i) 3)).toInt ≤ b.toInt ∧ b.toInt ≤ (zhi (iv (91 + 3 * i) 2) (iv (91 + 3 * i) 3)).toInt) ∧ (((iv (91 + 3 * i) 2).toInt < (iv (91 + 3 * i) 3).toInt ∧ a.toInt < b.toInt) ∨ (¬ (iv (91 + 3 * i) 2).toInt < (iv (91 + 3 * i) 3).toInt ∧ b.toInt < a.toInt)))) (r0 : Int32) (iv0 : zI) (hr : (zroom (zseats (iv (91 + 3 * i) 0)) (fun s => (zsum (ztk (iv 36) (iv 37) (iv 38) (iv 39) (iv 40) (nI i) (nI s) (iv 0 10)) t)) l d → r0 = (if t < 100 then iv 35 0 else -1) ∧ iv0 = (if t < 100 then zbook iv (nI i) (nI l) (nI (l + d)) (iv 0 10) else iv)) ∧ (¬ zroom (zseats (iv (91 + 3 * i) 0)) (fun s => (zsum (ztk (iv 36) (iv 37) (iv 38) (iv 39) (iv 40) (nI i) (nI s) (iv 0 10)) t)) l d → r0 = -1 ∧ iv0 = iv)) : zMi yX9_book cX9_book 8 (some .int) 3 [.ref 0, .int (nI i), .int a, .int b] n iv lw r0 iv0 lw := by
  refine zM.of (by decide) (Nat.le_of_ble_eq_true rfl) (fun X C E => ?_)
  change zJs X n 8 0 [some (.ref 0), some (.int (nI i)), some (.int a), some (.int b), none, none, none, none] [] iv lw
  refine z_aload_n C dX9_book_0 rfl ?_
  refine z_iload_n C dX9_book_1 rfl ?_
  refine zs_callVR C dX9_book_2 zm_X9_122 zyX9_coachOf (c_coachOf1 n _ _ hc hn i hi) zc_9 rfl zk_0 (by decide) (by decide) rfl rfl (Nat.le_of_ble_eq_true rfl) (by decide) (by decide) ?_
  refine z_astore (lv' := [some (.ref 0), some (.int _), some (.int a), some (.int b), some (.ref (91 + 3 * i)), none, none, none]) C dX9_book_5 (by decide) rfl ?_
  refine z_aload C dX9_book_7 rfl ?_
  refine z_ifnull C dX9_book_9 ?_
  refine z_aload C dX9_book_12 rfl ?_
  refine z_iload_n C dX9_book_14 rfl ?_
  refine z_iload_n C dX9_book_15 rfl ?_
  refine zs_callVi C dX9_book_16 zm_X9_292 zyX0_goesBetween (c_goesBetween _ _ _ i hi hn _ _) zc_0 rfl (zkc i) (by omega) (by decide) rfl rfl (Nat.le_of_ble_eq_true rfl) (by decide) (by decide) ?_
  refine zb_if_ne (tgt := 24) C dX9_book_19 (by decide) (fun q19 => ?_) (fun q19 => ?_)
  · refine z_iload_n C dX9_book_24 rfl ?_
    refine z_iload_n C dX9_book_25 rfl ?_
    refine z_mmin C dX9_book_26 zm_X9_295 (by decide) (Nat.le_of_ble_eq_true rfl) (by decide) (by decide) ?_
    refine z_istore (lv' := [some (.ref 0), some (.int _), some (.int a), some (.int b), some (.ref (91 + 3 * i)), some (.int _), none, none]) C dX9_book_29 (by decide) rfl ?_
    refine z_iload_n C dX9_book_31 rfl ?_
    refine z_iload_n C dX9_book_32 rfl ?_
    refine z_mmax C dX9_book_33 zm_X9_300 (by decide) (Nat.le_of_ble_eq_true rfl) (by decide) (by decide) ?_
    refine z_istore (lv' := [some (.ref 0), some (.int _), some (.int a), some (.int b), some (.ref (91 + 3 * i)), some (.int _), some (.int _), none]) C dX9_book_36 (by decide) rfl ?_
    refine z_iload C dX9_book_38 rfl ?_
    refine z_istore (lv' := [some (.ref 0), some (.int _), some (.int a), some (.int b), some (.ref (91 + 3 * i)), some (.int _), some (.int _), some (.int _)]) C dX9_book_40 (by decide) rfl ?_
    rw [show (if b < a then b else a) = nI l from hL, show (if a < b then b else a) = nI (l + d) from hH]
    exact lp_book n iv lw hc hn i hi a b t ht ht2 l d hL hH hd r0 iv0 (zC_le (by decide) C) E d 0 (by omega) hr
  · exact absurd hp q19
