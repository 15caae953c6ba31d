/-- what the first line that holds says to do: lines from l on, k of them, the first of them from place fr; 3 if none holds -/
def zcho (seen K ends cho : Nat → Int32) : Nat → Nat → Nat → Int32
  | _, _, 0 => 3
  | l, fr, k + 1 => if ¬ zbot (zev seen K fr ((ends l).toNatClampNeg - fr) []) = 0 then cho l else zcho seen K ends cho (l + 1) (ends l).toNatClampNeg k

set_option maxHeartbeats 1000000 in
set_option maxRecDepth 4000 in
theorem lp_choose (n : Nat) (iv : zI) (lw : zG) (m t : Nat) (hm : iv 23 3 = nI m) (hm2 : m ≤ 400) (ht : iv 23 0 = nI t) (ht2 : t ≤ 10) (en : Nat → Nat) (hen : ∀ l, l < t → iv 24 l = nI (en l) ∧ en l ≤ m) (r0 : Int32) {X : zX} (C : zC X cX1_choose 4 RX1 (some .int) "choose" 2 0 0) (E : zEnd X (91 + 3 * n) 0 0 (zQ n (fun v iv2 lw2 => v = some (.int r0) ∧ lw2 = lw ∧ ∀ c, c ≠ 27 → iv2 c = iv c))) : ∀ (k : Nat) (l fr : Nat) (cur : zI), l + k = t → (∀ c, c ≠ 27 → cur c = iv c) → (∀ j, l ≤ j → j < t → fr ≤ en j) → (∀ j j2, l ≤ j → j ≤ j2 → j2 < t → en j ≤ en j2) → fr ≤ m → zcho (iv 28) (iv 26) (iv 24) (iv 25) l fr k = r0 → zJs X n 4 4 [some (.ref 23), some (.ref 28), some (.int (nI fr)), some (.int (nI l))] [] cur lw := by
  intro k
  induction k with
  | zero =>
    intro l fr cur hk ho hle hmo hfm hr
    refine z_iload_n C dX1_choose_4 rfl ?_
    refine z_aload_n C dX1_choose_5 rfl ?_
    refine z_getI C dX1_choose_6 zf_X1_22 zk_23 (by decide) ?_
    refine zt_icmp_ge (tgt := 47) C dX1_choose_9 (nI_toInt (by omega)) (zt_nI (by rw [ho 23 (by decide)]; exact ht) (by omega)) (by decide) (fun q9 => ?_) (fun q9 => ?_)
    · refine z_iconst (v := 3) C dX1_choose_47 (by decide) ?_
      refine zs_qiret C E dX1_choose_48 rfl ?_
      exact ⟨by rw [← hr]; rfl, rfl, ho⟩
    · exfalso; omega
  | succ k ih =>
    intro l fr cur hk ho hle hmo hfm hr
    refine z_iload_n C dX1_choose_4 rfl ?_
    refine z_aload_n C dX1_choose_5 rfl ?_
    refine z_getI C dX1_choose_6 zf_X1_22 zk_23 (by decide) ?_
    refine zt_icmp_ge (tgt := 47) C dX1_choose_9 (nI_toInt (by omega)) (zt_nI (by rw [ho 23 (by decide)]; exact ht) (by omega)) (by decide) (fun q9 => ?_) (fun q9 => ?_)
    · exfalso; omega
    · have e24 : cur 24 = iv 24 := ho 24 (by decide)
      have hel := hen l (by omega)
      refine z_aload_n C dX1_choose_12 rfl ?_
      refine z_iload_n C dX1_choose_13 rfl ?_
      refine z_aload_n C dX1_choose_14 rfl ?_
      refine zs_getR C dX1_choose_15 zf_X1_9 zk_23 (by decide) (zr_23_1 n) ?_
      refine z_iload_n C dX1_choose_18 rfl ?_
      refine z_iald C dX1_choose_19 zk_24 (by decide) ?_ ?_
      · exact vp_in_nI (by omega) (by decide)
      rw [nI_clamp (by omega), e24, hel.1]
      refine z_aload_n C dX1_choose_20 rfl ?_
      refine zs_callVq C dX1_choose_21 zm_X1_36 zyX1_worth (c_worth n cur lw fr (en l) m hel.2 (by rw [ho 23 (by decide)]; exact hm) hm2 (hle l (Nat.le_refl _) (by omega))) zc_1 rfl zk_23 (by decide) (by decide) rfl rfl (Nat.le_of_ble_eq_true rfl) (by decide) (by decide) (fun v21 iv21 lw21 hq21 => ?_)
      obtain ⟨rfl, rfl, hb21⟩ := hq21
      have ho21 : ∀ c, c ≠ 27 → iv21 c = iv c := fun c hc => by rw [hb21 c hc, ho c hc]
      rw [ho 28 (by decide), ho 26 (by decide)]
      refine z_if_eq (tgt := 34) C dX1_choose_24 (by decide) (fun q24 => ?_) (fun q24 => ?_)
      · refine z_aload_n C dX1_choose_34 rfl ?_
        refine zs_getR C dX1_choose_35 zf_X1_9 zk_23 (by decide) (zr_23_1 n) ?_
        refine z_iload_n C dX1_choose_38 rfl ?_
        refine z_iald C dX1_choose_39 zk_24 (by decide) ?_ ?_
        · exact vp_in_nI (by omega) (by decide)
        rw [nI_clamp (by omega), ho21 24 (by decide), hel.1]
        refine z_istore_n (lv' := [some (.ref 23), some (.ref 28), some (.int _), some (.int _)]) C dX1_choose_40 (by decide) rfl ?_
        refine z_iinc (y := 1) (lv' := [some (.ref 23), some (.ref 28), some (.int _), some (.int _)]) C dX1_choose_41 rfl (by decide) (by decide) rfl ?_
        refine z_goto (tgt := 4) C dX1_choose_44 (by decide) ?_
        rw [nI_1 l]
        refine ih (l + 1) (en l) iv21 (by omega) ho21 (fun j h1 h2 => hmo l j (Nat.le_refl _) (by omega) h2) (fun j j2 h1 h2 h3 => hmo j j2 (by omega) h2 h3) hel.2 ?_
        rw [← hr, zcho, if_neg (by rw [hel.1, nI_clamp (by omega)]; exact fun z => z q24), hel.1, nI_clamp (by omega)]
      · refine z_aload_n C dX1_choose_27 rfl ?_
        refine zs_getR C dX1_choose_28 zf_X1_13 zk_23 (by decide) (zr_23_2 n) ?_
        refine z_iload_n C dX1_choose_31 rfl ?_
        refine z_iald C dX1_choose_32 zk_25 (by decide) ?_ ?_
        · exact vp_in_nI (by omega) (by decide)
        refine zs_qiret C E dX1_choose_33 rfl ?_
        refine ⟨?_, rfl, ho21⟩
        rw [nI_clamp (by omega), ho21 25 (by decide), ← hr, zcho, if_pos (by rw [hel.1, nI_clamp (by omega)]; exact q24)]

set_option maxRecDepth 4000 in
theorem c_choose (n : Nat) (iv : zI) (lw : zG) (m t : Nat) (hm : iv 23 3 = nI m) (hm2 : m ≤ 400) (ht : iv 23 0 = nI t) (ht2 : t ≤ 10) (en : Nat → Nat) (hen : ∀ l, l < t → iv 24 l = nI (en l) ∧ en l ≤ m) (hmo : ∀ j j2, j ≤ j2 → j2 < t → en j ≤ en j2) : zMs yX1_choose cX1_choose 4 (some .int) 2 [.ref 23, .ref 28] n iv lw (fun v iv2 lw2 => v = some (.int (zcho (iv 28) (iv 26) (iv 24) (iv 25) 0 0 t)) ∧ lw2 = lw ∧ ∀ c, c ≠ 27 → iv2 c = iv c) := by
  refine zM.of (by decide) (Nat.le_of_ble_eq_true rfl) (fun X C E => ?_)
  change zJs X n 4 0 [some (.ref 23), some (.ref 28), none, none] [] iv lw
  refine z_iconst (v := 0) C dX1_choose_0 (by decide) ?_
  refine z_istore_n (lv' := [some (.ref 23), some (.ref 28), some (.int _), none]) C dX1_choose_1 (by decide) rfl ?_
  refine z_iconst (v := 0) C dX1_choose_2 (by decide) ?_
  refine z_istore_n (lv' := [some (.ref 23), some (.ref 28), some (.int _), some (.int _)]) C dX1_choose_3 (by decide) rfl ?_
  exact lp_choose n iv lw m t hm hm2 ht ht2 en hen _ C E t 0 0 iv (by omega) (fun _ _ => rfl) (fun _ _ _ => Nat.zero_le _) (fun j j2 _ h2 h3 => hmo j j2 h2 h3) (by omega) rfl

/-- the first m items come over -/
def zcpk (iv : zI) : Nat → zI
  | 0 => zu (zu iv 23 0 0) 23 3 0
  | m + 1 => zu (zu (zcpk iv m) 26 m (iv 21 m)) 23 3 (nI (m + 1))
def zcpl (v iv : zI) : Nat → zI
  | 0 => v
  | l + 1 => zu (zu (zcpl v iv l) 24 l (iv 19 l)) 25 l (iv 20 l)
theorem zcpk_o (iv : zI) {c : Nat} (h1 : c ≠ 23) (h2 : c ≠ 26) : ∀ m, zcpk iv m c = iv c
  | 0 => by rw [zcpk, zu_n _ _ _ h1, zu_n _ _ _ h1]
  | m + 1 => by rw [zcpk, zu_n _ _ _ h1, zu_n _ _ _ h2, zcpk_o iv h1 h2 m]
theorem zcpk_n (iv : zI) : ∀ m, zcpk iv m 23 3 = nI m
  | 0 => by rw [zcpk, zu_s]; exact pk_us
  | m + 1 => by rw [zcpk, zu_s]; exact pk_us
theorem zcpl_o (v iv : zI) {c : Nat} (h1 : c ≠ 24) (h2 : c ≠ 25) : ∀ m, zcpl v iv m c = v c
  | 0 => rfl
  | m + 1 => by rw [zcpl, zu_n _ _ _ h2, zu_n _ _ _ h1, zcpl_o v iv h1 h2 m]

set_option maxRecDepth 4000 in
theorem lp_copy2 (n : Nat) (iv : zI) (lw : zG) (m t : Nat) (hm : iv 18 3 = nI m) (hm2 : m ≤ 400) (ht : iv 18 0 = nI t) (ht2 : t ≤ 10) {X : zX} (C : zC X cX1_copy 3 RX1 none "copy" 0 0 0) (E : zEnd X (91 + 3 * n) 0 0 (zQ n (zQv (zcpl (zu (zcpk iv m) 23 0 (nI t)) iv t) lw))) : ∀ (k : Nat) (l : Nat), l + k = t → zJs X n 3 40 [some (.ref 23), some (.ref 18), some (.int (nI l))] [] (zcpl (zu (zcpk iv m) 23 0 (nI t)) iv l) lw := by
  intro k
  induction k with
  | zero =>
    intro l hk
    have e23 : zcpl (zu (zcpk iv m) 23 0 (nI t)) iv l 23 0 = nI t := by
      rw [zcpl_o _ _ (by decide) (by decide), zu_s]; exact pk_us
    have e19 : zcpl (zu (zcpk iv m) 23 0 (nI t)) iv l 19 = iv 19 := by rw [zcpl_o _ _ (by decide) (by decide), zu_n _ _ _ (by decide), zcpk_o iv (by decide) (by decide)]
    have e20 : zcpl (zu (zcpk iv m) 23 0 (nI t)) iv l 20 = iv 20 := by rw [zcpl_o _ _ (by decide) (by decide), zu_n _ _ _ (by decide), zcpk_o iv (by decide) (by decide)]
    refine z_iload_n C dX1_copy_40 rfl ?_
    refine z_aload_n C dX1_copy_41 rfl ?_
    refine z_getI C dX1_copy_42 zf_X1_22 zk_23 (by decide) ?_
    refine zt_icmp_ge (tgt := 78) C dX1_copy_45 (nI_toInt (by omega)) (zt_nI e23 (by omega)) (by decide) (fun q45 => ?_) (fun q45 => ?_)
    · refine zs_vret C E dX1_copy_78 ?_ rfl
      rw [show l = t by omega]
    · exfalso; omega
  | succ k ih =>
    intro l hk
    have e23 : zcpl (zu (zcpk iv m) 23 0 (nI t)) iv l 23 0 = nI t := by
      rw [zcpl_o _ _ (by decide) (by decide), zu_s]; exact pk_us
    have e19 : zcpl (zu (zcpk iv m) 23 0 (nI t)) iv l 19 = iv 19 := by rw [zcpl_o _ _ (by decide) (by decide), zu_n _ _ _ (by decide), zcpk_o iv (by decide) (by decide)]
    have e20 : zcpl (zu (zcpk iv m) 23 0 (nI t)) iv l 20 = iv 20 := by rw [zcpl_o _ _ (by decide) (by decide), zu_n _ _ _ (by decide), zcpk_o iv (by decide) (by decide)]
    refine z_iload_n C dX1_copy_40 rfl ?_
    refine z_aload_n C dX1_copy_41 rfl ?_
    refine z_getI C dX1_copy_42 zf_X1_22 zk_23 (by decide) ?_
    refine zt_icmp_ge (tgt := 78) C dX1_copy_45 (nI_toInt (by omega)) (zt_nI e23 (by omega)) (by decide) (fun q45 => ?_) (fun q45 => ?_)
    · exfalso; omega
    · refine z_aload_n C dX1_copy_48 rfl ?_
      refine zs_getR C dX1_copy_49 zf_X1_9 zk_23 (by decide) (zr_23_1 n) ?_
      refine z_iload_n C dX1_copy_52 rfl ?_
      refine z_aload_n C dX1_copy_53 rfl ?_
      refine zs_getR C dX1_copy_54 zf_X1_9 zk_18 (by decide) (zr_18_1 n) ?_
      refine z_iload_n C dX1_copy_57 rfl ?_
      refine z_iald C dX1_copy_58 zk_19 (by decide) ?_ ?_
      · exact vp_in_nI (by omega) (by decide)
      refine z_iast C dX1_copy_59 zk_24 (by decide) ?_ ?_
      · exact vp_in_nI (by omega) (by decide)
      refine z_aload_n C dX1_copy_60 rfl ?_
      refine zs_getR C dX1_copy_61 zf_X1_13 zk_23 (by decide) (zr_23_2 n) ?_
      refine z_iload_n C dX1_copy_64 rfl ?_
      refine z_aload_n C dX1_copy_65 rfl ?_
      refine zs_getR C dX1_copy_66 zf_X1_13 zk_18 (by decide) (zr_18_2 n) ?_
      refine z_iload_n C dX1_copy_69 rfl ?_
      refine z_iald C dX1_copy_70 zk_20 (by decide) ?_ ?_
      · exact vp_in_nI (by omega) (by decide)
      refine z_iast C dX1_copy_71 zk_25 (by decide) ?_ ?_
      · exact vp_in_nI (by omega) (by decide)
      refine z_iinc (y := 1) (lv' := [some (.ref 23), some (.ref 18), some (.int _)]) C dX1_copy_72 rfl (by decide) (by decide) rfl ?_
      refine z_goto (tgt := 40) C dX1_copy_75 (by decide) ?_
      rw [nI_1 l]
      simp only [nI_clamp (show l < 2 ^ 31 by omega)]
      rw [e19, zu_n _ _ _ (show 20 ≠ 24 by decide), e20]
      exact ih (l + 1) (by omega)

set_option maxRecDepth 4000 in
theorem lp_copy1 (n : Nat) (iv : zI) (lw : zG) (m t : Nat) (hm : iv 18 3 = nI m) (hm2 : m ≤ 400) (ht : iv 18 0 = nI t) (ht2 : t ≤ 10) {X : zX} (C : zC X cX1_copy 3 RX1 none "copy" 1 0 0) (E : zEnd X (91 + 3 * n) 0 0 (zQ n (zQv (zcpl (zu (zcpk iv m) 23 0 (nI t)) iv t) lw))) : ∀ (k : Nat) (l : Nat), l + k = m → zJs X n 3 6 [some (.ref 23), some (.ref 18), some (.int (nI l))] [] (zcpk iv l) lw := by
  intro k
  induction k with
  | zero =>
    intro l hk
    refine z_iload_n C dX1_copy_6 rfl ?_
    refine z_aload_n C dX1_copy_7 rfl ?_
    refine z_getI C dX1_copy_8 zf_X1_26 zk_18 (by decide) ?_
    refine zt_icmp_ge (tgt := 30) C dX1_copy_11 (nI_toInt (by omega)) (zt_nI (by rw [zcpk_o iv (by decide) (by decide)]; exact hm) (by omega)) (by decide) (fun q11 => ?_) (fun q11 => ?_)
    · refine z_aload_n C dX1_copy_30 rfl ?_
      refine z_aload_n C dX1_copy_31 rfl ?_
      refine z_getI C dX1_copy_32 zf_X1_22 zk_18 (by decide) ?_
      refine z_putI C dX1_copy_35 zf_X1_22 zk_23 (by decide) ?_
      refine z_iconst (v := 0) C dX1_copy_38 (by decide) ?_
      refine z_istore_n (lv' := [some (.ref 23), some (.ref 18), some (.int _)]) C dX1_copy_39 (by decide) rfl ?_
      rw [show l = m by omega, zcpk_o iv (show 18 ≠ 23 by decide) (by decide), ht]
      exact lp_copy2 n iv lw m t hm hm2 ht ht2 (zC_le (by decide) C) E t 0 (by omega)
    · exfalso; omega
  | succ k ih =>
    intro l hk
    refine z_iload_n C dX1_copy_6 rfl ?_
    refine z_aload_n C dX1_copy_7 rfl ?_
    refine z_getI C dX1_copy_8 zf_X1_26 zk_18 (by decide) ?_
    refine zt_icmp_ge (tgt := 30) C dX1_copy_11 (nI_toInt (by omega)) (zt_nI (by rw [zcpk_o iv (by decide) (by decide)]; exact hm) (by omega)) (by decide) (fun q11 => ?_) (fun q11 => ?_)
    · exfalso; omega
    · refine z_aload_n C dX1_copy_14 rfl ?_
      refine z_aload_n C dX1_copy_15 rfl ?_
      refine zs_getR C dX1_copy_16 zf_X1_16 zk_18 (by decide) (zr_18_4 n) ?_
      refine z_iload_n C dX1_copy_19 rfl ?_
      refine z_iald C dX1_copy_20 zk_21 (by decide) ?_ ?_
      · exact vp_in_nI (by omega) (by decide)
      refine zs_callVv C dX1_copy_21 zm_X1_32 zyX1_add (c_addG _ _ _ _ (by rw [zcpk_n, nI_toInt (by omega)]; omega)) zc_1 rfl zk_23 (by decide) (by decide) rfl rfl (Nat.le_of_ble_eq_true rfl) (by decide) (by decide) ?_
      refine z_iinc (y := 1) (lv' := [some (.ref 23), some (.ref 18), some (.int _)]) C dX1_copy_24 rfl (by decide) (by decide) rfl ?_
      refine z_goto (tgt := 6) C dX1_copy_27 (by decide) ?_
      rw [nI_1 l, if_pos (show (zcpk iv l 23 3).toInt < 400 by rw [zcpk_n, nI_toInt (by omega)]; omega), zcpk_n, nI_clamp (by omega), nI_1, zcpk_o iv (show 21 ≠ 23 by decide) (by decide)]
      exact ih (l + 1) (by omega)

set_option maxRecDepth 4000 in
theorem c_copy (n : Nat) (iv : zI) (lw : zG) (m t : Nat) (hm : iv 18 3 = nI m) (hm2 : m ≤ 400) (ht : iv 18 0 = nI t) (ht2 : t ≤ 10) : zMv yX1_copy cX1_copy 3 none 1 [.ref 23, .ref 18] n iv lw (zcpl (zu (zcpk iv m) 23 0 (nI t)) iv t) lw := by
  refine zM.of (by decide) (Nat.le_of_ble_eq_true rfl) (fun X C E => ?_)
  change zJs X n 3 0 [some (.ref 23), some (.ref 18), none] [] iv lw
  refine z_aload_n C dX1_copy_0 rfl ?_
  refine zs_callVv C dX1_copy_1 zm_X1_29 zyX1_empty (c_emptyG _ _ _) zc_1 rfl zk_23 (by decide) (by decide) rfl rfl (Nat.le_of_ble_eq_true rfl) (by decide) (by decide) ?_
  refine z_iconst (v := 0) C dX1_copy_4 (by decide) ?_
  refine z_istore_n (lv' := [some (.ref 23), some (.ref 18), some (.int _)]) C dX1_copy_5 (by decide) rfl ?_
  exact lp_copy1 n iv lw m t hm hm2 ht ht2 (zC_le (by decide) C) E m 0 (by omega)
