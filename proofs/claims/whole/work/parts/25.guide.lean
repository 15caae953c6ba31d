/-- met and followed are cleared below m -/
def zclr (iv : zI) : Nat → zI
  | 0 => iv
  | m + 1 => zu (zu (zclr iv m) 33 m 0) 34 m 0
theorem zclr_o (iv : zI) {c : Nat} (h6 : c ≠ 33) (h8 : c ≠ 34) : ∀ m, zclr iv m c = iv c
  | 0 => rfl
  | m + 1 => by rw [zclr, zu_n _ _ _ h8, zu_n _ _ _ h6, zclr_o iv h6 h8 m]
/-- one trip, the earliest left, and the one behind which it comes -/
def znb (v : zI) (t : Nat) (rest : Int32) : Int32 := zfst (zrf (zmeet v t) (zearl (v 33) (v 31) t t) rest) 0 t
abbrev znh (v : zI) (t : Nat) (rest : Int32) : Prop := 0 ≤ (znb v t rest).toInt ∧ (znb v t rest).toInt < t
def zns (v : zI) (t : Nat) (rest : Int32) : zI := if znh v t rest then zu (zmeet v t) 34 (znb v t rest).toNatClampNeg 1 else zmeet v t
def znv (iv : zI) (t : Nat) (rest : Int32) : Nat → zI
  | 0 => iv
  | j + 1 => zns (znv iv t rest j) t rest
def znn (iv : zI) (t : Nat) (rest : Int32) : Nat → Int32
  | 0 => 0
  | j + 1 => if znh (znv iv t rest j) t rest then znn iv t rest j else znn iv t rest j + 1
theorem zmeet_o (v : zI) (t : Nat) {c : Nat} (h : c ≠ 33) : zmeet v t c = v c := by
  unfold zmeet
  split
  · rw [zu_n _ _ _ h]
  · rfl
theorem zns_o (v : zI) (t : Nat) (rest : Int32) {c : Nat} (h6 : c ≠ 33) (h8 : c ≠ 34) : zns v t rest c = v c := by
  unfold zns
  split
  · rw [zu_n _ _ _ h8, zmeet_o _ _ h6]
  · rw [zmeet_o _ _ h6]
theorem znv_o (iv : zI) (t : Nat) (rest : Int32) {c : Nat} (h6 : c ≠ 33) (h8 : c ≠ 34) : ∀ m, znv iv t rest m c = iv c
  | 0 => rfl
  | m + 1 => by rw [znv, zns_o _ _ _ h6 h8, znv_o iv t rest h6 h8 m]
theorem vp_nb0 : vp_nar .boolean 0 = 0 := by decide
theorem vp_nb1 : vp_nar .boolean 1 = 1 := by decide

theorem z_drop56 {a b c d e f g : Option Value} : ∀ (i : Nat) (v : Value), [a, b, c, d, e, none, none][i]? = some (some v) → [a, b, c, d, e, f, g][i]? = some (some v) := by
  intro i v hv
  match i, hv with
  | 0, hv => exact hv
  | 1, hv => exact hv
  | 2, hv => exact hv
  | 3, hv => exact hv
  | 4, hv => exact hv
  | 5, hv => simp at hv
  | 6, hv => simp at hv
  | i + 7, hv => simp at hv

set_option maxRecDepth 4000 in
theorem lp_need (n : Nat) (iv : zI) (lw : zG) (rest : Int32) (t : Nat) (ht : iv 29 0 = nI t) (ht2 : t ≤ 24) (hI : 2 ≤ (iv 1 0).toInt ∧ (iv 1 0).toInt ≤ 8) (hS : ∀ k, ((k : Nat) : Int) < (iv 29 0).toInt → 0 ≤ (iv 30 k).toInt ∧ (iv 30 k).toInt < (iv 1 0).toInt - 1) {X : zX} (C : zC X cX4_teamsNeeded 7 RX4 (some .int) "teamsNeeded" 4 0 0) (E : zEnd X (91 + 3 * n) 0 0 (zQ n (zQi (znn iv t rest t) (znv iv t rest t) lw))) : ∀ (k : Nat) (i : Nat), i + k = t → zJs X n 7 44 [some (.ref 29), some (.int rest), some (.ref 1), some (.int (znn iv t rest i)), some (.int (nI i)), none, none] [] (znv iv t rest i) lw := by
  intro k
  induction k with
  | zero =>
    intro i hk
    have e29 : znv iv t rest i 29 0 = nI t := by rw [znv_o iv t rest (by decide) (by decide)]; exact ht
    have e1 : znv iv t rest i 1 = iv 1 := znv_o iv t rest (by decide) (by decide) i
    have m29 : zmeet (znv iv t rest i) t 29 0 = nI t := by rw [zmeet_o _ _ (by decide)]; exact e29
    have m1 : zmeet (znv iv t rest i) t 1 = iv 1 := by rw [zmeet_o _ _ (by decide)]; exact e1
    have m30 : zmeet (znv iv t rest i) t 30 = iv 30 := by rw [zmeet_o _ _ (by decide)]; exact znv_o iv t rest (by decide) (by decide) i
    have m29i : (zmeet (znv iv t rest i) t 29 0).toInt = t := zt_nI m29 (by omega)
    have i29 : (iv 29 0).toInt = t := zt_nI ht (by omega)
    refine z_iload C dX4_teamsNeeded_44 rfl ?_
    refine z_aload_n C dX4_teamsNeeded_46 rfl ?_
    refine z_getI C dX4_teamsNeeded_47 zf_X4_28 zk_29 (by decide) ?_
    refine zt_icmp_ge (tgt := 98) C dX4_teamsNeeded_50 (nI_toInt (by omega)) (zt_nI e29 (by omega)) (by decide) (fun q50 => ?_) (fun q50 => ?_)
    · refine z_iload_n C dX4_teamsNeeded_98 rfl ?_
      refine zs_iret C E dX4_teamsNeeded_99 rfl ?_ ?_ ?_
      · rw [show i = t by omega]
      · rw [show i = t by omega]
      · rfl
    · exfalso; omega
  | succ k ih =>
    intro i hk
    have e29 : znv iv t rest i 29 0 = nI t := by rw [znv_o iv t rest (by decide) (by decide)]; exact ht
    have e1 : znv iv t rest i 1 = iv 1 := znv_o iv t rest (by decide) (by decide) i
    have m29 : zmeet (znv iv t rest i) t 29 0 = nI t := by rw [zmeet_o _ _ (by decide)]; exact e29
    have m1 : zmeet (znv iv t rest i) t 1 = iv 1 := by rw [zmeet_o _ _ (by decide)]; exact e1
    have m30 : zmeet (znv iv t rest i) t 30 = iv 30 := by rw [zmeet_o _ _ (by decide)]; exact znv_o iv t rest (by decide) (by decide) i
    have m29i : (zmeet (znv iv t rest i) t 29 0).toInt = t := zt_nI m29 (by omega)
    have i29 : (iv 29 0).toInt = t := zt_nI ht (by omega)
    refine z_iload C dX4_teamsNeeded_44 rfl ?_
    refine z_aload_n C dX4_teamsNeeded_46 rfl ?_
    refine z_getI C dX4_teamsNeeded_47 zf_X4_28 zk_29 (by decide) ?_
    refine zt_icmp_ge (tgt := 98) C dX4_teamsNeeded_50 (nI_toInt (by omega)) (zt_nI e29 (by omega)) (by decide) (fun q50 => ?_) (fun q50 => ?_)
    · exfalso; omega
    · refine z_aload_n C dX4_teamsNeeded_53 rfl ?_
      refine zs_callVi C dX4_teamsNeeded_54 zm_X4_45 zyX4_meetEarliest (c_meet _ _ _ t e29 ht2) zc_4 rfl zk_29 (by decide) (by decide) rfl rfl (Nat.le_of_ble_eq_true rfl) (by decide) (by decide) ?_
      refine z_istore (lv' := [some (.ref 29), some (.int rest), some (.ref 1), some (.int _), some (.int _), some (.int _), none]) C dX4_teamsNeeded_57 (by decide) rfl ?_
      refine z_aload_n C dX4_teamsNeeded_59 rfl ?_
      refine z_iload C dX4_teamsNeeded_60 rfl ?_
      refine z_iload_n C dX4_teamsNeeded_62 rfl ?_
      refine z_aload_n C dX4_teamsNeeded_63 rfl ?_
      refine zs_callVi C dX4_teamsNeeded_64 zm_X4_49 zyX4_readyFor (c_ready _ _ _ _ _ t m29 ht2 (by rw [m1]; exact hI) (by rw [m1, m30, m29i, ← i29]; exact hS)) zc_4 rfl zk_29 (by decide) (by decide) rfl rfl (Nat.le_of_ble_eq_true rfl) (by decide) (by decide) ?_
      refine z_istore (lv' := [some (.ref 29), some (.int rest), some (.ref 1), some (.int _), some (.int _), some (.int _), some (.int _)]) C dX4_teamsNeeded_67 (by decide) rfl ?_
      refine z_aload_n C dX4_teamsNeeded_69 rfl ?_
      refine z_iload C dX4_teamsNeeded_70 rfl ?_
      refine zs_callVi C dX4_teamsNeeded_72 zm_X4_32 zyX4_has (c_phas _ _ _ _) zc_4 rfl zk_29 (by decide) (by decide) rfl rfl (Nat.le_of_ble_eq_true rfl) (by decide) (by decide) ?_
      refine zb_if_eq (tgt := 89) C dX4_teamsNeeded_75 (by decide) (fun q75 => ?_) (fun q75 => ?_)
      · rw [m29i] at q75
        refine z_iinc (y := 1) (lv' := [some (.ref 29), some (.int rest), some (.ref 1), some (.int _), some (.int _), some (.int _), some (.int _)]) C dX4_teamsNeeded_89 rfl (by decide) (by decide) rfl ?_
        refine z_iinc (y := 1) (lv' := [some (.ref 29), some (.int rest), some (.ref 1), some (.int _), some (.int _), some (.int _), some (.int _)]) C dX4_teamsNeeded_92 rfl (by decide) (by decide) rfl ?_
        refine z_goto (tgt := 44) C dX4_teamsNeeded_95 (by decide) ?_
        refine z_sub z_drop56 ?_
        rw [nI_1 i]
        first
          | (have a1 : znv iv t rest (i + 1) = zu (zmeet (znv iv t rest i) t) 34 (znb (znv iv t rest i) t rest).toNatClampNeg 1 := if_pos q75
             have a2 : znn iv t rest (i + 1) = znn iv t rest i := if_pos q75
             have a3 := ih (i + 1) (by omega)
             rw [a1, a2] at a3
             rw [vp_nb1]
             exact a3)
          | (have a1 : znv iv t rest (i + 1) = zmeet (znv iv t rest i) t := if_neg q75
             have a2 : znn iv t rest (i + 1) = znn iv t rest i + 1 := if_neg q75
             have a3 := ih (i + 1) (by omega)
             rw [a1, a2] at a3
             exact a3)
      · rw [m29i] at q75
        refine z_aload_n C dX4_teamsNeeded_78 rfl ?_
        refine zs_getR C dX4_teamsNeeded_79 zf_X4_25 zk_29 (by decide) (zr_29_5 n) ?_
        refine z_iload C dX4_teamsNeeded_82 rfl ?_
        refine z_iconst (v := 1) C dX4_teamsNeeded_84 (by decide) ?_
        refine z_zast C dX4_teamsNeeded_85 zk_34 (by decide) ?_ ?_
        · exact vp_in_iff.mpr (by omega)
        refine z_goto (tgt := 92) C dX4_teamsNeeded_86 (by decide) ?_
        refine z_iinc (y := 1) (lv' := [some (.ref 29), some (.int rest), some (.ref 1), some (.int _), some (.int _), some (.int _), some (.int _)]) C dX4_teamsNeeded_92 rfl (by decide) (by decide) rfl ?_
        refine z_goto (tgt := 44) C dX4_teamsNeeded_95 (by decide) ?_
        refine z_sub z_drop56 ?_
        rw [nI_1 i]
        first
          | (have a1 : znv iv t rest (i + 1) = zu (zmeet (znv iv t rest i) t) 34 (znb (znv iv t rest i) t rest).toNatClampNeg 1 := if_pos q75
             have a2 : znn iv t rest (i + 1) = znn iv t rest i := if_pos q75
             have a3 := ih (i + 1) (by omega)
             rw [a1, a2] at a3
             rw [vp_nb1]
             exact a3)
          | (have a1 : znv iv t rest (i + 1) = zmeet (znv iv t rest i) t := if_neg q75
             have a2 : znn iv t rest (i + 1) = znn iv t rest i + 1 := if_neg q75
             have a3 := ih (i + 1) (by omega)
             rw [a1, a2] at a3
             exact a3)

set_option maxRecDepth 4000 in
theorem lp_clr (n : Nat) (iv : zI) (lw : zG) (rest : Int32) (t : Nat) (ht : iv 29 0 = nI t) (ht2 : t ≤ 24) (hI : 2 ≤ (iv 1 0).toInt ∧ (iv 1 0).toInt ≤ 8) (hS : ∀ k, ((k : Nat) : Int) < (iv 29 0).toInt → 0 ≤ (iv 30 k).toInt ∧ (iv 30 k).toInt < (iv 1 0).toInt - 1) {X : zX} (C : zC X cX4_teamsNeeded 7 RX4 (some .int) "teamsNeeded" 4 0 0) (E : zEnd X (91 + 3 * n) 0 0 (zQ n (zQi (znn (zclr iv t) t rest t) (znv (zclr iv t) t rest t) lw))) : ∀ (k : Nat) (i : Nat), i + k = t → zJs X n 7 11 [some (.ref 29), some (.int rest), some (.ref 1), some (.int (nI i)), none, none, none] [] (zclr iv i) lw := by
  intro k
  induction k with
  | zero =>
    intro i hk
    refine z_iload_n C dX4_teamsNeeded_11 rfl ?_
    refine z_aload_n C dX4_teamsNeeded_12 rfl ?_
    refine z_getI C dX4_teamsNeeded_13 zf_X4_28 zk_29 (by decide) ?_
    refine zt_icmp_ge (tgt := 39) C dX4_teamsNeeded_16 (nI_toInt (by omega)) (zt_nI (by rw [zclr_o iv (by decide) (by decide)]; exact ht) (by omega)) (by decide) (fun q16 => ?_) (fun q16 => ?_)
    · refine z_iconst (v := 0) C dX4_teamsNeeded_39 (by decide) ?_
      refine z_istore_n (lv' := [some (.ref 29), some (.int rest), some (.ref 1), some (.int _), none, none, none]) C dX4_teamsNeeded_40 (by decide) rfl ?_
      refine z_iconst (v := 0) C dX4_teamsNeeded_41 (by decide) ?_
      refine z_istore (lv' := [some (.ref 29), some (.int rest), some (.ref 1), some (.int _), some (.int _), none, none]) C dX4_teamsNeeded_42 (by decide) rfl ?_
      rw [show i = t by omega]
      exact lp_need n (zclr iv t) lw rest t (by rw [zclr_o iv (by decide) (by decide)]; exact ht) ht2 (by rw [zclr_o iv (by decide) (by decide)]; exact hI) (by rw [zclr_o iv (show 29 ≠ 33 by decide) (by decide), zclr_o iv (show 30 ≠ 33 by decide) (by decide), zclr_o iv (show 1 ≠ 33 by decide) (by decide)]; exact hS) C E t 0 (by omega)
    · exfalso; omega
  | succ k ih =>
    intro i hk
    refine z_iload_n C dX4_teamsNeeded_11 rfl ?_
    refine z_aload_n C dX4_teamsNeeded_12 rfl ?_
    refine z_getI C dX4_teamsNeeded_13 zf_X4_28 zk_29 (by decide) ?_
    refine zt_icmp_ge (tgt := 39) C dX4_teamsNeeded_16 (nI_toInt (by omega)) (zt_nI (by rw [zclr_o iv (by decide) (by decide)]; exact ht) (by omega)) (by decide) (fun q16 => ?_) (fun q16 => ?_)
    · exfalso; omega
    · refine z_aload_n C dX4_teamsNeeded_19 rfl ?_
      refine zs_getR C dX4_teamsNeeded_20 zf_X4_22 zk_29 (by decide) (zr_29_4 n) ?_
      refine z_iload_n C dX4_teamsNeeded_23 rfl ?_
      refine z_iconst (v := 0) C dX4_teamsNeeded_24 (by decide) ?_
      refine z_zast C dX4_teamsNeeded_25 zk_33 (by decide) ?_ ?_
      · exact vp_in_nI (by omega) (by decide)
      refine z_aload_n C dX4_teamsNeeded_26 rfl ?_
      refine zs_getR C dX4_teamsNeeded_27 zf_X4_25 zk_29 (by decide) (zr_29_5 n) ?_
      refine z_iload_n C dX4_teamsNeeded_30 rfl ?_
      refine z_iconst (v := 0) C dX4_teamsNeeded_31 (by decide) ?_
      refine z_zast C dX4_teamsNeeded_32 zk_34 (by decide) ?_ ?_
      · exact vp_in_nI (by omega) (by decide)
      refine z_iinc (y := 1) (lv' := [some (.ref 29), some (.int rest), some (.ref 1), some (.int _), none, none, none]) C dX4_teamsNeeded_33 rfl (by decide) (by decide) rfl ?_
      refine z_goto (tgt := 11) C dX4_teamsNeeded_36 (by decide) ?_
      rw [nI_1 i, vp_nb0]
      simp only [nI_clamp (show i < 2 ^ 31 by omega)]
      exact ih (i + 1) (by omega)

set_option maxRecDepth 4000 in
theorem c_need (n : Nat) (iv : zI) (lw : zG) (rest : Int32) (t : Nat) (ht : iv 29 0 = nI t) (ht2 : t ≤ 24) (hI : 2 ≤ (iv 1 0).toInt ∧ (iv 1 0).toInt ≤ 8) (hS : ∀ k, ((k : Nat) : Int) < (iv 29 0).toInt → 0 ≤ (iv 30 k).toInt ∧ (iv 30 k).toInt < (iv 1 0).toInt - 1) : zMi yX4_teamsNeeded cX4_teamsNeeded 7 (some .int) 4 [.ref 29, .int rest, .ref 1] n iv lw (if (0 ≤ rest.toInt ∧ rest.toInt ≤ 10000) then znn (zclr iv t) t rest t else -1) (if (0 ≤ rest.toInt ∧ rest.toInt ≤ 10000) then znv (zclr iv t) t rest t else iv) lw := by
  refine zM.of (by decide) (Nat.le_of_ble_eq_true rfl) (fun X C E => ?_)
  change zJs X n 7 0 [some (.ref 29), some (.int rest), some (.ref 1), none, none, none, none] [] iv lw
  refine z_iload_n C dX4_teamsNeeded_0 rfl ?_
  refine zs_callSi C dX4_teamsNeeded_1 zm_X4_36 zyX4_canRest (c_canRest _ _ _ _) (by decide) rfl rfl (Nat.le_of_ble_eq_true rfl) (by decide) (by decide) ?_
  refine zb_if_ne (tgt := 9) C dX4_teamsNeeded_4 (by decide) (fun q4 => ?_) (fun q4 => ?_)
  · refine z_iconst (v := 0) C dX4_teamsNeeded_9 (by decide) ?_
    refine z_istore_n (lv' := [some (.ref 29), some (.int rest), some (.ref 1), some (.int _), none, none, none]) C dX4_teamsNeeded_10 (by decide) rfl ?_
    rw [if_pos q4, if_pos q4] at E
    exact lp_clr n iv lw rest t ht ht2 hI hS (zC_le (by decide) C) E t 0 (by omega)
  · refine z_iconst (v := (-1)) C dX4_teamsNeeded_7 (by decide) ?_
    refine zs_iret C E dX4_teamsNeeded_8 rfl ?_ ?_ ?_
    · exact (if_neg q4).symm
    · exact (if_neg q4).symm
    · rfl

set_option maxRecDepth 4000 in
theorem c_emptyD (n : Nat) (iv : zI) (lw : zG) : zMv yX1_empty cX1_empty 1 none 0 [.ref 18] n iv lw (zu (zu iv 18 0 0) 18 3 0) lw := by
  refine zM.of (by decide) (Nat.le_of_ble_eq_true rfl) (fun X C E => ?_)
  change zJs X n 1 0 [some (.ref 18)] [] iv lw
  refine z_aload_n C dX1_empty_0 rfl ?_
  refine z_iconst (v := 0) C dX1_empty_1 (by decide) ?_
  refine z_putI C dX1_empty_2 zf_X1_22 zk_18 (by decide) ?_
  refine z_aload_n C dX1_empty_5 rfl ?_
  refine z_iconst (v := 0) C dX1_empty_6 (by decide) ?_
  refine z_putI C dX1_empty_7 zf_X1_26 zk_18 (by decide) ?_
  refine zs_vret C E dX1_empty_10 ?_ rfl
  rfl

set_option maxRecDepth 4000 in
theorem c_addD (n : Nat) (iv : zI) (lw : zG) (kd : Int32) (hT : 0 ≤ (iv 18 3).toInt) : zMv yX1_add cX1_add 2 none 0 [.ref 18, .int kd] n iv lw (if (iv 18 3).toInt < 400 then zu (zu iv 21 (iv 18 3).toNatClampNeg kd) 18 3 (iv 18 3 + 1) else iv) lw := by
  refine zM.of (by decide) (Nat.le_of_ble_eq_true rfl) (fun X C E => ?_)
  change zJs X n 2 0 [some (.ref 18), some (.int kd)] [] iv lw
  refine z_aload_n C dX1_add_0 rfl ?_
  refine z_getI C dX1_add_1 zf_X1_26 zk_18 (by decide) ?_
  refine z_sipush (v := 400) C dX1_add_4 (by decide) ?_
  refine zt_icmp_ge (tgt := 30) C dX1_add_7 rfl (show (400 : Int32).toInt = 400 by decide) (by decide) (fun q7 => ?_) (fun q7 => ?_)
  · refine zs_vret C E dX1_add_30 ?_ rfl
    first | exact (if_neg (by omega)).symm | (rw [if_pos (by omega)]; rfl)
  · refine z_aload_n C dX1_add_10 rfl ?_
    refine zs_getR C dX1_add_11 zf_X1_16 zk_18 (by decide) (zr_18_4 n) ?_
    refine z_aload_n C dX1_add_14 rfl ?_
    refine z_getI C dX1_add_15 zf_X1_26 zk_18 (by decide) ?_
    refine z_iload_n C dX1_add_18 rfl ?_
    refine z_iast C dX1_add_19 zk_21 (by decide) ?_ ?_
    · show vp_in (iv 18 3) 400
      exact vp_in_iff.mpr (by omega)
    refine z_aload_n C dX1_add_20 rfl ?_
    refine z_dup C dX1_add_21 rfl ?_
    refine z_getI C dX1_add_22 zf_X1_26 zk_18 (by decide) ?_
    refine z_iconst (v := 1) C dX1_add_25 (by decide) ?_
    refine z_iadd C dX1_add_26 ?_
    refine z_putI C dX1_add_27 zf_X1_26 zk_18 (by decide) ?_
    refine zs_vret C E dX1_add_30 ?_ rfl
    first | exact (if_neg (by omega)).symm | (rw [if_pos (by omega)]; rfl)

set_option maxRecDepth 4000 in
theorem c_emptyG (n : Nat) (iv : zI) (lw : zG) : zMv yX1_empty cX1_empty 1 none 0 [.ref 23] n iv lw (zu (zu iv 23 0 0) 23 3 0) lw := by
  refine zM.of (by decide) (Nat.le_of_ble_eq_true rfl) (fun X C E => ?_)
  change zJs X n 1 0 [some (.ref 23)] [] iv lw
  refine z_aload_n C dX1_empty_0 rfl ?_
  refine z_iconst (v := 0) C dX1_empty_1 (by decide) ?_
  refine z_putI C dX1_empty_2 zf_X1_22 zk_23 (by decide) ?_
  refine z_aload_n C dX1_empty_5 rfl ?_
  refine z_iconst (v := 0) C dX1_empty_6 (by decide) ?_
  refine z_putI C dX1_empty_7 zf_X1_26 zk_23 (by decide) ?_
  refine zs_vret C E dX1_empty_10 ?_ rfl
  rfl

set_option maxRecDepth 4000 in
theorem c_addG (n : Nat) (iv : zI) (lw : zG) (kd : Int32) (hT : 0 ≤ (iv 23 3).toInt) : zMv yX1_add cX1_add 2 none 0 [.ref 23, .int kd] n iv lw (if (iv 23 3).toInt < 400 then zu (zu iv 26 (iv 23 3).toNatClampNeg kd) 23 3 (iv 23 3 + 1) else iv) lw := by
  refine zM.of (by decide) (Nat.le_of_ble_eq_true rfl) (fun X C E => ?_)
  change zJs X n 2 0 [some (.ref 23), some (.int kd)] [] iv lw
  refine z_aload_n C dX1_add_0 rfl ?_
  refine z_getI C dX1_add_1 zf_X1_26 zk_23 (by decide) ?_
  refine z_sipush (v := 400) C dX1_add_4 (by decide) ?_
  refine zt_icmp_ge (tgt := 30) C dX1_add_7 rfl (show (400 : Int32).toInt = 400 by decide) (by decide) (fun q7 => ?_) (fun q7 => ?_)
  · refine zs_vret C E dX1_add_30 ?_ rfl
    first | exact (if_neg (by omega)).symm | (rw [if_pos (by omega)]; rfl)
  · refine z_aload_n C dX1_add_10 rfl ?_
    refine zs_getR C dX1_add_11 zf_X1_16 zk_23 (by decide) (zr_23_4 n) ?_
    refine z_aload_n C dX1_add_14 rfl ?_
    refine z_getI C dX1_add_15 zf_X1_26 zk_23 (by decide) ?_
    refine z_iload_n C dX1_add_18 rfl ?_
    refine z_iast C dX1_add_19 zk_26 (by decide) ?_ ?_
    · show vp_in (iv 23 3) 400
      exact vp_in_iff.mpr (by omega)
    refine z_aload_n C dX1_add_20 rfl ?_
    refine z_dup C dX1_add_21 rfl ?_
    refine z_getI C dX1_add_22 zf_X1_26 zk_23 (by decide) ?_
    refine z_iconst (v := 1) C dX1_add_25 (by decide) ?_
    refine z_iadd C dX1_add_26 ?_
    refine z_putI C dX1_add_27 zf_X1_26 zk_23 (by decide) ?_
    refine zs_vret C E dX1_add_30 ?_ rfl
    first | exact (if_neg (by omega)).symm | (rw [if_pos (by omega)]; rfl)

set_option maxRecDepth 4000 in
theorem c_endLine (n : Nat) (iv : zI) (lw : zG) (ch : Int32) (hT : 0 ≤ (iv 18 0).toInt) : zMv yX1_endLine cX1_endLine 2 none 0 [.ref 18, .int ch] n iv lw (if (iv 18 0).toInt < 10 then zu (zu (zu iv 19 (iv 18 0).toNatClampNeg (iv 18 3)) 20 (iv 18 0).toNatClampNeg ch) 18 0 (iv 18 0 + 1) else iv) lw := by
  refine zM.of (by decide) (Nat.le_of_ble_eq_true rfl) (fun X C E => ?_)
  change zJs X n 2 0 [some (.ref 18), some (.int ch)] [] iv lw
  refine z_aload_n C dX1_endLine_0 rfl ?_
  refine z_getI C dX1_endLine_1 zf_X1_22 zk_18 (by decide) ?_
  refine z_bipush (v := 10) C dX1_endLine_4 (by decide) ?_
  refine zt_icmp_ge (tgt := 42) C dX1_endLine_6 rfl (show (10 : Int32).toInt = 10 by decide) (by decide) (fun q6 => ?_) (fun q6 => ?_)
  · refine zs_vret C E dX1_endLine_42 ?_ rfl
    first | exact (if_neg (by omega)).symm | (rw [if_pos (by omega)]; rfl)
  · refine z_aload_n C dX1_endLine_9 rfl ?_
    refine zs_getR C dX1_endLine_10 zf_X1_9 zk_18 (by decide) (zr_18_1 n) ?_
    refine z_aload_n C dX1_endLine_13 rfl ?_
    refine z_getI C dX1_endLine_14 zf_X1_22 zk_18 (by decide) ?_
    refine z_aload_n C dX1_endLine_17 rfl ?_
    refine z_getI C dX1_endLine_18 zf_X1_26 zk_18 (by decide) ?_
    refine z_iast C dX1_endLine_21 zk_19 (by decide) ?_ ?_
    · show vp_in (iv 18 0) 10
      exact vp_in_iff.mpr (by omega)
    refine z_aload_n C dX1_endLine_22 rfl ?_
    refine zs_getR C dX1_endLine_23 zf_X1_13 zk_18 (by decide) (zr_18_2 n) ?_
    refine z_aload_n C dX1_endLine_26 rfl ?_
    refine z_getI C dX1_endLine_27 zf_X1_22 zk_18 (by decide) ?_
    refine z_iload_n C dX1_endLine_30 rfl ?_
    refine z_iast C dX1_endLine_31 zk_20 (by decide) ?_ ?_
    · show vp_in (iv 18 0) 10
      exact vp_in_iff.mpr (by omega)
    refine z_aload_n C dX1_endLine_32 rfl ?_
    refine z_dup C dX1_endLine_33 rfl ?_
    refine z_getI C dX1_endLine_34 zf_X1_22 zk_18 (by decide) ?_
    refine z_iconst (v := 1) C dX1_endLine_37 (by decide) ?_
    refine z_iadd C dX1_endLine_38 ?_
    refine z_putI C dX1_endLine_39 zf_X1_22 zk_18 (by decide) ?_
    refine zs_vret C E dX1_endLine_42 ?_ rfl
    first | exact (if_neg (by omega)).symm | (rw [if_pos (by omega)]; rfl)

set_option maxRecDepth 4000 in
theorem c_operand (n : Nat) (iv : zI) (lw : zG) (kd : Int32) : zMi yX1_operand cX1_operand 3 (some .int) 0 [.int kd, .ref 28] n iv lw (if 1000 ≤ kd.toInt then kd - 1000 else if 0 ≤ (kd - 208).toInt ∧ (kd - 208).toInt < 10 then iv 28 (kd - 208).toNatClampNeg else 0) iv lw := by
  refine zM.of (by decide) (Nat.le_of_ble_eq_true rfl) (fun X C E => ?_)
  change zJs X n 3 0 [some (.int kd), some (.ref 28), none] [] iv lw
  refine z_iload_n C dX1_operand_0 rfl ?_
  refine z_sipush (v := 1000) C dX1_operand_1 (by decide) ?_
  refine zt_icmp_lt (tgt := 13) C dX1_operand_4 rfl (show (1000 : Int32).toInt = 1000 by decide) (by decide) (fun q4 => ?_) (fun q4 => ?_)
  · refine z_iload_n C dX1_operand_13 rfl ?_
    refine z_sipush (v := 208) C dX1_operand_14 (by decide) ?_
    refine z_isub C dX1_operand_17 ?_
    refine z_istore_n (lv' := [some (.int kd), some (.ref 28), some (.int _)]) C dX1_operand_18 (by decide) rfl ?_
    refine z_iload_n C dX1_operand_19 rfl ?_
    refine zt_if_lt (tgt := 35) C dX1_operand_20 rfl (by decide) (fun q20 => ?_) (fun q20 => ?_)
    · refine z_iconst (v := 0) C dX1_operand_35 (by decide) ?_
      refine zs_iret C E dX1_operand_36 rfl ?_ ?_ ?_
      · rw [if_neg (by omega)]
        first | exact (if_pos (by omega)).symm | exact (if_neg (by omega)).symm
      · rfl
      · rfl
    · refine z_iload_n C dX1_operand_23 rfl ?_
      refine z_aload_n C dX1_operand_24 rfl ?_
      refine z_alenI (v := 10) C dX1_operand_25 zk_28 (by decide) (by decide) ?_
      refine zt_icmp_ge (tgt := 35) C dX1_operand_26 rfl (show (10 : Int32).toInt = 10 by decide) (by decide) (fun q26 => ?_) (fun q26 => ?_)
      · refine z_iconst (v := 0) C dX1_operand_35 (by decide) ?_
        refine zs_iret C E dX1_operand_36 rfl ?_ ?_ ?_
        · rw [if_neg (by omega)]
          first | exact (if_pos (by omega)).symm | exact (if_neg (by omega)).symm
        · rfl
        · rfl
      · refine z_aload_n C dX1_operand_29 rfl ?_
        refine z_iload_n C dX1_operand_30 rfl ?_
        refine z_iald C dX1_operand_31 zk_28 (by decide) ?_ ?_
        · exact vp_in_iff.mpr (by omega)
        refine z_goto (tgt := 36) C dX1_operand_32 (by decide) ?_
        refine zs_iret C E dX1_operand_36 rfl ?_ ?_ ?_
        · rw [if_neg (by omega)]
          first | exact (if_pos (by omega)).symm | exact (if_neg (by omega)).symm
        · rfl
        · rfl
  · refine z_iload_n C dX1_operand_7 rfl ?_
    refine z_sipush (v := 1000) C dX1_operand_8 (by decide) ?_
    refine z_isub C dX1_operand_11 ?_
    refine zs_iret C E dX1_operand_12 rfl ?_ ?_ ?_
    · rw [if_pos (by omega)]
    · rfl
    · rfl
