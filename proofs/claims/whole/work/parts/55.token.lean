set_option maxHeartbeats 1000000 in
set_option maxRecDepth 4000 in
theorem ls_tw (n : Nat) (iv : zI) (lw : zG) (s : Nat) (hs : iv 15 1 = nI s) (hs8 : s ≤ 800) (q e0 : Nat) {X : zX} (C : zC X cX6_takeWord 2 RX6 (some .int) "takeWord" 9 0 0) (E : zEnd X (91 + 3 * n) 0 0 (zQ n (zQi (if 8 < e0 - q then (2 : Int32) else zwd (zT (iv 13) s) q e0 88 0 0 200) (zu iv 15 2 (nI e0)) lw))) : ∀ (k : Nat) (p : Nat), p + k = s → q ≤ p → zrn (zle (zT (iv 13) s)) p k = e0 → zJs X n 2 5 [some (.ref 15), some (.int (nI q))] [] (zu iv 15 2 (nI p)) lw := by
  intro k
  induction k with
  | zero =>
    intro p hk hqp hr
    have ea : zu iv 15 2 (nI p) 15 2 = nI p := zu_ss _ _ _ _
    refine z_aload_n C dX6_takeWord_5 rfl ?_
    refine z_getI C dX6_takeWord_6 zf_X6_35 zk_15 (by decide) ?_
    refine z_aload_n C dX6_takeWord_9 rfl ?_
    refine z_getI C dX6_takeWord_10 zf_X6_26 zk_15 (by decide) ?_
    refine zt_icmp_ge (tgt := 43) C dX6_takeWord_13 (zt_nI ea (by omega)) (zt_nI (show zu iv 15 2 (nI p) 15 1 = nI s from hs) (by omega)) (by decide) (fun q13 => ?_) (fun q13 => ?_)
    · refine z_aload_n C dX6_takeWord_43 rfl ?_
      refine z_getI C dX6_takeWord_44 zf_X6_35 zk_15 (by decide) ?_
      rw [ea]
      refine z_iload_n C dX6_takeWord_47 rfl ?_
      refine z_isub C dX6_takeWord_48 ?_
      rw [zsubN (by omega) (by omega)]
      refine z_bipush (v := 8) C dX6_takeWord_49 (by decide) ?_
      refine zt_icmp_le (tgt := 58) C dX6_takeWord_51 (nI_toInt (by omega)) (show (8 : Int32).toInt = 8 by decide) (by decide) (fun q51 => ?_) (fun q51 => ?_)
      · refine z_aload_n C dX6_takeWord_58 rfl ?_
        refine z_iload_n C dX6_takeWord_59 rfl ?_
        refine zs_callVi C dX6_takeWord_60 zm_X6_69 zyX6_wordKind (s_wordKind n (zu iv 15 2 (nI p)) _ s hs hs8 q p ea (by omega) hqp) zc_6 rfl zk_15 (by decide) (by decide) rfl rfl (Nat.le_of_ble_eq_true rfl) (by decide) (by decide) ?_
        refine zs_iret C E dX6_takeWord_63 rfl ?_ ?_ ?_
        · have e0p : p = e0 := by rw [← hr]; rfl
          subst e0p
          exact (if_neg (by omega)).symm
        · rw [← hr]; rfl
        · rfl
      · refine z_iconst (v := 2) C dX6_takeWord_54 (by decide) ?_
        refine z_goto (tgt := 63) C dX6_takeWord_55 (by decide) ?_
        refine zs_iret C E dX6_takeWord_63 rfl ?_ ?_ ?_
        · have e0p : p = e0 := by rw [← hr]; rfl
          subst e0p
          exact (if_pos (by omega)).symm
        · rw [← hr]; rfl
        · rfl
    · exfalso; omega
  | succ k ih =>
    intro p hk hqp hr
    have ea : zu iv 15 2 (nI p) 15 2 = nI p := zu_ss _ _ _ _
    refine z_aload_n C dX6_takeWord_5 rfl ?_
    refine z_getI C dX6_takeWord_6 zf_X6_35 zk_15 (by decide) ?_
    refine z_aload_n C dX6_takeWord_9 rfl ?_
    refine z_getI C dX6_takeWord_10 zf_X6_26 zk_15 (by decide) ?_
    refine zt_icmp_ge (tgt := 43) C dX6_takeWord_13 (zt_nI ea (by omega)) (zt_nI (show zu iv 15 2 (nI p) 15 1 = nI s from hs) (by omega)) (by decide) (fun q13 => ?_) (fun q13 => ?_)
    · exfalso; omega
    · refine z_aload_n C dX6_takeWord_16 rfl ?_
      refine z_aload_n C dX6_takeWord_17 rfl ?_
      refine z_getI C dX6_takeWord_18 zf_X6_35 zk_15 (by decide) ?_
      rw [ea]
      refine zs_callVi C dX6_takeWord_21 zm_X6_45 zyX6_byteAt (s_byteAt n (zu iv 15 2 (nI p)) _ s hs hs8 p (by omega)) zc_6 rfl zk_15 (by decide) (by decide) rfl rfl (Nat.le_of_ble_eq_true rfl) (by decide) (by decide) ?_
      refine zs_callSi C dX6_takeWord_24 zm_X6_49 zyX6_isLetter (s_isL _ _ _ _) (by decide) rfl rfl (Nat.le_of_ble_eq_true rfl) (by decide) (by decide) ?_
      refine zb_if_eq (tgt := 43) C dX6_takeWord_27 (by decide) (fun q27 => ?_) (fun q27 => ?_)
      · refine z_aload_n C dX6_takeWord_43 rfl ?_
        refine z_getI C dX6_takeWord_44 zf_X6_35 zk_15 (by decide) ?_
        rw [ea]
        refine z_iload_n C dX6_takeWord_47 rfl ?_
        refine z_isub C dX6_takeWord_48 ?_
        rw [zsubN (by omega) (by omega)]
        refine z_bipush (v := 8) C dX6_takeWord_49 (by decide) ?_
        refine zt_icmp_le (tgt := 58) C dX6_takeWord_51 (nI_toInt (by omega)) (show (8 : Int32).toInt = 8 by decide) (by decide) (fun q51 => ?_) (fun q51 => ?_)
        · refine z_aload_n C dX6_takeWord_58 rfl ?_
          refine z_iload_n C dX6_takeWord_59 rfl ?_
          refine zs_callVi C dX6_takeWord_60 zm_X6_69 zyX6_wordKind (s_wordKind n (zu iv 15 2 (nI p)) _ s hs hs8 q p ea (by omega) hqp) zc_6 rfl zk_15 (by decide) (by decide) rfl rfl (Nat.le_of_ble_eq_true rfl) (by decide) (by decide) ?_
          refine zs_iret C E dX6_takeWord_63 rfl ?_ ?_ ?_
          · have e0p : p = e0 := by
              rw [← hr, zrn, if_neg (show ¬ zle (zT (iv 13) s) p = true from fun z => q27 (decide_eq_true_iff.mp z))]
            subst e0p
            exact (if_neg (by omega)).symm
          · rw [← hr, zrn, if_neg (show ¬ zle (zT (iv 13) s) p = true from fun z => q27 (decide_eq_true_iff.mp z))]
          · rfl
        · refine z_iconst (v := 2) C dX6_takeWord_54 (by decide) ?_
          refine z_goto (tgt := 63) C dX6_takeWord_55 (by decide) ?_
          refine zs_iret C E dX6_takeWord_63 rfl ?_ ?_ ?_
          · have e0p : p = e0 := by
              rw [← hr, zrn, if_neg (show ¬ zle (zT (iv 13) s) p = true from fun z => q27 (decide_eq_true_iff.mp z))]
            subst e0p
            exact (if_pos (by omega)).symm
          · rw [← hr, zrn, if_neg (show ¬ zle (zT (iv 13) s) p = true from fun z => q27 (decide_eq_true_iff.mp z))]
          · rfl
      · refine z_aload_n C dX6_takeWord_30 rfl ?_
        refine z_dup C dX6_takeWord_31 rfl ?_
        refine z_getI C dX6_takeWord_32 zf_X6_35 zk_15 (by decide) ?_
        rw [ea]
        refine z_iconst (v := 1) C dX6_takeWord_35 (by decide) ?_
        refine z_iadd C dX6_takeWord_36 ?_
        refine z_putI C dX6_takeWord_37 zf_X6_35 zk_15 (by decide) ?_
        refine z_goto (tgt := 5) C dX6_takeWord_40 (by decide) ?_
        rw [nI_1 p, zu_zu]
        refine ih (p + 1) (by omega) (by omega) ?_
        rw [← hr, zrn, if_pos (show zle (zT (iv 13) s) p = true from decide_eq_true_iff.mpr q27)]

set_option maxRecDepth 4000 in
theorem s_word (n : Nat) (iv : zI) (lw : zG) (s : Nat) (hs : iv 15 1 = nI s) (hs8 : s ≤ 800) (q : Nat) (hq : q ≤ s) (ha : iv 15 2 = nI q) : zMi yX6_takeWord cX6_takeWord 2 (some .int) 9 [.ref 15] n iv lw (if 8 < (zrn (zle (zT (iv 13) s)) q (s - q)) - q then (2 : Int32) else zwd (zT (iv 13) s) q (zrn (zle (zT (iv 13) s)) q (s - q)) 88 0 0 200) (zu iv 15 2 (nI (zrn (zle (zT (iv 13) s)) q (s - q)))) lw := by
  refine zM.of (by decide) (Nat.le_of_ble_eq_true rfl) (fun X C E => ?_)
  change zJs X n 2 0 [some (.ref 15), none] [] iv lw
  refine z_aload_n C dX6_takeWord_0 rfl ?_
  refine z_getI C dX6_takeWord_1 zf_X6_35 zk_15 (by decide) ?_
  refine z_eqi ha ?_
  refine z_istore_n (lv' := [some (.ref 15), some (.int _)]) C dX6_takeWord_4 (by decide) rfl ?_
  refine z_eqv (zu_id ha).symm ?_
  exact ls_tw n iv lw s hs hs8 q _ (zC_le (by decide) C) E (s - q) q (by omega) (Nat.le_refl _) rfl

def znm (T : Nat → Int32) (q : Nat) : Nat → Int32
  | 0 => 0
  | m + 1 => znm T q m * 10 + T (q + m) - 48

set_option maxHeartbeats 1000000 in
set_option maxRecDepth 4000 in
theorem ls_tn (n : Nat) (iv : zI) (lw : zG) (s : Nat) (hs : iv 15 1 = nI s) (hs8 : s ≤ 800) (q e0 : Nat) {X : zX} (C : zC X cX6_takeNumber 4 RX6 (some .int) "takeNumber" 2 0 0) (E : zEnd X (91 + 3 * n) 0 0 (zQ n (zQi (if 6 < e0 - q ∨ zisL ((zT (iv 13) s) e0) then (2 : Int32) else 1000 + znm (zT (iv 13) s) q (e0 - q)) (zu iv 15 2 (nI e0)) lw))) : ∀ (k : Nat) (p : Nat), p + k = s → q ≤ p → zrn (zdi (zT (iv 13) s)) p k = e0 → zJs X n 4 7 [some (.ref 15), some (.int (nI q)), some (.int (znm (zT (iv 13) s) q (p - q))), none] [] (zu iv 15 2 (nI p)) lw := by
  intro k
  induction k with
  | zero =>
    intro p hk hqp hr
    have ea : zu iv 15 2 (nI p) 15 2 = nI p := zu_ss _ _ _ _
    refine z_aload_n C dX6_takeNumber_7 rfl ?_
    refine z_getI C dX6_takeNumber_8 zf_X6_35 zk_15 (by decide) ?_
    refine z_aload_n C dX6_takeNumber_11 rfl ?_
    refine z_getI C dX6_takeNumber_12 zf_X6_26 zk_15 (by decide) ?_
    refine zt_icmp_ge (tgt := 62) C dX6_takeNumber_15 (zt_nI ea (by omega)) (zt_nI (show zu iv 15 2 (nI p) 15 1 = nI s from hs) (by omega)) (by decide) (fun q15 => ?_) (fun q15 => ?_)
    · refine z_aload_n C dX6_takeNumber_62 rfl ?_
      refine z_getI C dX6_takeNumber_63 zf_X6_35 zk_15 (by decide) ?_
      rw [ea]
      refine z_iload_n C dX6_takeNumber_66 rfl ?_
      refine z_isub C dX6_takeNumber_67 ?_
      rw [zsubN (by omega) (by omega)]
      refine z_bipush (v := 6) C dX6_takeNumber_68 (by decide) ?_
      refine zt_icmp_le (tgt := 77) C dX6_takeNumber_70 (nI_toInt (by omega)) (show (6 : Int32).toInt = 6 by decide) (by decide) (fun q70 => ?_) (fun q70 => ?_)
      · refine z_iconst (v := 0) C dX6_takeNumber_77 (by decide) ?_
        refine z_istore_n (lv' := [some (.ref 15), some (.int _), some (.int _), some (.int _)]) C dX6_takeNumber_78 (by decide) rfl ?_
        refine z_iload_n C dX6_takeNumber_79 rfl ?_
        refine z_if_ne (tgt := 97) C dX6_takeNumber_80 (by decide) (fun q80 => ?_) (fun q80 => ?_)
        · exact absurd q80 (by decide)
        · refine z_aload_n C dX6_takeNumber_83 rfl ?_
          refine z_aload_n C dX6_takeNumber_84 rfl ?_
          refine z_getI C dX6_takeNumber_85 zf_X6_35 zk_15 (by decide) ?_
          rw [ea]
          refine zs_callVi C dX6_takeNumber_88 zm_X6_45 zyX6_byteAt (s_byteAt n (zu iv 15 2 (nI p)) _ s hs hs8 p (by omega)) zc_6 rfl zk_15 (by decide) (by decide) rfl rfl (Nat.le_of_ble_eq_true rfl) (by decide) (by decide) ?_
          refine zs_callSi C dX6_takeNumber_91 zm_X6_49 zyX6_isLetter (s_isL _ _ _ _) (by decide) rfl rfl (Nat.le_of_ble_eq_true rfl) (by decide) (by decide) ?_
          refine zb_if_eq (tgt := 101) C dX6_takeNumber_94 (by decide) (fun q94 => ?_) (fun q94 => ?_)
          · refine z_sipush (v := 1000) C dX6_takeNumber_101 (by decide) ?_
            refine z_iload_n C dX6_takeNumber_104 rfl ?_
            refine z_iadd C dX6_takeNumber_105 ?_
            refine zs_iret C E dX6_takeNumber_106 rfl ?_ ?_ ?_
            · have e0p : p = e0 := by rw [← hr]; rfl
              subst e0p
              exact (if_neg (fun z => by rcases z with z | z <;> first | omega | exact q94 z)).symm
            · rw [← hr]; rfl
            · rfl
          · refine z_iconst (v := 2) C dX6_takeNumber_97 (by decide) ?_
            refine z_goto (tgt := 106) C dX6_takeNumber_98 (by decide) ?_
            refine zs_iret C E dX6_takeNumber_106 rfl ?_ ?_ ?_
            · have e0p : p = e0 := by rw [← hr]; rfl
              subst e0p
              exact (if_pos (Or.inr q94)).symm
            · rw [← hr]; rfl
            · rfl
      · refine z_iconst (v := 1) C dX6_takeNumber_73 (by decide) ?_
        refine z_goto (tgt := 78) C dX6_takeNumber_74 (by decide) ?_
        refine z_istore_n (lv' := [some (.ref 15), some (.int _), some (.int _), some (.int _)]) C dX6_takeNumber_78 (by decide) rfl ?_
        refine z_iload_n C dX6_takeNumber_79 rfl ?_
        refine z_if_ne (tgt := 97) C dX6_takeNumber_80 (by decide) (fun q80 => ?_) (fun q80 => ?_)
        · refine z_iconst (v := 2) C dX6_takeNumber_97 (by decide) ?_
          refine z_goto (tgt := 106) C dX6_takeNumber_98 (by decide) ?_
          refine zs_iret C E dX6_takeNumber_106 rfl ?_ ?_ ?_
          · have e0p : p = e0 := by rw [← hr]; rfl
            subst e0p
            exact (if_pos (Or.inl (by omega))).symm
          · rw [← hr]; rfl
          · rfl
        · exact absurd q80 (by decide)
    · exfalso; omega
  | succ k ih =>
    intro p hk hqp hr
    have ea : zu iv 15 2 (nI p) 15 2 = nI p := zu_ss _ _ _ _
    refine z_aload_n C dX6_takeNumber_7 rfl ?_
    refine z_getI C dX6_takeNumber_8 zf_X6_35 zk_15 (by decide) ?_
    refine z_aload_n C dX6_takeNumber_11 rfl ?_
    refine z_getI C dX6_takeNumber_12 zf_X6_26 zk_15 (by decide) ?_
    refine zt_icmp_ge (tgt := 62) C dX6_takeNumber_15 (zt_nI ea (by omega)) (zt_nI (show zu iv 15 2 (nI p) 15 1 = nI s from hs) (by omega)) (by decide) (fun q15 => ?_) (fun q15 => ?_)
    · exfalso; omega
    · refine z_aload_n C dX6_takeNumber_18 rfl ?_
      refine z_aload_n C dX6_takeNumber_19 rfl ?_
      refine z_getI C dX6_takeNumber_20 zf_X6_35 zk_15 (by decide) ?_
      rw [ea]
      refine zs_callVi C dX6_takeNumber_23 zm_X6_45 zyX6_byteAt (s_byteAt n (zu iv 15 2 (nI p)) _ s hs hs8 p (by omega)) zc_6 rfl zk_15 (by decide) (by decide) rfl rfl (Nat.le_of_ble_eq_true rfl) (by decide) (by decide) ?_
      refine zs_callSi C dX6_takeNumber_26 zm_X6_56 zyX6_isDigit (s_isD _ _ _ _) (by decide) rfl rfl (Nat.le_of_ble_eq_true rfl) (by decide) (by decide) ?_
      refine zb_if_eq (tgt := 62) C dX6_takeNumber_29 (by decide) (fun q29 => ?_) (fun q29 => ?_)
      · refine z_aload_n C dX6_takeNumber_62 rfl ?_
        refine z_getI C dX6_takeNumber_63 zf_X6_35 zk_15 (by decide) ?_
        rw [ea]
        refine z_iload_n C dX6_takeNumber_66 rfl ?_
        refine z_isub C dX6_takeNumber_67 ?_
        rw [zsubN (by omega) (by omega)]
        refine z_bipush (v := 6) C dX6_takeNumber_68 (by decide) ?_
        refine zt_icmp_le (tgt := 77) C dX6_takeNumber_70 (nI_toInt (by omega)) (show (6 : Int32).toInt = 6 by decide) (by decide) (fun q70 => ?_) (fun q70 => ?_)
        · refine z_iconst (v := 0) C dX6_takeNumber_77 (by decide) ?_
          refine z_istore_n (lv' := [some (.ref 15), some (.int _), some (.int _), some (.int _)]) C dX6_takeNumber_78 (by decide) rfl ?_
          refine z_iload_n C dX6_takeNumber_79 rfl ?_
          refine z_if_ne (tgt := 97) C dX6_takeNumber_80 (by decide) (fun q80 => ?_) (fun q80 => ?_)
          · exact absurd q80 (by decide)
          · refine z_aload_n C dX6_takeNumber_83 rfl ?_
            refine z_aload_n C dX6_takeNumber_84 rfl ?_
            refine z_getI C dX6_takeNumber_85 zf_X6_35 zk_15 (by decide) ?_
            rw [ea]
            refine zs_callVi C dX6_takeNumber_88 zm_X6_45 zyX6_byteAt (s_byteAt n (zu iv 15 2 (nI p)) _ s hs hs8 p (by omega)) zc_6 rfl zk_15 (by decide) (by decide) rfl rfl (Nat.le_of_ble_eq_true rfl) (by decide) (by decide) ?_
            refine zs_callSi C dX6_takeNumber_91 zm_X6_49 zyX6_isLetter (s_isL _ _ _ _) (by decide) rfl rfl (Nat.le_of_ble_eq_true rfl) (by decide) (by decide) ?_
            refine zb_if_eq (tgt := 101) C dX6_takeNumber_94 (by decide) (fun q94 => ?_) (fun q94 => ?_)
            · refine z_sipush (v := 1000) C dX6_takeNumber_101 (by decide) ?_
              refine z_iload_n C dX6_takeNumber_104 rfl ?_
              refine z_iadd C dX6_takeNumber_105 ?_
              refine zs_iret C E dX6_takeNumber_106 rfl ?_ ?_ ?_
              · have e0p : p = e0 := by
                  rw [← hr, zrn, if_neg (show ¬ zdi (zT (iv 13) s) p = true from fun z => q29 (decide_eq_true_iff.mp z))]
                subst e0p
                exact (if_neg (fun z => by rcases z with z | z <;> first | omega | exact q94 z)).symm
              · rw [← hr, zrn, if_neg (show ¬ zdi (zT (iv 13) s) p = true from fun z => q29 (decide_eq_true_iff.mp z))]
              · rfl
            · refine z_iconst (v := 2) C dX6_takeNumber_97 (by decide) ?_
              refine z_goto (tgt := 106) C dX6_takeNumber_98 (by decide) ?_
              refine zs_iret C E dX6_takeNumber_106 rfl ?_ ?_ ?_
              · have e0p : p = e0 := by
                  rw [← hr, zrn, if_neg (show ¬ zdi (zT (iv 13) s) p = true from fun z => q29 (decide_eq_true_iff.mp z))]
                subst e0p
                exact (if_pos (Or.inr q94)).symm
              · rw [← hr, zrn, if_neg (show ¬ zdi (zT (iv 13) s) p = true from fun z => q29 (decide_eq_true_iff.mp z))]
              · rfl
        · refine z_iconst (v := 1) C dX6_takeNumber_73 (by decide) ?_
          refine z_goto (tgt := 78) C dX6_takeNumber_74 (by decide) ?_
          refine z_istore_n (lv' := [some (.ref 15), some (.int _), some (.int _), some (.int _)]) C dX6_takeNumber_78 (by decide) rfl ?_
          refine z_iload_n C dX6_takeNumber_79 rfl ?_
          refine z_if_ne (tgt := 97) C dX6_takeNumber_80 (by decide) (fun q80 => ?_) (fun q80 => ?_)
          · refine z_iconst (v := 2) C dX6_takeNumber_97 (by decide) ?_
            refine z_goto (tgt := 106) C dX6_takeNumber_98 (by decide) ?_
            refine zs_iret C E dX6_takeNumber_106 rfl ?_ ?_ ?_
            · have e0p : p = e0 := by
                rw [← hr, zrn, if_neg (show ¬ zdi (zT (iv 13) s) p = true from fun z => q29 (decide_eq_true_iff.mp z))]
              subst e0p
              exact (if_pos (Or.inl (by omega))).symm
            · rw [← hr, zrn, if_neg (show ¬ zdi (zT (iv 13) s) p = true from fun z => q29 (decide_eq_true_iff.mp z))]
            · rfl
          · exact absurd q80 (by decide)
      · refine z_iload_n C dX6_takeNumber_32 rfl ?_
        refine z_bipush (v := 10) C dX6_takeNumber_33 (by decide) ?_
        refine z_imul C dX6_takeNumber_35 ?_
        refine z_aload_n C dX6_takeNumber_36 rfl ?_
        refine z_aload_n C dX6_takeNumber_37 rfl ?_
        refine z_getI C dX6_takeNumber_38 zf_X6_35 zk_15 (by decide) ?_
        rw [ea]
        refine zs_callVi C dX6_takeNumber_41 zm_X6_45 zyX6_byteAt (s_byteAt n (zu iv 15 2 (nI p)) _ s hs hs8 p (by omega)) zc_6 rfl zk_15 (by decide) (by decide) rfl rfl (Nat.le_of_ble_eq_true rfl) (by decide) (by decide) ?_
        refine z_iadd C dX6_takeNumber_44 ?_
        refine z_bipush (v := 48) C dX6_takeNumber_45 (by decide) ?_
        refine z_isub C dX6_takeNumber_47 ?_
        refine z_istore_n (lv' := [some (.ref 15), some (.int _), some (.int _), none]) C dX6_takeNumber_48 (by decide) rfl ?_
        refine z_aload_n C dX6_takeNumber_49 rfl ?_
        refine z_dup C dX6_takeNumber_50 rfl ?_
        refine z_getI C dX6_takeNumber_51 zf_X6_35 zk_15 (by decide) ?_
        rw [ea]
        refine z_iconst (v := 1) C dX6_takeNumber_54 (by decide) ?_
        refine z_iadd C dX6_takeNumber_55 ?_
        refine z_putI C dX6_takeNumber_56 zf_X6_35 zk_15 (by decide) ?_
        refine z_goto (tgt := 7) C dX6_takeNumber_59 (by decide) ?_
        rw [nI_1 p, zu_zu]
        have en : znm (zT (iv 13) s) q (p - q) * 10 + (zT (iv 13) s) p - 48 = znm (zT (iv 13) s) q (p + 1 - q) := by
          rw [show p + 1 - q = (p - q) + 1 by omega, znm, show q + (p - q) = p by omega]
        have e := ih (p + 1) (by omega) (by omega) (by rw [← hr, zrn, if_pos (show zdi (zT (iv 13) s) p = true from decide_eq_true_iff.mpr q29)])
        rw [← en] at e
        exact e

set_option maxRecDepth 4000 in
theorem s_number (n : Nat) (iv : zI) (lw : zG) (s : Nat) (hs : iv 15 1 = nI s) (hs8 : s ≤ 800) (q : Nat) (hq : q ≤ s) (ha : iv 15 2 = nI q) : zMi yX6_takeNumber cX6_takeNumber 4 (some .int) 2 [.ref 15] n iv lw (if 6 < (zrn (zdi (zT (iv 13) s)) q (s - q)) - q ∨ zisL ((zT (iv 13) s) (zrn (zdi (zT (iv 13) s)) q (s - q))) then (2 : Int32) else 1000 + znm (zT (iv 13) s) q ((zrn (zdi (zT (iv 13) s)) q (s - q)) - q)) (zu iv 15 2 (nI (zrn (zdi (zT (iv 13) s)) q (s - q)))) lw := by
  refine zM.of (by decide) (Nat.le_of_ble_eq_true rfl) (fun X C E => ?_)
  change zJs X n 4 0 [some (.ref 15), none, none, none] [] iv lw
  refine z_aload_n C dX6_takeNumber_0 rfl ?_
  refine z_getI C dX6_takeNumber_1 zf_X6_35 zk_15 (by decide) ?_
  refine z_eqi ha ?_
  refine z_istore_n (lv' := [some (.ref 15), some (.int _), none, none]) C dX6_takeNumber_4 (by decide) rfl ?_
  refine z_iconst (v := 0) C dX6_takeNumber_5 (by decide) ?_
  refine z_istore_n (lv' := [some (.ref 15), some (.int _), some (.int _), none]) C dX6_takeNumber_6 (by decide) rfl ?_
  refine z_eqv (zu_id ha).symm ?_
  have e := ls_tn n iv lw s hs hs8 q _ (zC_le (by decide) C) E (s - q) q (by omega) (Nat.le_refl _) rfl
  rw [Nat.sub_self] at e
  exact e

/-- the token at q, and its end -/
def ztok (T : Nat → Int32) (s q : Nat) : Int32 := if s ≤ q then 1 else if zisL (T q) then (if 8 < zrn (zle T) q (s - q) - q then 2 else zwd T q (zrn (zle T) q (s - q)) 88 0 0 200) else if zisD (T q) then (if 6 < zrn (zdi T) q (s - q) - q ∨ zisL (T (zrn (zdi T) q (s - q))) then 2 else 1000 + znm T q (zrn (zdi T) q (s - q) - q)) else if 0 < (T q).toInt ∧ zsgn (T q) then T q else 2
def zte (T : Nat → Int32) (s q : Nat) : Nat := if s ≤ q then q else if zisL (T q) then zrn (zle T) q (s - q) else if zisD (T q) then zrn (zdi T) q (s - q) else q + 1

set_option maxHeartbeats 1000000 in
set_option maxRecDepth 4000 in
theorem s_token (n : Nat) (iv : zI) (lw : zG) (s : Nat) (hs : iv 15 1 = nI s) (hs8 : s ≤ 800) (q : Nat) (hq : q ≤ s) (ha : iv 15 2 = nI q) (hB : ∀ j, (zT (iv 13) s j).toInt < 128) : zMi yX6_takeToken cX6_takeToken 2 (some .int) 10 [.ref 15] n iv lw (ztok (zT (iv 13) s) s q) (zu iv 15 2 (nI (zte (zT (iv 13) s) s q))) lw := by
  refine zM.of (by decide) (Nat.le_of_ble_eq_true rfl) (fun X C E => ?_)
  change zJs X n 2 0 [some (.ref 15), none] [] iv lw
  refine z_aload_n C dX6_takeToken_0 rfl ?_
  refine z_getI C dX6_takeToken_1 zf_X6_35 zk_15 (by decide) ?_
  refine z_aload_n C dX6_takeToken_4 rfl ?_
  refine z_getI C dX6_takeToken_5 zf_X6_26 zk_15 (by decide) ?_
  refine zt_icmp_lt (tgt := 13) C dX6_takeToken_8 (zt_nI ha (by omega)) (zt_nI hs (by omega)) (by decide) (fun q8 => ?_) (fun q8 => ?_)
  · refine z_aload_n C dX6_takeToken_13 rfl ?_
    refine z_aload_n C dX6_takeToken_14 rfl ?_
    refine z_getI C dX6_takeToken_15 zf_X6_35 zk_15 (by decide) ?_
    rw [ha]
    refine zs_callVi C dX6_takeToken_18 zm_X6_45 zyX6_byteAt (s_byteAt n iv _ s hs hs8 q (by omega)) zc_6 rfl zk_15 (by decide) (by decide) rfl rfl (Nat.le_of_ble_eq_true rfl) (by decide) (by decide) ?_
    refine z_istore_n (lv' := [some (.ref 15), some (.int _)]) C dX6_takeToken_21 (by decide) rfl ?_
    refine z_iload_n C dX6_takeToken_22 rfl ?_
    refine zs_callSi C dX6_takeToken_23 zm_X6_49 zyX6_isLetter (s_isL _ _ _ _) (by decide) rfl rfl (Nat.le_of_ble_eq_true rfl) (by decide) (by decide) ?_
    refine zb_if_eq (tgt := 34) C dX6_takeToken_26 (by decide) (fun q26 => ?_) (fun q26 => ?_)
    · refine z_iload_n C dX6_takeToken_34 rfl ?_
      refine zs_callSi C dX6_takeToken_35 zm_X6_56 zyX6_isDigit (s_isD _ _ _ _) (by decide) rfl rfl (Nat.le_of_ble_eq_true rfl) (by decide) (by decide) ?_
      refine zb_if_eq (tgt := 46) C dX6_takeToken_38 (by decide) (fun q38 => ?_) (fun q38 => ?_)
      · refine z_aload_n C dX6_takeToken_46 rfl ?_
        refine z_dup C dX6_takeToken_47 rfl ?_
        refine z_getI C dX6_takeToken_48 zf_X6_35 zk_15 (by decide) ?_
        rw [ha]
        refine z_iconst (v := 1) C dX6_takeToken_51 (by decide) ?_
        refine z_iadd C dX6_takeToken_52 ?_
        rw [nI_1 q]
        refine z_putI C dX6_takeToken_53 zf_X6_35 zk_15 (by decide) ?_
        refine z_iload_n C dX6_takeToken_56 rfl ?_
        refine zt_if_le (tgt := 74) C dX6_takeToken_57 rfl (by decide) (fun q57 => ?_) (fun q57 => ?_)
        · refine z_iconst (v := 2) C dX6_takeToken_74 (by decide) ?_
          refine zs_iret C E dX6_takeToken_75 rfl ?_ ?_ ?_
          · unfold ztok
            rw [if_neg (by omega), if_neg q26, if_neg q38, if_neg (fun z => by have := z.1; omega)]
          · unfold zte
            rw [if_neg (by omega), if_neg q26, if_neg q38]
          · rfl
        · refine z_ldcSS C dX6_takeToken_60 ?_
          refine z_iload_n C dX6_takeToken_62 rfl ?_
          refine z_i2c C dX6_takeToken_63 ?_
          refine z_eqi (zi2c (by omega) (hB q)) ?_
          refine zs_callTi 1 (by decide) C dX6_takeToken_64 zm_X6_64 zyJ0_indexOf_0f7a4 (j_indexOf n _ _ (zT (iv 13) s q) ⟨by omega, hB q⟩) rfl (by decide) rfl rfl (Nat.le_of_ble_eq_true rfl) (by decide) (by decide) ?_
          refine zt_if_lt (tgt := 74) C dX6_takeToken_67 rfl (by decide) (fun q67 => ?_) (fun q67 => ?_)
          · refine z_iconst (v := 2) C dX6_takeToken_74 (by decide) ?_
            refine zs_iret C E dX6_takeToken_75 rfl ?_ ?_ ?_
            · unfold ztok
              rw [if_neg (by omega), if_neg q26, if_neg q38, if_neg (fun z => by have := (zsgf_iff _).mpr z.2; omega)]
            · unfold zte
              rw [if_neg (by omega), if_neg q26, if_neg q38]
            · rfl
          · refine z_iload_n C dX6_takeToken_70 rfl ?_
            refine z_goto (tgt := 75) C dX6_takeToken_71 (by decide) ?_
            refine zs_iret C E dX6_takeToken_75 rfl ?_ ?_ ?_
            · unfold ztok
              rw [if_neg (by omega), if_neg q26, if_neg q38, if_pos ⟨by omega, (zsgf_iff _).mp (by omega)⟩]
            · unfold zte
              rw [if_neg (by omega), if_neg q26, if_neg q38]
            · rfl
      · refine z_aload_n C dX6_takeToken_41 rfl ?_
        refine zs_callVi C dX6_takeToken_42 zm_X6_59 zyX6_takeNumber (s_number n iv _ s hs hs8 q hq ha) zc_6 rfl zk_15 (by decide) (by decide) rfl rfl (Nat.le_of_ble_eq_true rfl) (by decide) (by decide) ?_
        refine zs_iret C E dX6_takeToken_45 rfl ?_ ?_ ?_
        · unfold ztok
          rw [if_neg (show ¬ s ≤ q by omega), if_neg q26, if_pos q38]
        · unfold zte
          rw [if_neg (by omega), if_neg q26, if_pos q38]
        · rfl
    · refine z_aload_n C dX6_takeToken_29 rfl ?_
      refine zs_callVi C dX6_takeToken_30 zm_X6_53 zyX6_takeWord (s_word n iv _ s hs hs8 q hq ha) zc_6 rfl zk_15 (by decide) (by decide) rfl rfl (Nat.le_of_ble_eq_true rfl) (by decide) (by decide) ?_
      refine zs_iret C E dX6_takeToken_33 rfl ?_ ?_ ?_
      · unfold ztok
        rw [if_neg (show ¬ s ≤ q by omega), if_pos q26]
      · unfold zte
        rw [if_neg (by omega), if_pos q26]
      · rfl
  · refine z_iconst (v := 1) C dX6_takeToken_11 (by decide) ?_
    refine zs_iret C E dX6_takeToken_12 rfl ?_ ?_ ?_
    · unfold ztok
      exact (if_pos (by omega)).symm
    · unfold zte
      rw [if_pos (by omega), zu_id ha]
    · rfl

set_option maxRecDepth 4000 in
theorem s_kindOf (n : Nat) (iv : zI) (lw : zG) (tk : Nat) (ht : iv 15 3 = nI tk) (ht8 : tk ≤ 801) (i : Nat) (hi : i < 2 ^ 31) : zMi yX6_kindOf cX6_kindOf 2 (some .int) 0 [.ref 15, .int (nI i)] n iv lw (if i < tk then iv 16 i else 1) iv lw := by
  refine zM.of (by decide) (Nat.le_of_ble_eq_true rfl) (fun X C E => ?_)
  change zJs X n 2 0 [some (.ref 15), some (.int (nI i))] [] iv lw
  refine z_iload_n C dX6_kindOf_0 rfl ?_
  refine zt_if_lt (tgt := 21) C dX6_kindOf_1 (nI_toInt hi) (by decide) (fun q1 => ?_) (fun q1 => ?_)
  · exfalso; omega
  · refine z_iload_n C dX6_kindOf_4 rfl ?_
    refine z_aload_n C dX6_kindOf_5 rfl ?_
    refine z_getI C dX6_kindOf_6 zf_X6_22 zk_15 (by decide) ?_
    refine zt_icmp_ge (tgt := 21) C dX6_kindOf_9 (nI_toInt hi) (zt_nI ht (by omega)) (by decide) (fun q9 => ?_) (fun q9 => ?_)
    · refine z_iconst (v := 1) C dX6_kindOf_21 (by decide) ?_
      refine zs_iret C E dX6_kindOf_22 rfl ?_ ?_ ?_
      · exact (if_neg (by omega)).symm
      · rfl
      · rfl
    · refine z_aload_n C dX6_kindOf_12 rfl ?_
      refine zs_getR C dX6_kindOf_13 zf_X6_15 zk_15 (by decide) (zr_15_4 n) ?_
      refine z_iload_n C dX6_kindOf_16 rfl ?_
      refine z_iald C dX6_kindOf_17 zk_16 (by decide) ?_ ?_
      · exact vp_in_nI (by omega) (by decide)
      refine z_goto (tgt := 22) C dX6_kindOf_18 (by decide) ?_
      refine zs_iret C E dX6_kindOf_22 rfl ?_ ?_ ?_
      · rw [nI_clamp hi]
        exact (if_pos (by omega)).symm
      · rfl
      · rfl

set_option maxRecDepth 4000 in
theorem s_placeOf (n : Nat) (iv : zI) (lw : zG) (tk : Nat) (ht : iv 15 3 = nI tk) (ht8 : tk ≤ 801) (i : Nat) (hi : i < 2 ^ 31) : zMi yX6_placeOf cX6_placeOf 2 (some .int) 0 [.ref 15, .int (nI i)] n iv lw (if i < tk then iv 17 i else iv 15 1) iv lw := by
  refine zM.of (by decide) (Nat.le_of_ble_eq_true rfl) (fun X C E => ?_)
  change zJs X n 2 0 [some (.ref 15), some (.int (nI i))] [] iv lw
  refine z_iload_n C dX6_placeOf_0 rfl ?_
  refine zt_if_lt (tgt := 21) C dX6_placeOf_1 (nI_toInt hi) (by decide) (fun q1 => ?_) (fun q1 => ?_)
  · exfalso; omega
  · refine z_iload_n C dX6_placeOf_4 rfl ?_
    refine z_aload_n C dX6_placeOf_5 rfl ?_
    refine z_getI C dX6_placeOf_6 zf_X6_22 zk_15 (by decide) ?_
    refine zt_icmp_ge (tgt := 21) C dX6_placeOf_9 (nI_toInt hi) (zt_nI ht (by omega)) (by decide) (fun q9 => ?_) (fun q9 => ?_)
    · refine z_aload_n C dX6_placeOf_21 rfl ?_
      refine z_getI C dX6_placeOf_22 zf_X6_26 zk_15 (by decide) ?_
      refine zs_iret C E dX6_placeOf_25 rfl ?_ ?_ ?_
      · exact (if_neg (by omega)).symm
      · rfl
      · rfl
    · refine z_aload_n C dX6_placeOf_12 rfl ?_
      refine zs_getR C dX6_placeOf_13 zf_X6_19 zk_15 (by decide) (zr_15_5 n) ?_
      refine z_iload_n C dX6_placeOf_16 rfl ?_
      refine z_iald C dX6_placeOf_17 zk_17 (by decide) ?_ ?_
      · exact vp_in_nI (by omega) (by decide)
      refine z_goto (tgt := 25) C dX6_placeOf_18 (by decide) ?_
      refine zs_iret C E dX6_placeOf_25 rfl ?_ ?_ ?_
      · rw [nI_clamp hi]
        exact (if_pos (by omega)).symm
      · rfl
      · rfl

/-- where the scanner stands before token i; where token i lies; what it is -/
def zps (T : Nat → Int32) (s : Nat) : Nat → Nat
  | 0 => 0
  | i + 1 => zte T s (zrn (zbl T) (zps T s i) (s - zps T s i))
def zpl (T : Nat → Int32) (s i : Nat) : Nat := zrn (zbl T) (zps T s i) (s - zps T s i)
def zkn (T : Nat → Int32) (s i : Nat) : Int32 := ztok T s (zpl T s i)
theorem zps_s (T : Nat → Int32) (s i : Nat) : zps T s (i + 1) = zte T s (zpl T s i) := rfl
theorem zte_le {T : Nat → Int32} {s q : Nat} (h : q ≤ s) : zte T s q ≤ s := by
  have h1 := zrn_ge (zle T) (s - q) q
  have h2 := zrn_ge (zdi T) (s - q) q
  unfold zte
  split
  · omega
  · split
    · omega
    · split <;> omega
theorem zps_le (T : Nat → Int32) (s : Nat) : ∀ i, zps T s i ≤ s
  | 0 => Nat.zero_le _
  | i + 1 => by
    have h := zps_le T s i
    have h1 := zrn_ge (zbl T) (s - zps T s i) (zps T s i)
    exact zte_le (by omega)
theorem zpl_in (T : Nat → Int32) (s i : Nat) : zps T s i ≤ zpl T s i ∧ zpl T s i ≤ s := by
  have h := zps_le T s i
  have h1 := zrn_ge (zbl T) (s - zps T s i) (zps T s i)
  unfold zpl
  omega
theorem zrn_1 {f : Nat → Bool} {p n : Nat} (hn : 1 ≤ n) (hf : f p = true) : p + 1 ≤ zrn f p n := by
  match n, hn with
  | n + 1, _ =>
    unfold zrn
    rw [if_pos hf]
    exact (zrn_ge f n (p + 1)).1
/-- a token that is not the END is some byte at least -/
theorem zps_lt {T : Nat → Int32} {s i : Nat} (h : ¬ zkn T s i = 1) : zpl T s i < s ∧ zpl T s i + 1 ≤ zps T s (i + 1) := by
  have h1 := zpl_in T s i
  have h2 : zpl T s i < s := by
    rcases Nat.lt_or_ge (zpl T s i) s with q | q
    · exact q
    · exact absurd (show zkn T s i = 1 by unfold zkn ztok; rw [if_pos q]) h
  refine ⟨h2, ?_⟩
  rw [zps_s]
  unfold zte
  rw [if_neg (by omega)]
  split
  · next q => exact zrn_1 (by omega) (decide_eq_true_iff.mpr q)
  · split
    · next q => exact zrn_1 (by omega) (decide_eq_true_iff.mpr q)
    · omega
def zls (T : Nat → Int32) (s i : Nat) : Prop := zkn T s i = 1 ∨ zkn T s i = 2
theorem zps_ge {T : Nat → Int32} {s : Nat} : ∀ i, (∀ j, j < i → ¬ zls T s j) → i ≤ zps T s i
  | 0, _ => Nat.zero_le _
  | i + 1, h => by
    have ih := zps_ge i (fun j hj => h j (by omega))
    have := (zps_lt (fun z => h i (by omega) (Or.inl z))).2
    have := zpl_in T s i
    omega
/-- what divide leaves -/
def zTk (B : Nat → Int32) (s tk : Nat) (iv : zI) : Prop := (1 ≤ tk ∧ tk ≤ 801) ∧ iv 15 1 = nI s ∧ iv 15 3 = nI tk ∧ (∀ i, i < tk → iv 16 i = zkn (zT B s) s i ∧ iv 17 i = nI (zpl (zT B s) s i)) ∧ (∀ i, i + 1 < tk → ¬ zls (zT B s) s i) ∧ zls (zT B s) s (tk - 1)
def zf15 (u v : zI) : Prop := ∀ q, q ≠ 15 → q ≠ 16 → q ≠ 17 → u q = v q

def zmr (T : Nat → Int32) (s i : Nat) (mo : Int32) : Prop := (mo = 1 ∧ ∀ j, j < i → ¬ zls T s j) ∨ (mo = 0 ∧ 1 ≤ i ∧ zls T s (i - 1) ∧ ∀ j, j + 1 < i → ¬ zls T s j)
theorem zdv_more {T : Nat → Int32} {s i : Nat} {mo : Int32} (h : ∀ j, j < i → ¬ zls T s j) (k : (mo = 1 ∧ ¬ zls T s i) ∨ (mo = 0 ∧ zls T s i)) : zmr T s (i + 1) mo := by
  rcases k with ⟨rfl, k⟩ | ⟨rfl, k⟩
  · refine Or.inl ⟨rfl, fun j hj => ?_⟩
    by_cases e : j = i
    · subst e; exact k
    · exact h j (by omega)
  · exact Or.inr ⟨rfl, by omega, k, fun j hj => h j (by omega)⟩
theorem zdv_2 (cur : zI) (a : Int32) (b : Nat) (c d e : Int32) : zu (zu (zu (zu cur 15 2 a) 16 b c) 17 b d) 15 3 e 15 2 = a := by
  show upd (upd (cur 15) 2 a) 3 e 2 = a
  rw [pk_un (by decide), pk_us]

set_option maxHeartbeats 2000000 in
set_option maxRecDepth 4000 in
theorem ls_dv (n : Nat) (iv : zI) (lw : zG) (s : Nat) (hs8 : s ≤ 800) (hB : ∀ j, (zT (iv 13) s j).toInt < 128) (ln : Int32) {X : zX} (C : zC X cX6_divide 6 RX6 none "divide" 12 0 0) (E : zEnd X (91 + 3 * n) 0 0 (zQ n (fun v iv2 lw2 => v = none ∧ lw2 = lw ∧ zf15 iv2 iv ∧ ∃ tk, zTk (iv 13) s tk iv2))) : ∀ (k : Nat) (i : Nat) (mo : Int32) (cur : zI), i + k = 801 → zf15 cur iv → cur 15 1 = nI s → cur 15 2 = nI (zps (zT (iv 13) s) s i) → cur 15 3 = nI i → (∀ j, j < i → cur 16 j = zkn (zT (iv 13) s) s j ∧ cur 17 j = nI (zpl (zT (iv 13) s) s j)) → zmr (zT (iv 13) s) s i mo → zJs X n 6 27 [some (.ref 15), some (.int ln), some (.int mo), some (.int (nI i)), none, none] [] cur lw := by
  intro k
  induction k with
  | zero =>
    intro i mo cur hk hf h1 h2 h3 h4 hm
    have e13 : cur 13 = iv 13 := hf 13 (by decide) (by decide) (by decide)
    refine z_iload_n C dX6_divide_27 rfl ?_
    refine z_sipush (v := 801) C dX6_divide_28 (by decide) ?_
    refine zt_icmp_ge (tgt := 104) C dX6_divide_31 (nI_toInt (by omega)) (show (801 : Int32).toInt = 801 by decide) (by decide) (fun q31 => ?_) (fun q31 => ?_)
    · refine zs_qvret C E dX6_divide_104 ?_
      rcases hm with ⟨-, hm⟩ | ⟨-, hm1, hm2, hm3⟩
      · have := zps_ge i hm
        have := zps_le (zT (iv 13) s) s i
        exfalso; omega
      · exact ⟨rfl, rfl, hf, i, ⟨by omega, by omega⟩, h1, h3, h4, hm3, hm2⟩
    · exfalso; omega
  | succ k ih =>
    intro i mo cur hk hf h1 h2 h3 h4 hm
    have e13 : cur 13 = iv 13 := hf 13 (by decide) (by decide) (by decide)
    refine z_iload_n C dX6_divide_27 rfl ?_
    refine z_sipush (v := 801) C dX6_divide_28 (by decide) ?_
    refine zt_icmp_ge (tgt := 104) C dX6_divide_31 (nI_toInt (by omega)) (show (801 : Int32).toInt = 801 by decide) (by decide) (fun q31 => ?_) (fun q31 => ?_)
    · exfalso; omega
    · refine z_iload_n C dX6_divide_34 rfl ?_
      refine z_if_eq (tgt := 104) C dX6_divide_35 (by decide) (fun q35 => ?_) (fun q35 => ?_)
      · refine zs_qvret C E dX6_divide_104 ?_
        rcases hm with ⟨hm0, hm⟩ | ⟨hm0, hm1, hm2, hm3⟩
        · exact absurd q35 (by rw [hm0]; decide)
        · exact ⟨rfl, rfl, hf, i, ⟨by omega, by omega⟩, h1, h3, h4, hm3, hm2⟩
      · have hmm : ∀ j, j < i → ¬ zls (zT (iv 13) s) s j := by
          rcases hm with ⟨-, hm⟩ | ⟨hm0, -⟩
          · exact hm
          · exact absurd hm0 q35
        refine z_aload_n C dX6_divide_38 rfl ?_
        refine zs_callVv C dX6_divide_39 zm_X6_38 zyX6_skipBlanks (s_skip n cur _ s h1 hs8 (zps (zT (iv 13) s) s i) (zps_le _ _ _) h2) zc_6 rfl zk_15 (by decide) (by decide) rfl rfl (Nat.le_of_ble_eq_true rfl) (by decide) (by decide) ?_
        rw [e13]
        refine z_eqv (iv1 := zu cur 15 2 (nI (zpl (zT (iv 13) s) s i))) rfl ?_
        refine z_aload_n C dX6_divide_42 rfl ?_
        refine z_getI C dX6_divide_43 zf_X6_35 zk_15 (by decide) ?_
        refine z_eqi (zu_ss _ _ _ _) ?_
        refine z_istore (lv' := [some (.ref 15), some (.int ln), some (.int _), some (.int _), some (.int _), none]) C dX6_divide_46 (by decide) rfl ?_
        refine z_aload_n C dX6_divide_48 rfl ?_
        refine zs_callVi C dX6_divide_49 zm_X6_41 zyX6_takeToken (s_token n (zu cur 15 2 (nI (zpl (zT (iv 13) s) s i))) _ s h1 hs8 (zpl (zT (iv 13) s) s i) (zpl_in _ _ _).2 (zu_ss _ _ _ _) (by rw [show zu cur 15 2 (nI (zpl (zT (iv 13) s) s i)) 13 = iv 13 from e13]; exact hB)) zc_6 rfl zk_15 (by decide) (by decide) rfl rfl (Nat.le_of_ble_eq_true rfl) (by decide) (by decide) ?_
        rw [show zu cur 15 2 (nI (zpl (zT (iv 13) s) s i)) 13 = iv 13 from e13, zu_zu]
        refine z_eqi (show _ = zkn (zT (iv 13) s) s i from rfl) ?_
        refine z_eqv (iv1 := zu cur 15 2 (nI (zps (zT (iv 13) s) s (i + 1)))) rfl ?_
        refine z_istore (lv' := [some (.ref 15), some (.int ln), some (.int _), some (.int _), some (.int _), some (.int _)]) C dX6_divide_52 (by decide) rfl ?_
        refine z_aload_n C dX6_divide_54 rfl ?_
        refine zs_getR C dX6_divide_55 zf_X6_15 zk_15 (by decide) (zr_15_4 n) ?_
        refine z_iload_n C dX6_divide_58 rfl ?_
        refine z_iload C dX6_divide_59 rfl ?_
        refine z_iast C dX6_divide_61 zk_16 (by decide) ?_ ?_
        · exact vp_in_nI (by omega) (by decide)
        refine z_aload_n C dX6_divide_62 rfl ?_
        refine zs_getR C dX6_divide_63 zf_X6_19 zk_15 (by decide) (zr_15_5 n) ?_
        refine z_iload_n C dX6_divide_66 rfl ?_
        refine z_iload C dX6_divide_67 rfl ?_
        refine z_iast C dX6_divide_69 zk_17 (by decide) ?_ ?_
        · exact vp_in_nI (by omega) (by decide)
        refine z_aload_n C dX6_divide_70 rfl ?_
        refine z_dup C dX6_divide_71 rfl ?_
        refine z_getI C dX6_divide_72 zf_X6_22 zk_15 (by decide) ?_
        refine z_iconst (v := 1) C dX6_divide_75 (by decide) ?_
        refine z_iadd C dX6_divide_76 ?_
        rw [show zu (zu (zu cur 15 2 (nI (zps (zT (iv 13) s) s (i + 1)))) 16 (nI i).toNatClampNeg (zkn (zT (iv 13) s) s i)) 17 (nI i).toNatClampNeg (nI (zpl (zT (iv 13) s) s i)) 15 3 = nI i from h3, nI_1 i, nI_clamp (show i < 2 ^ 31 by omega)]
        refine z_putI C dX6_divide_77 zf_X6_22 zk_15 (by decide) ?_
        refine z_iload C dX6_divide_80 rfl ?_
        refine z_iconst (v := 2) C dX6_divide_82 (by decide) ?_
        refine z_icmp_eq (tgt := 96) C dX6_divide_83 (by decide) (fun q83 => ?_) (fun q83 => ?_)
        · refine z_iconst (v := 0) C dX6_divide_96 (by decide) ?_
          refine z_istore_n (lv' := [some (.ref 15), some (.int ln), some (.int _), some (.int _), some (.int _), some (.int _)]) C dX6_divide_97 (by decide) rfl ?_
          refine z_iinc (y := 1) (lv' := [some (.ref 15), some (.int ln), some (.int _), some (.int _), some (.int _), some (.int _)]) C dX6_divide_98 rfl (by decide) (by decide) rfl ?_
          refine z_goto (tgt := 27) C dX6_divide_101 (by decide) ?_
          rw [nI_1 i]
          have e := ih (i + 1) 0 (zu (zu (zu (zu cur 15 2 (nI (zps (zT (iv 13) s) s (i + 1)))) 16 i (zkn (zT (iv 13) s) s i)) 17 i (nI (zpl (zT (iv 13) s) s i))) 15 3 (nI (i + 1))) (by omega) (fun q a b c => by rw [zu_n _ _ _ a, zu_n _ _ _ c, zu_n _ _ _ b, zu_n _ _ _ a]; exact hf q a b c) h1 (zdv_2 _ _ _ _ _ _) (zu_ss _ _ _ _) (fun j hj => ?_) (zdv_more (show ∀ j, j < i → ¬ zls (zT (iv 13) s) s j from hmm) (Or.inr ⟨rfl, Or.inr q83⟩))
          · exact z_sub (zdp.sub (by repeat (first | exact True.intro | refine And.intro rfl ?_))) e
          · show upd (cur 16) i (zkn (zT (iv 13) s) s i) j = _ ∧ upd (cur 17) i (nI (zpl (zT (iv 13) s) s i)) j = _
            by_cases hji : j = i
            · subst hji; rw [pk_us, pk_us]; exact ⟨rfl, rfl⟩
            · rw [pk_un hji, pk_un hji]; exact h4 j (by omega)
        · refine z_iload C dX6_divide_86 rfl ?_
          refine z_iconst (v := 1) C dX6_divide_88 (by decide) ?_
          refine z_icmp_eq (tgt := 96) C dX6_divide_89 (by decide) (fun q89 => ?_) (fun q89 => ?_)
          · refine z_iconst (v := 0) C dX6_divide_96 (by decide) ?_
            refine z_istore_n (lv' := [some (.ref 15), some (.int ln), some (.int _), some (.int _), some (.int _), some (.int _)]) C dX6_divide_97 (by decide) rfl ?_
            refine z_iinc (y := 1) (lv' := [some (.ref 15), some (.int ln), some (.int _), some (.int _), some (.int _), some (.int _)]) C dX6_divide_98 rfl (by decide) (by decide) rfl ?_
            refine z_goto (tgt := 27) C dX6_divide_101 (by decide) ?_
            rw [nI_1 i]
            have e := ih (i + 1) 0 (zu (zu (zu (zu cur 15 2 (nI (zps (zT (iv 13) s) s (i + 1)))) 16 i (zkn (zT (iv 13) s) s i)) 17 i (nI (zpl (zT (iv 13) s) s i))) 15 3 (nI (i + 1))) (by omega) (fun q a b c => by rw [zu_n _ _ _ a, zu_n _ _ _ c, zu_n _ _ _ b, zu_n _ _ _ a]; exact hf q a b c) h1 (zdv_2 _ _ _ _ _ _) (zu_ss _ _ _ _) (fun j hj => ?_) (zdv_more (show ∀ j, j < i → ¬ zls (zT (iv 13) s) s j from hmm) (Or.inr ⟨rfl, Or.inl q89⟩))
            · exact z_sub (zdp.sub (by repeat (first | exact True.intro | refine And.intro rfl ?_))) e
            · show upd (cur 16) i (zkn (zT (iv 13) s) s i) j = _ ∧ upd (cur 17) i (nI (zpl (zT (iv 13) s) s i)) j = _
              by_cases hji : j = i
              · subst hji; rw [pk_us, pk_us]; exact ⟨rfl, rfl⟩
              · rw [pk_un hji, pk_un hji]; exact h4 j (by omega)
          · refine z_iconst (v := 1) C dX6_divide_92 (by decide) ?_
            refine z_goto (tgt := 97) C dX6_divide_93 (by decide) ?_
            refine z_istore_n (lv' := [some (.ref 15), some (.int ln), some (.int _), some (.int _), some (.int _), some (.int _)]) C dX6_divide_97 (by decide) rfl ?_
            refine z_iinc (y := 1) (lv' := [some (.ref 15), some (.int ln), some (.int _), some (.int _), some (.int _), some (.int _)]) C dX6_divide_98 rfl (by decide) (by decide) rfl ?_
            refine z_goto (tgt := 27) C dX6_divide_101 (by decide) ?_
            rw [nI_1 i]
            have e := ih (i + 1) 1 (zu (zu (zu (zu cur 15 2 (nI (zps (zT (iv 13) s) s (i + 1)))) 16 i (zkn (zT (iv 13) s) s i)) 17 i (nI (zpl (zT (iv 13) s) s i))) 15 3 (nI (i + 1))) (by omega) (fun q a b c => by rw [zu_n _ _ _ a, zu_n _ _ _ c, zu_n _ _ _ b, zu_n _ _ _ a]; exact hf q a b c) h1 (zdv_2 _ _ _ _ _ _) (zu_ss _ _ _ _) (fun j hj => ?_) (zdv_more (show ∀ j, j < i → ¬ zls (zT (iv 13) s) s j from hmm) (Or.inl ⟨rfl, fun z => by rcases z with z | z <;> first | exact q89 z | exact q83 z⟩))
            · exact z_sub (zdp.sub (by repeat (first | exact True.intro | refine And.intro rfl ?_))) e
            · show upd (cur 16) i (zkn (zT (iv 13) s) s i) j = _ ∧ upd (cur 17) i (nI (zpl (zT (iv 13) s) s i)) j = _
              by_cases hji : j = i
              · subst hji; rw [pk_us, pk_us]; exact ⟨rfl, rfl⟩
              · rw [pk_un hji, pk_un hji]; exact h4 j (by omega)

theorem zmin8 {s : Nat} (h : s ≤ 800) : (if (800 : Int32) < nI s then (800 : Int32) else nI s) = nI s := by
  rw [if_neg]
  intro z
  rw [Int32.lt_iff_toInt_lt, nI_toInt (by omega), show (800 : Int32).toInt = 800 by decide] at z
  omega

set_option maxRecDepth 4000 in
theorem s_divide (n : Nat) (iv : zI) (lw : zG) (s : Nat) (hs8 : s ≤ 800) (hB : ∀ j, (zT (iv 13) s j).toInt < 128) : zMs yX6_divide cX6_divide 6 none 12 [.ref 15, .int (nI s)] n iv lw (fun v iv2 lw2 => v = none ∧ lw2 = lw ∧ zf15 iv2 iv ∧ ∃ tk, zTk (iv 13) s tk iv2) := by
  refine zM.of (by decide) (Nat.le_of_ble_eq_true rfl) (fun X C E => ?_)
  change zJs X n 6 0 [some (.ref 15), some (.int (nI s)), none, none, none, none] [] iv lw
  refine z_aload_n C dX6_divide_0 rfl ?_
  refine z_iload_n C dX6_divide_1 rfl ?_
  refine z_aload_n C dX6_divide_2 rfl ?_
  refine zs_getR C dX6_divide_3 zf_X6_9 zk_15 (by decide) (zr_15_0 n) ?_
  refine z_alenB (v := 800) C dX6_divide_6 zk_13 (by decide) (by decide) ?_
  refine z_mmin C dX6_divide_7 zm_X6_29 (by decide) (Nat.le_of_ble_eq_true rfl) (by decide) (by decide) ?_
  refine z_eqi (show _ = nI s from zmin8 hs8) ?_
  refine z_putI C dX6_divide_10 zf_X6_26 zk_15 (by decide) ?_
  refine z_aload_n C dX6_divide_13 rfl ?_
  refine z_iconst (v := 0) C dX6_divide_14 (by decide) ?_
  refine z_putI C dX6_divide_15 zf_X6_35 zk_15 (by decide) ?_
  refine z_aload_n C dX6_divide_18 rfl ?_
  refine z_iconst (v := 0) C dX6_divide_19 (by decide) ?_
  refine z_putI C dX6_divide_20 zf_X6_22 zk_15 (by decide) ?_
  refine z_iconst (v := 1) C dX6_divide_23 (by decide) ?_
  refine z_istore_n (lv' := [some (.ref 15), some (.int _), some (.int _), none, none, none]) C dX6_divide_24 (by decide) rfl ?_
  refine z_iconst (v := 0) C dX6_divide_25 (by decide) ?_
  refine z_istore_n (lv' := [some (.ref 15), some (.int _), some (.int _), some (.int _), none, none]) C dX6_divide_26 (by decide) rfl ?_
  exact z_sub (zdp.sub (by repeat (first | exact True.intro | refine And.intro rfl ?_))) (ls_dv n iv lw s hs8 hB (nI s) (zC_le (by decide) C) E 801 0 1 (zu (zu (zu iv 15 1 (nI s)) 15 2 0) 15 3 0) (by omega) (fun q a b c => by rw [zu_n _ _ _ a, zu_n _ _ _ a, zu_n _ _ _ a]) (by show upd (upd (upd (iv 15) 1 (nI s)) 2 0) 3 0 1 = _; rw [pk_un (by decide), pk_un (by decide), pk_us]) (by show upd (upd (upd (iv 15) 1 (nI s)) 2 0) 3 0 2 = _; rw [pk_un (by decide), pk_us]; rfl) (zu_ss _ _ _ _) (fun j hj => absurd hj (by omega)) (Or.inl ⟨rfl, fun j hj => absurd hj (by omega)⟩))
