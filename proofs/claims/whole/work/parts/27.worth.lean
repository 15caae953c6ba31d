theorem z_drop6 {a b c d e f g : Option Value} : ∀ (k : Nat) (v : Value), [a, b, c, d, e, f, none][k]? = some (some v) → [a, b, c, d, e, f, g][k]? = some (some v) := by
  intro k v hv
  match k, hv with
  | 0, hv => exact hv
  | 1, hv => exact hv
  | 2, hv => exact hv
  | 3, hv => exact hv
  | 4, hv => exact hv
  | 5, hv => exact hv
  | 6, hv => simp at hv
  | k + 7, hv => simp at hv
theorem zu27 {cur iv : zI} {k : Nat} {v : Int32} (h : ∀ c, c ≠ 27 → cur c = iv c) : ∀ c, c ≠ 27 → zu cur 27 k v c = iv c := fun c hc => by rw [zu_n _ _ _ hc]; exact h c hc

set_option maxHeartbeats 4000000 in
set_option maxRecDepth 4000 in
theorem lp_worth (n : Nat) (iv : zI) (lw : zG) (fr e m : Nat) (he : e ≤ m) (hm : iv 23 3 = nI m) (hm2 : m ≤ 400) (r0 : Int32) {X : zX} (C : zC X cX1_worth 7 RX1 (some .int) "worth" 1 0 0) (E : zEnd X (91 + 3 * n) 0 0 (zQ n (fun v iv2 lw2 => v = some (.int r0) ∧ lw2 = lw ∧ ∀ c, c ≠ 27 → iv2 c = iv c))) : ∀ (k : Nat) (i : Nat) (s : List Int32) (cur : zI), i + k = e → (∀ c, c ≠ 27 → cur c = iv c) → zstk (cur 27) s → s.length ≤ 100 → zbot (zev (iv 28) (iv 26) i k s) = r0 → zJs X n 7 6 [some (.ref 23), some (.int (nI fr)), some (.int (nI e)), some (.ref 28), some (.int (nI s.length)), some (.int (nI i)), none] [] cur lw := by
  intro k
  induction k with
  | zero =>
    intro i s cur hk ho hst hl hr
    refine z_iload C dX1_worth_6 rfl ?_
    refine z_iload_n C dX1_worth_8 rfl ?_
    refine zt_icmp_ge (tgt := 159) C dX1_worth_9 (nI_toInt (by omega)) (nI_toInt (by omega)) (by decide) (fun q9 => ?_) (fun q9 => ?_)
    · refine z_iload C dX1_worth_159 rfl ?_
      refine zt_if_le (tgt := 173) C dX1_worth_161 (nI_toInt (by omega)) (by decide) (fun q161 => ?_) (fun q161 => ?_)
      · refine z_iconst (v := 0) C dX1_worth_173 (by decide) ?_
        refine zs_qiret C E dX1_worth_174 rfl ?_
        refine ⟨?_, rfl, ho⟩
        have hr2 : zbot s = r0 := hr
        have hs0 : s = [] := List.eq_nil_of_length_eq_zero (by omega)
        subst hs0
        rw [← hr2]
        rfl
      · refine z_aload_n C dX1_worth_164 rfl ?_
        refine zs_getR C dX1_worth_165 zf_X1_19 zk_23 (by decide) (zr_23_5 n) ?_
        refine z_iconst (v := 0) C dX1_worth_168 (by decide) ?_
        refine z_iald C dX1_worth_169 zk_27 (by decide) ?_ ?_
        · exact vp_in_iff.mpr (by decide)
        refine z_goto (tgt := 174) C dX1_worth_170 (by decide) ?_
        refine zs_qiret C E dX1_worth_174 rfl ?_
        refine ⟨?_, rfl, ho⟩
        have hr2 : zbot s = r0 := hr
        rw [← hr2, ← zstk_b hst (by omega)]
        rfl
    · exfalso; omega
  | succ k ih =>
    intro i s cur hk ho hst hl hr
    refine z_iload C dX1_worth_6 rfl ?_
    refine z_iload_n C dX1_worth_8 rfl ?_
    refine zt_icmp_ge (tgt := 159) C dX1_worth_9 (nI_toInt (by omega)) (nI_toInt (by omega)) (by decide) (fun q9 => ?_) (fun q9 => ?_)
    · exfalso; omega
    · refine z_iload C dX1_worth_12 rfl ?_
      refine z_aload_n C dX1_worth_14 rfl ?_
      refine z_getI C dX1_worth_15 zf_X1_26 zk_23 (by decide) ?_
      refine zt_icmp_ge (tgt := 159) C dX1_worth_18 (nI_toInt (by omega)) (zt_nI (by rw [ho 23 (by decide)]; exact hm) (by omega)) (by decide) (fun q18 => ?_) (fun q18 => ?_)
      · exfalso; omega
      · refine z_aload_n C dX1_worth_21 rfl ?_
        refine zs_getR C dX1_worth_22 zf_X1_16 zk_23 (by decide) (zr_23_4 n) ?_
        refine z_iload C dX1_worth_25 rfl ?_
        refine z_iald C dX1_worth_27 zk_26 (by decide) ?_ ?_
        · exact vp_in_nI (by omega) (by decide)
        refine z_topi (fun kd ekd => ?_)
        refine z_istore (lv' := [some (.ref 23), some (.int _), some (.int _), some (.ref 28), some (.int _), some (.int _), some (.int kd)]) C dX1_worth_28 (by decide) rfl ?_
        rw [nI_clamp (by omega), ho 26 (by decide)] at ekd
        refine z_iload C dX1_worth_30 rfl ?_
        refine z_sipush (v := 1000) C dX1_worth_32 (by decide) ?_
        refine zt_icmp_ge (tgt := 46) C dX1_worth_35 rfl (show (1000 : Int32).toInt = 1000 by decide) (by decide) (fun q35 => ?_) (fun q35 => ?_)
        · refine z_iload C dX1_worth_46 rfl ?_
          refine z_bipush (v := 100) C dX1_worth_48 (by decide) ?_
          refine zt_icmp_ge (tgt := 153) C dX1_worth_50 (nI_toInt (by omega)) (show (100 : Int32).toInt = 100 by decide) (by decide) (fun q50 => ?_) (fun q50 => ?_)
          · refine z_iinc (y := 1) (lv' := [some (.ref 23), some (.int _), some (.int _), some (.ref 28), some (.int _), some (.int _), some (.int kd)]) C dX1_worth_153 rfl (by decide) (by decide) rfl ?_
            refine z_goto (tgt := 6) C dX1_worth_156 (by decide) ?_
            refine z_sub z_drop6 ?_
            rw [nI_1 i]
            refine ih (i + 1) s cur (by omega) ho hst hl ?_
            rw [← hr, zev, ← ekd]
            have es : zit (iv 28) kd s = s := by
              unfold zit
              rw [if_pos (show zisop kd from Or.inl (by omega)), if_neg (by omega)]
            rw [es]
          · refine z_aload_n C dX1_worth_53 rfl ?_
            refine zs_getR C dX1_worth_54 zf_X1_19 zk_23 (by decide) (zr_23_5 n) ?_
            refine z_iload C dX1_worth_57 rfl ?_
            refine z_iload C dX1_worth_59 rfl ?_
            refine z_aload_n C dX1_worth_61 rfl ?_
            refine zs_callSi C dX1_worth_62 zm_X1_46 zyX1_operand (c_operand _ _ _ _) (by decide) rfl rfl (Nat.le_of_ble_eq_true rfl) (by decide) (by decide) ?_
            refine z_iast C dX1_worth_65 zk_27 (by decide) ?_ ?_
            · exact vp_in_nI (by omega) (by decide)
            refine z_iinc (y := 1) (lv' := [some (.ref 23), some (.int _), some (.int _), some (.ref 28), some (.int _), some (.int _), some (.int kd)]) C dX1_worth_66 rfl (by decide) (by decide) rfl ?_
            refine z_goto (tgt := 153) C dX1_worth_69 (by decide) ?_
            refine z_iinc (y := 1) (lv' := [some (.ref 23), some (.int _), some (.int _), some (.ref 28), some (.int _), some (.int _), some (.int kd)]) C dX1_worth_153 rfl (by decide) (by decide) rfl ?_
            refine z_goto (tgt := 6) C dX1_worth_156 (by decide) ?_
            refine z_sub z_drop6 ?_
            rw [nI_1 i]
            rw [nI_clamp (by omega), nI_1]
            refine ih (i + 1) (zopd (iv 28) kd :: s) _ (by omega) (zu27 ho) ?_ (by simp; omega) ?_
            · rw [zu_s]
              show zstk (upd (cur 27) s.length (if 1000 ≤ kd.toInt then kd - 1000 else if 0 ≤ (kd - 208).toInt ∧ (kd - 208).toInt < 10 then cur 28 (kd - 208).toNatClampNeg else 0)) _
              rw [ho 28 (by decide)]
              exact zstk_p (zopd (iv 28) kd) hst
            · rw [← hr, zev, ← ekd]
              have es : zit (iv 28) kd s = zopd (iv 28) kd :: s := by
                unfold zit
                rw [if_pos (show zisop kd from Or.inl (by omega)), if_pos (by omega)]
              rw [es]
        · refine z_iload C dX1_worth_38 rfl ?_
          refine zs_callSi C dX1_worth_40 zm_X1_42 zyX6_isName (c_isName _ _ _ _) (by decide) rfl rfl (Nat.le_of_ble_eq_true rfl) (by decide) (by decide) ?_
          refine zb_if_eq (tgt := 72) C dX1_worth_43 (by decide) (fun q43 => ?_) (fun q43 => ?_)
          · refine z_iload C dX1_worth_72 rfl ?_
            refine z_sipush (v := 207) C dX1_worth_74 (by decide) ?_
            refine z_icmp_ne (tgt := 114) C dX1_worth_77 (by decide) (fun q77 => ?_) (fun q77 => ?_)
            · refine z_iload C dX1_worth_114 rfl ?_
              refine z_iconst (v := 1) C dX1_worth_116 (by decide) ?_
              refine zt_icmp_le (tgt := 153) C dX1_worth_117 (nI_toInt (by omega)) (show (1 : Int32).toInt = 1 by decide) (by decide) (fun q117 => ?_) (fun q117 => ?_)
              · refine z_iinc (y := 1) (lv' := [some (.ref 23), some (.int _), some (.int _), some (.ref 28), some (.int _), some (.int _), some (.int kd)]) C dX1_worth_153 rfl (by decide) (by decide) rfl ?_
                refine z_goto (tgt := 6) C dX1_worth_156 (by decide) ?_
                refine z_sub z_drop6 ?_
                rw [nI_1 i]
                refine ih (i + 1) s cur (by omega) ho hst hl ?_
                rw [← hr, zev, ← ekd]
                have es : zit (iv 28) kd s = s := by
                  unfold zit
                  rw [if_neg (show ¬ zisop kd from by
                    rintro (z | z)
                    · omega
                    · exact q43 z), if_neg q77]
                  match s, q117 with
                  | [], _ => rfl
                  | [x], _ => rfl
                  | y :: x :: r, q => simp at q; omega
                rw [es]
              · obtain ⟨y, x, r, rfl⟩ : ∃ y x r, s = y :: x :: r := by
                  match s, q117 with
                  | [], q => simp at q
                  | [x], q => simp at q
                  | y :: x :: r, _ => exact ⟨y, x, r, rfl⟩
                have hl1 : nI (y :: x :: r).length + (-1) = nI (r.length + 1) := pk_m1 _
                have hl2 : nI (r.length + 1) - 1 = nI r.length := nI_pred _
                refine z_iinc (y := (-1)) (lv' := [some (.ref 23), some (.int _), some (.int _), some (.ref 28), some (.int _), some (.int _), some (.int kd)]) C dX1_worth_120 rfl (by decide) (by decide) rfl ?_
                rw [hl1]
                refine z_aload_n C dX1_worth_123 rfl ?_
                refine zs_getR C dX1_worth_124 zf_X1_19 zk_23 (by decide) (zr_23_5 n) ?_
                refine z_iload C dX1_worth_127 rfl ?_
                refine z_iconst (v := 1) C dX1_worth_129 (by decide) ?_
                refine z_isub C dX1_worth_130 ?_
                rw [hl2]
                refine z_iload C dX1_worth_131 rfl ?_
                refine z_aload_n C dX1_worth_133 rfl ?_
                refine zs_getR C dX1_worth_134 zf_X1_19 zk_23 (by decide) (zr_23_5 n) ?_
                refine z_iload C dX1_worth_137 rfl ?_
                refine z_iconst (v := 1) C dX1_worth_139 (by decide) ?_
                refine z_isub C dX1_worth_140 ?_
                rw [hl2]
                refine z_iald C dX1_worth_141 zk_27 (by decide) ?_ ?_
                · exact vp_in_nI (by simp at hl; omega) (by decide)
                refine z_aload_n C dX1_worth_142 rfl ?_
                refine zs_getR C dX1_worth_143 zf_X1_19 zk_23 (by decide) (zr_23_5 n) ?_
                refine z_iload C dX1_worth_146 rfl ?_
                refine z_iald C dX1_worth_148 zk_27 (by decide) ?_ ?_
                · exact vp_in_nI (by simp at hl; omega) (by decide)
                refine zs_callSi C dX1_worth_149 zm_X1_50 zyX1_join (c_join _ _ _ _ _ _) (by decide) rfl rfl (Nat.le_of_ble_eq_true rfl) (by decide) (by decide) ?_
                refine z_iast C dX1_worth_152 zk_27 (by decide) ?_ ?_
                · exact vp_in_nI (by simp at hl; omega) (by decide)
                refine z_iinc (y := 1) (lv' := [some (.ref 23), some (.int _), some (.int _), some (.ref 28), some (.int _), some (.int _), some (.int kd)]) C dX1_worth_153 rfl (by decide) (by decide) rfl ?_
                refine z_goto (tgt := 6) C dX1_worth_156 (by decide) ?_
                refine z_sub z_drop6 ?_
                rw [nI_1 i]
                have hx : cur 27 r.length = x := hst.2.1
                have hy : cur 27 (r.length + 1) = y := hst.1
                rw [nI_clamp (show r.length < 2 ^ 31 by simp at hl; omega), nI_clamp (show r.length + 1 < 2 ^ 31 by simp at hl; omega), hx, hy]
                refine ih (i + 1) (zjoin kd x y :: r) _ (by omega) (zu27 ho) ?_ (by simp at hl ⊢; omega) ?_
                · rw [zu_s]; exact zstk_p _ hst.2.2
                · rw [← hr, zev, ← ekd]
                  have es : zit (iv 28) kd (y :: x :: r) = zjoin kd x y :: r := by
                    unfold zit
                    rw [if_neg (show ¬ zisop kd from by
                    rintro (z | z)
                    · omega
                    · exact q43 z), if_neg q77]
                  rw [es]
            · refine z_iload C dX1_worth_80 rfl ?_
              refine zt_if_le (tgt := 153) C dX1_worth_82 (nI_toInt (by omega)) (by decide) (fun q82 => ?_) (fun q82 => ?_)
              · refine z_iinc (y := 1) (lv' := [some (.ref 23), some (.int _), some (.int _), some (.ref 28), some (.int _), some (.int _), some (.int kd)]) C dX1_worth_153 rfl (by decide) (by decide) rfl ?_
                refine z_goto (tgt := 6) C dX1_worth_156 (by decide) ?_
                refine z_sub z_drop6 ?_
                rw [nI_1 i]
                refine ih (i + 1) s cur (by omega) ho hst hl ?_
                rw [← hr, zev, ← ekd]
                have hs0 : s = [] := List.eq_nil_of_length_eq_zero (by omega)
                have es : zit (iv 28) kd s = s := by
                  subst hs0
                  unfold zit
                  rw [if_neg (show ¬ zisop kd from by
                    rintro (z | z)
                    · omega
                    · exact q43 z), if_pos q77]
                rw [es]
              · obtain ⟨x, r, rfl⟩ : ∃ x r, s = x :: r := by
                  cases s with
                  | nil => simp at q82
                  | cons x r => exact ⟨x, r, rfl⟩
                have hl1 : nI (x :: r).length - 1 = nI r.length := nI_pred _
                refine z_aload_n C dX1_worth_85 rfl ?_
                refine zs_getR C dX1_worth_86 zf_X1_19 zk_23 (by decide) (zr_23_5 n) ?_
                refine z_iload C dX1_worth_89 rfl ?_
                refine z_iconst (v := 1) C dX1_worth_91 (by decide) ?_
                refine z_isub C dX1_worth_92 ?_
                rw [hl1]
                refine z_aload_n C dX1_worth_93 rfl ?_
                refine zs_getR C dX1_worth_94 zf_X1_19 zk_23 (by decide) (zr_23_5 n) ?_
                refine z_iload C dX1_worth_97 rfl ?_
                refine z_iconst (v := 1) C dX1_worth_99 (by decide) ?_
                refine z_isub C dX1_worth_100 ?_
                rw [hl1]
                refine z_iald C dX1_worth_101 zk_27 (by decide) ?_ ?_
                · exact vp_in_nI (by simp at hl; omega) (by decide)
                refine z_if_ne (tgt := 109) C dX1_worth_102 (by decide) (fun q102 => ?_) (fun q102 => ?_)
                · refine z_iconst (v := 0) C dX1_worth_109 (by decide) ?_
                  refine z_iast C dX1_worth_110 zk_27 (by decide) ?_ ?_
                  · exact vp_in_nI (by simp at hl; omega) (by decide)
                  refine z_goto (tgt := 153) C dX1_worth_111 (by decide) ?_
                  refine z_iinc (y := 1) (lv' := [some (.ref 23), some (.int _), some (.int _), some (.ref 28), some (.int _), some (.int _), some (.int kd)]) C dX1_worth_153 rfl (by decide) (by decide) rfl ?_
                  refine z_goto (tgt := 6) C dX1_worth_156 (by decide) ?_
                  refine z_sub z_drop6 ?_
                  rw [nI_1 i]
                  rw [nI_clamp (show r.length < 2 ^ 31 by simp at hl; omega)]
                  have hx : cur 27 r.length = x := hst.1
                  rw [nI_clamp (show r.length < 2 ^ 31 by simp at hl; omega), hx] at q102
                  refine ih (i + 1) (0 :: r) _ (by omega) (zu27 ho) ?_ (by simpa using hl) ?_
                  · rw [zu_s]; exact zstk_p _ hst.2
                  · rw [← hr, zev, ← ekd]
                    have es : zit (iv 28) kd (x :: r) = 0 :: r := by
                      unfold zit
                      rw [if_neg (show ¬ zisop kd from by
                      rintro (z | z)
                      · omega
                      · exact q43 z), if_pos q77]
                      show (if x = 0 then 1 else 0) :: r = _
                      rw [if_neg q102]
                    rw [es]
                · refine z_iconst (v := 1) C dX1_worth_105 (by decide) ?_
                  refine z_goto (tgt := 110) C dX1_worth_106 (by decide) ?_
                  refine z_iast C dX1_worth_110 zk_27 (by decide) ?_ ?_
                  · exact vp_in_nI (by simp at hl; omega) (by decide)
                  refine z_goto (tgt := 153) C dX1_worth_111 (by decide) ?_
                  refine z_iinc (y := 1) (lv' := [some (.ref 23), some (.int _), some (.int _), some (.ref 28), some (.int _), some (.int _), some (.int kd)]) C dX1_worth_153 rfl (by decide) (by decide) rfl ?_
                  refine z_goto (tgt := 6) C dX1_worth_156 (by decide) ?_
                  refine z_sub z_drop6 ?_
                  rw [nI_1 i]
                  rw [nI_clamp (show r.length < 2 ^ 31 by simp at hl; omega)]
                  have hx : cur 27 r.length = x := hst.1
                  rw [nI_clamp (show r.length < 2 ^ 31 by simp at hl; omega), hx] at q102
                  refine ih (i + 1) (1 :: r) _ (by omega) (zu27 ho) ?_ (by simpa using hl) ?_
                  · rw [zu_s]; exact zstk_p _ hst.2
                  · rw [← hr, zev, ← ekd]
                    have es : zit (iv 28) kd (x :: r) = 1 :: r := by
                      unfold zit
                      rw [if_neg (show ¬ zisop kd from by
                      rintro (z | z)
                      · omega
                      · exact q43 z), if_pos q77]
                      show (if x = 0 then 1 else 0) :: r = _
                      rw [if_pos q102]
                    rw [es]
          · refine z_iload C dX1_worth_46 rfl ?_
            refine z_bipush (v := 100) C dX1_worth_48 (by decide) ?_
            refine zt_icmp_ge (tgt := 153) C dX1_worth_50 (nI_toInt (by omega)) (show (100 : Int32).toInt = 100 by decide) (by decide) (fun q50 => ?_) (fun q50 => ?_)
            · refine z_iinc (y := 1) (lv' := [some (.ref 23), some (.int _), some (.int _), some (.ref 28), some (.int _), some (.int _), some (.int kd)]) C dX1_worth_153 rfl (by decide) (by decide) rfl ?_
              refine z_goto (tgt := 6) C dX1_worth_156 (by decide) ?_
              refine z_sub z_drop6 ?_
              rw [nI_1 i]
              refine ih (i + 1) s cur (by omega) ho hst hl ?_
              rw [← hr, zev, ← ekd]
              have es : zit (iv 28) kd s = s := by
                unfold zit
                rw [if_pos (show zisop kd from Or.inr q43), if_neg (by omega)]
              rw [es]
            · refine z_aload_n C dX1_worth_53 rfl ?_
              refine zs_getR C dX1_worth_54 zf_X1_19 zk_23 (by decide) (zr_23_5 n) ?_
              refine z_iload C dX1_worth_57 rfl ?_
              refine z_iload C dX1_worth_59 rfl ?_
              refine z_aload_n C dX1_worth_61 rfl ?_
              refine zs_callSi C dX1_worth_62 zm_X1_46 zyX1_operand (c_operand _ _ _ _) (by decide) rfl rfl (Nat.le_of_ble_eq_true rfl) (by decide) (by decide) ?_
              refine z_iast C dX1_worth_65 zk_27 (by decide) ?_ ?_
              · exact vp_in_nI (by omega) (by decide)
              refine z_iinc (y := 1) (lv' := [some (.ref 23), some (.int _), some (.int _), some (.ref 28), some (.int _), some (.int _), some (.int kd)]) C dX1_worth_66 rfl (by decide) (by decide) rfl ?_
              refine z_goto (tgt := 153) C dX1_worth_69 (by decide) ?_
              refine z_iinc (y := 1) (lv' := [some (.ref 23), some (.int _), some (.int _), some (.ref 28), some (.int _), some (.int _), some (.int kd)]) C dX1_worth_153 rfl (by decide) (by decide) rfl ?_
              refine z_goto (tgt := 6) C dX1_worth_156 (by decide) ?_
              refine z_sub z_drop6 ?_
              rw [nI_1 i]
              rw [nI_clamp (by omega), nI_1]
              refine ih (i + 1) (zopd (iv 28) kd :: s) _ (by omega) (zu27 ho) ?_ (by simp; omega) ?_
              · rw [zu_s]
                show zstk (upd (cur 27) s.length (if 1000 ≤ kd.toInt then kd - 1000 else if 0 ≤ (kd - 208).toInt ∧ (kd - 208).toInt < 10 then cur 28 (kd - 208).toNatClampNeg else 0)) _
                rw [ho 28 (by decide)]
                exact zstk_p (zopd (iv 28) kd) hst
              · rw [← hr, zev, ← ekd]
                have es : zit (iv 28) kd s = zopd (iv 28) kd :: s := by
                  unfold zit
                  rw [if_pos (show zisop kd from Or.inr q43), if_pos (by omega)]
                rw [es]

set_option maxRecDepth 4000 in
theorem c_worth (n : Nat) (iv : zI) (lw : zG) (fr e m : Nat) (he : e ≤ m) (hm : iv 23 3 = nI m) (hm2 : m ≤ 400) (hf : fr ≤ e) : zMs yX1_worth cX1_worth 7 (some .int) 1 [.ref 23, .int (nI fr), .int (nI e), .ref 28] n iv lw (fun v iv2 lw2 => v = some (.int (zbot (zev (iv 28) (iv 26) fr (e - fr) []))) ∧ lw2 = lw ∧ ∀ c, c ≠ 27 → iv2 c = iv c) := by
  refine zM.of (by decide) (Nat.le_of_ble_eq_true rfl) (fun X C E => ?_)
  change zJs X n 7 0 [some (.ref 23), some (.int (nI fr)), some (.int (nI e)), some (.ref 28), none, none, none] [] iv lw
  refine z_iconst (v := 0) C dX1_worth_0 (by decide) ?_
  refine z_istore (lv' := [some (.ref 23), some (.int _), some (.int _), some (.ref 28), some (.int _), none, none]) C dX1_worth_1 (by decide) rfl ?_
  refine z_iload_n C dX1_worth_3 rfl ?_
  refine z_istore (lv' := [some (.ref 23), some (.int _), some (.int _), some (.ref 28), some (.int _), some (.int _), none]) C dX1_worth_4 (by decide) rfl ?_
  exact lp_worth n iv lw fr e m he hm hm2 _ C E (e - fr) fr [] iv (by omega) (fun _ _ => rfl) trivial (by simp) rfl
