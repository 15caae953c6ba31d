/-! operand, sign -/
section ZO
variable {k : Nat → Int32} {now i : Nat} {W : List Nat} {P : List Int32} {v : Nat}
theorem zopn_deep (h0 : now = 0) (hd : 8 ≤ zdeep W) : zopn k now i W P v = .inl (zbad (k i) i) := by
  unfold zopn
  rw [if_pos ⟨h0, hd⟩]
theorem zopn_full (hd : now = 0 → zdeep W < 8) (ho : zisO (k i) ∨ k i = 3) (hv : v = 100) : zopn k now i W P v = .inl (2, i) := by
  unfold zopn
  rw [if_neg (fun z => by have := hd z.1; omega), if_pos ho, if_pos hv]
theorem zopn_name (hd : now = 0 → zdeep W < 8) (ho : k i = 3) (hv : ¬ v = 100) : zopn k now i W P v = .inl (3, i) := by
  unfold zopn
  rw [if_neg (fun z => by have := hd z.1; omega), if_pos (Or.inr ho), if_neg hv, if_pos ho]
theorem zopn_op (hd : now = 0 → zdeep W < 8) (ho : zisO (k i)) (hv : ¬ v = 100) : zopn k now i W P v = .inr (2, i + 1, W, k i :: P, v + 1) := by
  unfold zopn
  rw [if_neg (fun z => by have := hd z.1; omega), if_pos (Or.inl ho), if_neg hv, if_neg]
  intro z
  rw [z] at ho
  exact absurd ho (by decide)
theorem zopn_open (hd : now = 0 → zdeep W < 8) (hk : k i = 40) : zopn k now i W P v = .inr (0, i + 1, 48 :: W, P, v) := by
  unfold zopn
  rw [if_neg (fun z => by have := hd z.1; omega), hk, if_neg (by decide), if_pos rfl]
theorem zopn_not (hd : now = 0 → zdeep W < 8) (h0 : now = 0) (hk : k i = 207) : zopn k now i W P v = .inr (0, i + 1, 40 :: W, P, v) := by
  unfold zopn
  rw [if_neg (fun z => by have := hd z.1; omega), hk, if_neg (by decide), if_neg (by decide), if_pos ⟨h0, rfl⟩]
theorem zopn_none (hd : now = 0 → zdeep W < 8) (ho : ¬ (zisO (k i) ∨ k i = 3)) (h40 : ¬ k i = 40) (hn : now = 0 → ¬ k i = 207) : zopn k now i W P v = .inl (zbad (k i) i) := by
  unfold zopn
  rw [if_neg (fun z => by have := hd z.1; omega), if_neg ho, if_neg h40, if_neg (fun z => hn z.1 z.2)]
end ZO
/-- what a step leaves -/
def zRs (iv0 : zI) (B : Nat → Int32) (s b : Nat) (r : zFa ⊕ zCf) (vr : Option Value) (iv : zI) (lw : zG) : Prop := match r with
  | .inl f => (∃ x, vr = some (.int x)) ∧ zMf iv0 b (zpl (zT B s) s) f iv
  | .inr c => vr = some (.int (nI c.1)) ∧ zMq iv0 b c.2.2.1 c.2.2.2.1 c.2.2.2.2 iv ∧ zMt B s c.2.1 iv lw
theorem zMq.bad {iv0 iv : zI} {b v : Nat} {W : List Nat} {P : List Int32} {B : Nat → Int32} {s i : Nat} {lw : zG} (h : zMq iv0 b W P v iv) (hT : zMt B s i iv lw) : zMf iv0 b (zpl (zT B s) s) (zbad (zkn (zT B s) s i) i) (zu (zu iv 41 40 (if iv 41 44 = 3 then 1 else 2)) 41 41 (iv 41 45)) := h.wr hT (by decide)
theorem zMq.wr2 {iv0 iv : zI} {b v : Nat} {W : List Nat} {P : List Int32} {B : Nat → Int32} {s i : Nat} {lw : zG} (h : zMq iv0 b W P v iv) (hT : zMt B s i iv lw) {wh : Int32} (hw : 0 < wh.toInt) (hk : ¬ zkn (zT B s) s i = 2) : zMf iv0 b (zpl (zT B s) s) (wh, i) (zu (zu iv 41 40 (if iv 41 44 = 3 then 1 else wh)) 41 41 (iv 41 45)) := by
  have := h.wr hT hw
  rw [if_neg hk] at this
  exact this
theorem zMf.pos {iv0 iv : zI} {b : Nat} {pl : Nat → Nat} {f : zFa} (h : zMf iv0 b pl f iv) : 0 < (iv 41 40).toInt := by rw [h.2.1]; exact h.2.2.2

set_option maxHeartbeats 1000000 in
set_option maxRecDepth 4000 in
theorem m_operand (n : Nat) (iv : zI) (lw : zG) {iv0 : zI} {B : Nat → Int32} {s b v0 n0 : Nat} (hS : zSt iv0 B s) (i : Nat) (W : List Nat) (P : List Int32) (v : Nat) (now : Nat) (hnow : now < 2 ^ 31) (hJ : zJv B s b v0 n0 (now, i, W, P, v)) (hQ : zMq iv0 b W P v iv) (hT : zMt B s i iv lw) : zMs yX10_operand cX10_operand 4 (some .int) 3 [.ref 41, .int (nI now)] n iv lw (zRs iv0 B s b (zopn (zkn (zT B s) s) now i W P v)) := by
  refine zM.of (by decide) (Nat.le_of_ble_eq_true rfl) (fun X C E => ?_)
  change zJs X n 4 0 [some (.ref 41), some (.int (nI now)), none, none] [] iv lw
  have hSm := hT.2.1
  have hb := hJ.bd hS.2.1
  have hvb : v ≤ 100 := hJ.1.1.2
  have hno2 : zisO (zkn (zT B s) s i) ∨ (zkn (zT B s) s i) = 3 → ¬ (zkn (zT B s) s i) = 2 := fun z q => by rw [q] at z; exact absurd z (by decide)
  refine z_aload_n C dX10_operand_0 rfl ?_
  refine z_getI C dX10_operand_1 zf_X10_238 zk_41 (by decide) ?_
  refine z_iconst (v := 2) C dX10_operand_4 (by decide) ?_
  refine z_icmp_eq (tgt := 23) C dX10_operand_5 (by decide) (fun q5 => ?_) (fun q5 => ?_)
  · have hk : 1000 ≤ (zkn (zT B s) s i).toInt := hSm.s2.1.mp q5
    have hO : zisO (zkn (zT B s) s i) ∨ (zkn (zT B s) s i) = 3 := Or.inl (Or.inl hk)
    refine z_iconst (v := 1) C dX10_operand_23 (by decide) ?_
    refine z_goto (tgt := 28) C dX10_operand_24 (by decide) ?_
    refine z_istore_n (lv' := [some (.ref 41), some (.int _), some (.int _), none]) C dX10_operand_28 (by decide) rfl ?_
    refine z_iload_n C dX10_operand_29 rfl ?_
    refine z_if_ne (tgt := 50) C dX10_operand_30 (by decide) (fun q30 => ?_) (fun q30 => ?_)
    · have hd : now = 0 → zdeep W < 8 := fun z => absurd (by rw [z]; rfl) q30
      refine z_iload_n C dX10_operand_50 rfl ?_
      refine z_if_eq (tgt := 146) C dX10_operand_51 (by decide) (fun q51 => ?_) (fun q51 => ?_)
      · exact absurd q51 (by decide)
      · refine z_aload_n C dX10_operand_54 rfl ?_
        refine z_getI C dX10_operand_55 zf_X10_238 zk_41 (by decide) ?_
        refine z_iconst (v := 1) C dX10_operand_58 (by decide) ?_
        refine z_icmp_ne (tgt := 69) C dX10_operand_59 (by decide) (fun q59 => ?_) (fun q59 => ?_)
        · refine z_iconst (v := 0) C dX10_operand_69 (by decide) ?_
          refine z_istore_n (lv' := [some (.ref 41), some (.int _), some (.int _), some (.int _)]) C dX10_operand_70 (by decide) rfl ?_
          refine z_aload_n C dX10_operand_71 rfl ?_
          refine z_getI C dX10_operand_72 zf_X10_329 zk_41 (by decide) ?_
          refine z_bipush (v := 100) C dX10_operand_75 (by decide) ?_
          refine z_icmp_ne (tgt := 88) C dX10_operand_77 (by decide) (fun q77 => ?_) (fun q77 => ?_)
          · have hv : ¬ v = 100 := fun z => q77 (by rw [hQ.2.2.2.1, z]; rfl)
            refine z_iload_n C dX10_operand_88 rfl ?_
            refine zt_if_ge (tgt := 97) C dX10_operand_89 (show (0 : Int32).toInt = 0 by decide) (by decide) (fun q89 => ?_) (fun q89 => ?_)
            · skip
              refine z_aload_n C dX10_operand_97 rfl ?_
              refine z_getI C dX10_operand_98 zf_X10_250 zk_41 (by decide) ?_
              refine zt_if_le (tgt := 106) C dX10_operand_101 rfl (by decide) (fun q101 => ?_) (fun q101 => ?_)
              · refine z_aload_n C dX10_operand_106 rfl ?_
                refine z_aload_n C dX10_operand_107 rfl ?_
                refine z_getI C dX10_operand_108 zf_X10_238 zk_41 (by decide) ?_
                refine z_iconst (v := 2) C dX10_operand_111 (by decide) ?_
                refine z_icmp_ne (tgt := 119) C dX10_operand_112 (by decide) (fun q112 => ?_) (fun q112 => ?_)
                · exact absurd q5 q112
                · refine z_iconst (v := 0) C dX10_operand_115 (by decide) ?_
                  refine z_goto (tgt := 123) C dX10_operand_116 (by decide) ?_
                  refine z_aload_n C dX10_operand_123 rfl ?_
                  refine z_getI C dX10_operand_124 zf_X10_235 zk_41 (by decide) ?_
                  refine zs_callVv C dX10_operand_127 zm_X10_298 zyX10_step (m_step n _ _ (b + P.length) hQ.2.2.2.2.2.2.2.1 (by omega) _ _) zc_10 rfl zk_41 (by decide) (by decide) rfl rfl (Nat.le_of_ble_eq_true rfl) (by decide) (by decide) ?_
                  refine z_aload_n C dX10_operand_130 rfl ?_
                  refine z_dup C dX10_operand_131 rfl ?_
                  refine z_getI C dX10_operand_132 zf_X10_329 zk_41 (by decide) ?_
                  refine z_iconst (v := 1) C dX10_operand_135 (by decide) ?_
                  refine z_iadd C dX10_operand_136 ?_
                  refine z_eqi (y := nI (v + 1)) (by show iv 41 37 + 1 = _; rw [hQ.2.2.2.1, nI_1]) ?_
                  refine z_putI C dX10_operand_137 zf_X10_329 zk_41 (by decide) ?_
                  have hO2 : zisO (zkn (zT B s) s i) := Or.inl hk
                  have hQ2 := hQ.opr (x := (zkn (zT B s) s i)) (c := 0) (nu := iv 41 46) (by unfold zsc; rw [if_pos hk]) (fun _ => (hSm.s2.2 q5).1)
                  have ha2 := hT.2.2 (hno2 hO)
                  refine z_aload_n C dX10_operand_140 rfl ?_
                  refine zs_callVq C dX10_operand_141 zm_X10_332 zyX10_next (m_nx n _ _ hS hQ2 ha2) zc_10 rfl zk_41 (by decide) (by decide) rfl rfl (Nat.le_of_ble_eq_true rfl) (by decide) (by decide) (fun v141 iv141 lw141 hq141 => ?_)
                  obtain ⟨rfl, hQ3, hT3⟩ := hq141
                  refine z_iconst (v := 2) C dX10_operand_144 (by decide) ?_
                  refine zs_qiret C E dX10_operand_145 rfl ?_
                  rw [zopn_op hd hO2 hv]
                  exact ⟨rfl, hQ3, hT3⟩
              · exact absurd (by rw [hQ.2.1]; decide) q101
            · exact absurd (by decide) q89
          · have hv : v = 100 := nI_inj4 (b := 100) (by omega) (by decide) (hQ.2.2.2.1.symm.trans q77)
            refine z_aload_n C dX10_operand_80 rfl ?_
            refine z_iconst (v := 2) C dX10_operand_81 (by decide) ?_
            refine zs_callVv C dX10_operand_82 zm_X10_323 zyX10_wrong (m_wrong n _ _ hQ.2.1 _) zc_10 rfl zk_41 (by decide) (by decide) rfl rfl (Nat.le_of_ble_eq_true rfl) (by decide) (by decide) ?_
            refine z_goto (tgt := 97) C dX10_operand_85 (by decide) ?_
            have hF := hQ.wr2 hT (wh := 2) (by decide) (hno2 hO)
            have hFp := hF.pos
            refine z_aload_n C dX10_operand_97 rfl ?_
            refine z_getI C dX10_operand_98 zf_X10_250 zk_41 (by decide) ?_
            refine zt_if_le (tgt := 106) C dX10_operand_101 rfl (by decide) (fun q101 => ?_) (fun q101 => ?_)
            · exact absurd hFp (by show ¬ 0 < _; omega)
            · refine z_iload_n C dX10_operand_104 rfl ?_
              refine zs_qiret C E dX10_operand_105 rfl ?_
              rw [zopn_full hd hO hv]
              exact ⟨⟨_, rfl⟩, hF⟩
        · exact absurd (q5.symm.trans q59) (by decide)
    · have h0 : now = 0 := nI_inj4 (b := 0) hnow (by decide) q30
      refine z_aload_n C dX10_operand_33 rfl ?_
      refine z_getI C dX10_operand_34 zf_X10_295 zk_41 (by decide) ?_
      refine z_bipush (v := 8) C dX10_operand_37 (by decide) ?_
      refine zt_icmp_lt (tgt := 50) C dX10_operand_39 (show (iv 41 50).toInt = (zdeep W : Int) by rw [hQ.2.2.2.2.2.1]; exact nI_toInt (by have := zW_len W; omega)) (show (8 : Int32).toInt = 8 by decide) (by decide) (fun q39 => ?_) (fun q39 => ?_)
      · have hd : now = 0 → zdeep W < 8 := fun _ => by omega
        refine z_iload_n C dX10_operand_50 rfl ?_
        refine z_if_eq (tgt := 146) C dX10_operand_51 (by decide) (fun q51 => ?_) (fun q51 => ?_)
        · exact absurd q51 (by decide)
        · refine z_aload_n C dX10_operand_54 rfl ?_
          refine z_getI C dX10_operand_55 zf_X10_238 zk_41 (by decide) ?_
          refine z_iconst (v := 1) C dX10_operand_58 (by decide) ?_
          refine z_icmp_ne (tgt := 69) C dX10_operand_59 (by decide) (fun q59 => ?_) (fun q59 => ?_)
          · refine z_iconst (v := 0) C dX10_operand_69 (by decide) ?_
            refine z_istore_n (lv' := [some (.ref 41), some (.int _), some (.int _), some (.int _)]) C dX10_operand_70 (by decide) rfl ?_
            refine z_aload_n C dX10_operand_71 rfl ?_
            refine z_getI C dX10_operand_72 zf_X10_329 zk_41 (by decide) ?_
            refine z_bipush (v := 100) C dX10_operand_75 (by decide) ?_
            refine z_icmp_ne (tgt := 88) C dX10_operand_77 (by decide) (fun q77 => ?_) (fun q77 => ?_)
            · have hv : ¬ v = 100 := fun z => q77 (by rw [hQ.2.2.2.1, z]; rfl)
              refine z_iload_n C dX10_operand_88 rfl ?_
              refine zt_if_ge (tgt := 97) C dX10_operand_89 (show (0 : Int32).toInt = 0 by decide) (by decide) (fun q89 => ?_) (fun q89 => ?_)
              · skip
                refine z_aload_n C dX10_operand_97 rfl ?_
                refine z_getI C dX10_operand_98 zf_X10_250 zk_41 (by decide) ?_
                refine zt_if_le (tgt := 106) C dX10_operand_101 rfl (by decide) (fun q101 => ?_) (fun q101 => ?_)
                · refine z_aload_n C dX10_operand_106 rfl ?_
                  refine z_aload_n C dX10_operand_107 rfl ?_
                  refine z_getI C dX10_operand_108 zf_X10_238 zk_41 (by decide) ?_
                  refine z_iconst (v := 2) C dX10_operand_111 (by decide) ?_
                  refine z_icmp_ne (tgt := 119) C dX10_operand_112 (by decide) (fun q112 => ?_) (fun q112 => ?_)
                  · exact absurd q5 q112
                  · refine z_iconst (v := 0) C dX10_operand_115 (by decide) ?_
                    refine z_goto (tgt := 123) C dX10_operand_116 (by decide) ?_
                    refine z_aload_n C dX10_operand_123 rfl ?_
                    refine z_getI C dX10_operand_124 zf_X10_235 zk_41 (by decide) ?_
                    refine zs_callVv C dX10_operand_127 zm_X10_298 zyX10_step (m_step n _ _ (b + P.length) hQ.2.2.2.2.2.2.2.1 (by omega) _ _) zc_10 rfl zk_41 (by decide) (by decide) rfl rfl (Nat.le_of_ble_eq_true rfl) (by decide) (by decide) ?_
                    refine z_aload_n C dX10_operand_130 rfl ?_
                    refine z_dup C dX10_operand_131 rfl ?_
                    refine z_getI C dX10_operand_132 zf_X10_329 zk_41 (by decide) ?_
                    refine z_iconst (v := 1) C dX10_operand_135 (by decide) ?_
                    refine z_iadd C dX10_operand_136 ?_
                    refine z_eqi (y := nI (v + 1)) (by show iv 41 37 + 1 = _; rw [hQ.2.2.2.1, nI_1]) ?_
                    refine z_putI C dX10_operand_137 zf_X10_329 zk_41 (by decide) ?_
                    have hO2 : zisO (zkn (zT B s) s i) := Or.inl hk
                    have hQ2 := hQ.opr (x := (zkn (zT B s) s i)) (c := 0) (nu := iv 41 46) (by unfold zsc; rw [if_pos hk]) (fun _ => (hSm.s2.2 q5).1)
                    have ha2 := hT.2.2 (hno2 hO)
                    refine z_aload_n C dX10_operand_140 rfl ?_
                    refine zs_callVq C dX10_operand_141 zm_X10_332 zyX10_next (m_nx n _ _ hS hQ2 ha2) zc_10 rfl zk_41 (by decide) (by decide) rfl rfl (Nat.le_of_ble_eq_true rfl) (by decide) (by decide) (fun v141 iv141 lw141 hq141 => ?_)
                    obtain ⟨rfl, hQ3, hT3⟩ := hq141
                    refine z_iconst (v := 2) C dX10_operand_144 (by decide) ?_
                    refine zs_qiret C E dX10_operand_145 rfl ?_
                    rw [zopn_op hd hO2 hv]
                    exact ⟨rfl, hQ3, hT3⟩
                · exact absurd (by rw [hQ.2.1]; decide) q101
              · exact absurd (by decide) q89
            · have hv : v = 100 := nI_inj4 (b := 100) (by omega) (by decide) (hQ.2.2.2.1.symm.trans q77)
              refine z_aload_n C dX10_operand_80 rfl ?_
              refine z_iconst (v := 2) C dX10_operand_81 (by decide) ?_
              refine zs_callVv C dX10_operand_82 zm_X10_323 zyX10_wrong (m_wrong n _ _ hQ.2.1 _) zc_10 rfl zk_41 (by decide) (by decide) rfl rfl (Nat.le_of_ble_eq_true rfl) (by decide) (by decide) ?_
              refine z_goto (tgt := 97) C dX10_operand_85 (by decide) ?_
              have hF := hQ.wr2 hT (wh := 2) (by decide) (hno2 hO)
              have hFp := hF.pos
              refine z_aload_n C dX10_operand_97 rfl ?_
              refine z_getI C dX10_operand_98 zf_X10_250 zk_41 (by decide) ?_
              refine zt_if_le (tgt := 106) C dX10_operand_101 rfl (by decide) (fun q101 => ?_) (fun q101 => ?_)
              · exact absurd hFp (by show ¬ 0 < _; omega)
              · refine z_iload_n C dX10_operand_104 rfl ?_
                refine zs_qiret C E dX10_operand_105 rfl ?_
                rw [zopn_full hd hO hv]
                exact ⟨⟨_, rfl⟩, hF⟩
          · exact absurd (q5.symm.trans q59) (by decide)
      · have hd : 8 ≤ zdeep W := by omega
        refine z_aload_n C dX10_operand_42 rfl ?_
        refine z_iconst (v := 2) C dX10_operand_43 (by decide) ?_
        refine zs_callVv C dX10_operand_44 zm_X10_323 zyX10_wrong (m_wrong n _ _ hQ.2.1 _) zc_10 rfl zk_41 (by decide) (by decide) rfl rfl (Nat.le_of_ble_eq_true rfl) (by decide) (by decide) ?_
        refine z_goto (tgt := 198) C dX10_operand_47 (by decide) ?_
        refine z_iload_n C dX10_operand_198 rfl ?_
        refine zs_qiret C E dX10_operand_199 rfl ?_
        rw [zopn_deep h0 hd]
        exact ⟨⟨_, rfl⟩, hQ.bad hT⟩
  · refine z_aload_n C dX10_operand_8 rfl ?_
    refine z_getI C dX10_operand_9 zf_X10_238 zk_41 (by decide) ?_
    refine z_iconst (v := 1) C dX10_operand_12 (by decide) ?_
    refine z_icmp_ne (tgt := 27) C dX10_operand_13 (by decide) (fun q13 => ?_) (fun q13 => ?_)
    · have hN : ¬ (zisO (zkn (zT B s) s i) ∨ (zkn (zT B s) s i) = 3) := fun z => by
        rcases z with (z | z) | z
        · exact q5 (hSm.s2.1.mpr z)
        · exact q13 (hSm.s1.2.mpr (Or.inr (by omega)))
        · exact q13 (hSm.s1.2.mpr (Or.inl z))
      refine z_iconst (v := 0) C dX10_operand_27 (by decide) ?_
      refine z_istore_n (lv' := [some (.ref 41), some (.int _), some (.int _), none]) C dX10_operand_28 (by decide) rfl ?_
      refine z_iload_n C dX10_operand_29 rfl ?_
      refine z_if_ne (tgt := 50) C dX10_operand_30 (by decide) (fun q30 => ?_) (fun q30 => ?_)
      · have hd : now = 0 → zdeep W < 8 := fun z => absurd (by rw [z]; rfl) q30
        refine z_iload_n C dX10_operand_50 rfl ?_
        refine z_if_eq (tgt := 146) C dX10_operand_51 (by decide) (fun q51 => ?_) (fun q51 => ?_)
        · refine z_aload_n C dX10_operand_146 rfl ?_
          refine z_getI C dX10_operand_147 zf_X10_238 zk_41 (by decide) ?_
          refine z_bipush (v := 40) C dX10_operand_150 (by decide) ?_
          refine z_icmp_ne (tgt := 167) C dX10_operand_152 (by decide) (fun q152 => ?_) (fun q152 => ?_)
          · have h40 : ¬ (zkn (zT B s) s i) = 40 := fun z => q152 ((hSm.sg (c := 40) (by decide)).mpr z)
            refine z_iload_n C dX10_operand_167 rfl ?_
            refine z_if_ne (tgt := 193) C dX10_operand_168 (by decide) (fun q168 => ?_) (fun q168 => ?_)
            · have h07 : now = 0 → ¬ (zkn (zT B s) s i) = 207 := fun z => absurd (by rw [z]; rfl) q168
              refine z_aload_n C dX10_operand_193 rfl ?_
              refine z_iconst (v := 2) C dX10_operand_194 (by decide) ?_
              refine zs_callVv C dX10_operand_195 zm_X10_323 zyX10_wrong (m_wrong n _ _ hQ.2.1 _) zc_10 rfl zk_41 (by decide) (by decide) rfl rfl (Nat.le_of_ble_eq_true rfl) (by decide) (by decide) ?_
              refine z_iload_n C dX10_operand_198 rfl ?_
              refine zs_qiret C E dX10_operand_199 rfl ?_
              rw [zopn_none hd hN h40 h07]
              exact ⟨⟨_, rfl⟩, hQ.bad hT⟩
            · refine z_aload_n C dX10_operand_171 rfl ?_
              refine z_ldc2 C dX10_operand_172 zk_X10_267 ?_
              refine zs_callVi C dX10_operand_175 zm_X10_302 zyX10_isWord (m_isWord _ _ _ _) zc_10 rfl zk_41 (by decide) (by decide) rfl rfl (Nat.le_of_ble_eq_true rfl) (by decide) (by decide) ?_
              refine zb_if_eq (tgt := 193) C dX10_operand_178 (by decide) (fun q178 => ?_) (fun q178 => ?_)
              · have h07 : now = 0 → ¬ (zkn (zT B s) s i) = 207 := fun _ z => q178 (hSm.w7.mpr z)
                refine z_aload_n C dX10_operand_193 rfl ?_
                refine z_iconst (v := 2) C dX10_operand_194 (by decide) ?_
                refine zs_callVv C dX10_operand_195 zm_X10_323 zyX10_wrong (m_wrong n _ _ hQ.2.1 _) zc_10 rfl zk_41 (by decide) (by decide) rfl rfl (Nat.le_of_ble_eq_true rfl) (by decide) (by decide) ?_
                refine z_iload_n C dX10_operand_198 rfl ?_
                refine zs_qiret C E dX10_operand_199 rfl ?_
                rw [zopn_none hd hN h40 h07]
                exact ⟨⟨_, rfl⟩, hQ.bad hT⟩
              · have h07 : (zkn (zT B s) s i) = 207 := hSm.w7.mp q178
                have h0 : now = 0 := nI_inj4 (b := 0) hnow (by decide) q168
                refine z_aload_n C dX10_operand_181 rfl ?_
                refine z_bipush (v := 40) C dX10_operand_182 (by decide) ?_
                refine zs_callVv C dX10_operand_184 zm_X10_335 zyX10_hold (m_hold n _ _ W.length hQ.2.2.2.2.1 (by omega) (nI 40)) zc_10 rfl zk_41 (by decide) (by decide) rfl rfl (Nat.le_of_ble_eq_true rfl) (by decide) (by decide) ?_
                have hQ2 := hQ.st (zfs.hold (nI 40) _ _ W.length) (hQ.2.2.2.2.hold 40 (by decide))
                have ha2 : (if nI 40 = 48 ∨ nI 40 = 40 then zu (zu (zu iv 73 W.length (nI 40)) 41 49 (nI (W.length + 1))) 41 50 (iv 41 50 + 1) else zu (zu iv 73 W.length (nI 40)) 41 49 (nI (W.length + 1))) 41 42 = nI (zps (zT B s) s (i + 1)) := hT.2.2 (fun z => by rw [z] at h07; exact absurd h07 (by decide))
                refine z_aload_n C dX10_operand_187 rfl ?_
                refine zs_callVq C dX10_operand_188 zm_X10_332 zyX10_next (m_nx n _ _ hS hQ2 ha2) zc_10 rfl zk_41 (by decide) (by decide) rfl rfl (Nat.le_of_ble_eq_true rfl) (by decide) (by decide) (fun v188 iv188 lw188 hq188 => ?_)
                obtain ⟨rfl, hQ3, hT3⟩ := hq188
                refine z_iconst (v := 0) C dX10_operand_191 (by decide) ?_
                refine zs_qiret C E dX10_operand_192 rfl ?_
                rw [zopn_not hd h0 h07]
                exact ⟨rfl, hQ3, hT3⟩
          · have h40 : (zkn (zT B s) s i) = 40 := (hSm.sg (c := 40) (by decide)).mp q152
            refine z_aload_n C dX10_operand_155 rfl ?_
            refine z_bipush (v := 48) C dX10_operand_156 (by decide) ?_
            refine zs_callVv C dX10_operand_158 zm_X10_335 zyX10_hold (m_hold n _ _ W.length hQ.2.2.2.2.1 (by omega) (nI 48)) zc_10 rfl zk_41 (by decide) (by decide) rfl rfl (Nat.le_of_ble_eq_true rfl) (by decide) (by decide) ?_
            have hQ2 := hQ.st (zfs.hold (nI 48) _ _ W.length) (hQ.2.2.2.2.hold 48 (by decide))
            have ha2 : (if nI 48 = 48 ∨ nI 48 = 40 then zu (zu (zu iv 73 W.length (nI 48)) 41 49 (nI (W.length + 1))) 41 50 (iv 41 50 + 1) else zu (zu iv 73 W.length (nI 48)) 41 49 (nI (W.length + 1))) 41 42 = nI (zps (zT B s) s (i + 1)) := hT.2.2 (fun z => by rw [z] at h40; exact absurd h40 (by decide))
            refine z_aload_n C dX10_operand_161 rfl ?_
            refine zs_callVq C dX10_operand_162 zm_X10_332 zyX10_next (m_nx n _ _ hS hQ2 ha2) zc_10 rfl zk_41 (by decide) (by decide) rfl rfl (Nat.le_of_ble_eq_true rfl) (by decide) (by decide) (fun v162 iv162 lw162 hq162 => ?_)
            obtain ⟨rfl, hQ3, hT3⟩ := hq162
            refine z_iconst (v := 0) C dX10_operand_165 (by decide) ?_
            refine zs_qiret C E dX10_operand_166 rfl ?_
            rw [zopn_open hd h40]
            exact ⟨rfl, hQ3, hT3⟩
        · exact absurd q51 (by decide)
      · have h0 : now = 0 := nI_inj4 (b := 0) hnow (by decide) q30
        refine z_aload_n C dX10_operand_33 rfl ?_
        refine z_getI C dX10_operand_34 zf_X10_295 zk_41 (by decide) ?_
        refine z_bipush (v := 8) C dX10_operand_37 (by decide) ?_
        refine zt_icmp_lt (tgt := 50) C dX10_operand_39 (show (iv 41 50).toInt = (zdeep W : Int) by rw [hQ.2.2.2.2.2.1]; exact nI_toInt (by have := zW_len W; omega)) (show (8 : Int32).toInt = 8 by decide) (by decide) (fun q39 => ?_) (fun q39 => ?_)
        · have hd : now = 0 → zdeep W < 8 := fun _ => by omega
          refine z_iload_n C dX10_operand_50 rfl ?_
          refine z_if_eq (tgt := 146) C dX10_operand_51 (by decide) (fun q51 => ?_) (fun q51 => ?_)
          · refine z_aload_n C dX10_operand_146 rfl ?_
            refine z_getI C dX10_operand_147 zf_X10_238 zk_41 (by decide) ?_
            refine z_bipush (v := 40) C dX10_operand_150 (by decide) ?_
            refine z_icmp_ne (tgt := 167) C dX10_operand_152 (by decide) (fun q152 => ?_) (fun q152 => ?_)
            · have h40 : ¬ (zkn (zT B s) s i) = 40 := fun z => q152 ((hSm.sg (c := 40) (by decide)).mpr z)
              refine z_iload_n C dX10_operand_167 rfl ?_
              refine z_if_ne (tgt := 193) C dX10_operand_168 (by decide) (fun q168 => ?_) (fun q168 => ?_)
              · have h07 : now = 0 → ¬ (zkn (zT B s) s i) = 207 := fun z => absurd (by rw [z]; rfl) q168
                refine z_aload_n C dX10_operand_193 rfl ?_
                refine z_iconst (v := 2) C dX10_operand_194 (by decide) ?_
                refine zs_callVv C dX10_operand_195 zm_X10_323 zyX10_wrong (m_wrong n _ _ hQ.2.1 _) zc_10 rfl zk_41 (by decide) (by decide) rfl rfl (Nat.le_of_ble_eq_true rfl) (by decide) (by decide) ?_
                refine z_iload_n C dX10_operand_198 rfl ?_
                refine zs_qiret C E dX10_operand_199 rfl ?_
                rw [zopn_none hd hN h40 h07]
                exact ⟨⟨_, rfl⟩, hQ.bad hT⟩
              · refine z_aload_n C dX10_operand_171 rfl ?_
                refine z_ldc2 C dX10_operand_172 zk_X10_267 ?_
                refine zs_callVi C dX10_operand_175 zm_X10_302 zyX10_isWord (m_isWord _ _ _ _) zc_10 rfl zk_41 (by decide) (by decide) rfl rfl (Nat.le_of_ble_eq_true rfl) (by decide) (by decide) ?_
                refine zb_if_eq (tgt := 193) C dX10_operand_178 (by decide) (fun q178 => ?_) (fun q178 => ?_)
                · have h07 : now = 0 → ¬ (zkn (zT B s) s i) = 207 := fun _ z => q178 (hSm.w7.mpr z)
                  refine z_aload_n C dX10_operand_193 rfl ?_
                  refine z_iconst (v := 2) C dX10_operand_194 (by decide) ?_
                  refine zs_callVv C dX10_operand_195 zm_X10_323 zyX10_wrong (m_wrong n _ _ hQ.2.1 _) zc_10 rfl zk_41 (by decide) (by decide) rfl rfl (Nat.le_of_ble_eq_true rfl) (by decide) (by decide) ?_
                  refine z_iload_n C dX10_operand_198 rfl ?_
                  refine zs_qiret C E dX10_operand_199 rfl ?_
                  rw [zopn_none hd hN h40 h07]
                  exact ⟨⟨_, rfl⟩, hQ.bad hT⟩
                · have h07 : (zkn (zT B s) s i) = 207 := hSm.w7.mp q178
                  have h0 : now = 0 := nI_inj4 (b := 0) hnow (by decide) q168
                  refine z_aload_n C dX10_operand_181 rfl ?_
                  refine z_bipush (v := 40) C dX10_operand_182 (by decide) ?_
                  refine zs_callVv C dX10_operand_184 zm_X10_335 zyX10_hold (m_hold n _ _ W.length hQ.2.2.2.2.1 (by omega) (nI 40)) zc_10 rfl zk_41 (by decide) (by decide) rfl rfl (Nat.le_of_ble_eq_true rfl) (by decide) (by decide) ?_
                  have hQ2 := hQ.st (zfs.hold (nI 40) _ _ W.length) (hQ.2.2.2.2.hold 40 (by decide))
                  have ha2 : (if nI 40 = 48 ∨ nI 40 = 40 then zu (zu (zu iv 73 W.length (nI 40)) 41 49 (nI (W.length + 1))) 41 50 (iv 41 50 + 1) else zu (zu iv 73 W.length (nI 40)) 41 49 (nI (W.length + 1))) 41 42 = nI (zps (zT B s) s (i + 1)) := hT.2.2 (fun z => by rw [z] at h07; exact absurd h07 (by decide))
                  refine z_aload_n C dX10_operand_187 rfl ?_
                  refine zs_callVq C dX10_operand_188 zm_X10_332 zyX10_next (m_nx n _ _ hS hQ2 ha2) zc_10 rfl zk_41 (by decide) (by decide) rfl rfl (Nat.le_of_ble_eq_true rfl) (by decide) (by decide) (fun v188 iv188 lw188 hq188 => ?_)
                  obtain ⟨rfl, hQ3, hT3⟩ := hq188
                  refine z_iconst (v := 0) C dX10_operand_191 (by decide) ?_
                  refine zs_qiret C E dX10_operand_192 rfl ?_
                  rw [zopn_not hd h0 h07]
                  exact ⟨rfl, hQ3, hT3⟩
            · have h40 : (zkn (zT B s) s i) = 40 := (hSm.sg (c := 40) (by decide)).mp q152
              refine z_aload_n C dX10_operand_155 rfl ?_
              refine z_bipush (v := 48) C dX10_operand_156 (by decide) ?_
              refine zs_callVv C dX10_operand_158 zm_X10_335 zyX10_hold (m_hold n _ _ W.length hQ.2.2.2.2.1 (by omega) (nI 48)) zc_10 rfl zk_41 (by decide) (by decide) rfl rfl (Nat.le_of_ble_eq_true rfl) (by decide) (by decide) ?_
              have hQ2 := hQ.st (zfs.hold (nI 48) _ _ W.length) (hQ.2.2.2.2.hold 48 (by decide))
              have ha2 : (if nI 48 = 48 ∨ nI 48 = 40 then zu (zu (zu iv 73 W.length (nI 48)) 41 49 (nI (W.length + 1))) 41 50 (iv 41 50 + 1) else zu (zu iv 73 W.length (nI 48)) 41 49 (nI (W.length + 1))) 41 42 = nI (zps (zT B s) s (i + 1)) := hT.2.2 (fun z => by rw [z] at h40; exact absurd h40 (by decide))
              refine z_aload_n C dX10_operand_161 rfl ?_
              refine zs_callVq C dX10_operand_162 zm_X10_332 zyX10_next (m_nx n _ _ hS hQ2 ha2) zc_10 rfl zk_41 (by decide) (by decide) rfl rfl (Nat.le_of_ble_eq_true rfl) (by decide) (by decide) (fun v162 iv162 lw162 hq162 => ?_)
              obtain ⟨rfl, hQ3, hT3⟩ := hq162
              refine z_iconst (v := 0) C dX10_operand_165 (by decide) ?_
              refine zs_qiret C E dX10_operand_166 rfl ?_
              rw [zopn_open hd h40]
              exact ⟨rfl, hQ3, hT3⟩
          · exact absurd q51 (by decide)
        · have hd : 8 ≤ zdeep W := by omega
          refine z_aload_n C dX10_operand_42 rfl ?_
          refine z_iconst (v := 2) C dX10_operand_43 (by decide) ?_
          refine zs_callVv C dX10_operand_44 zm_X10_323 zyX10_wrong (m_wrong n _ _ hQ.2.1 _) zc_10 rfl zk_41 (by decide) (by decide) rfl rfl (Nat.le_of_ble_eq_true rfl) (by decide) (by decide) ?_
          refine z_goto (tgt := 198) C dX10_operand_47 (by decide) ?_
          refine z_iload_n C dX10_operand_198 rfl ?_
          refine zs_qiret C E dX10_operand_199 rfl ?_
          rw [zopn_deep h0 hd]
          exact ⟨⟨_, rfl⟩, hQ.bad hT⟩
    · refine z_aload_n C dX10_operand_16 rfl ?_
      refine zs_callVi C dX10_operand_17 zm_X10_320 zyX10_isKey (m_isKey _ _ _) zc_10 rfl zk_41 (by decide) (by decide) rfl rfl (Nat.le_of_ble_eq_true rfl) (by decide) (by decide) ?_
      refine zb_if_ne (tgt := 27) C dX10_operand_20 (by decide) (fun q20 => ?_) (fun q20 => ?_)
      · have hN : ¬ (zisO (zkn (zT B s) s i) ∨ (zkn (zT B s) s i) = 3) := fun z => by
          have hk := (hSm.key q13).mp q20
          rcases z with (z | z) | z
          · omega
          · omega
          · rw [z] at hk; exact absurd hk (by decide)
        refine z_iconst (v := 0) C dX10_operand_27 (by decide) ?_
        refine z_istore_n (lv' := [some (.ref 41), some (.int _), some (.int _), none]) C dX10_operand_28 (by decide) rfl ?_
        refine z_iload_n C dX10_operand_29 rfl ?_
        refine z_if_ne (tgt := 50) C dX10_operand_30 (by decide) (fun q30 => ?_) (fun q30 => ?_)
        · have hd : now = 0 → zdeep W < 8 := fun z => absurd (by rw [z]; rfl) q30
          refine z_iload_n C dX10_operand_50 rfl ?_
          refine z_if_eq (tgt := 146) C dX10_operand_51 (by decide) (fun q51 => ?_) (fun q51 => ?_)
          · refine z_aload_n C dX10_operand_146 rfl ?_
            refine z_getI C dX10_operand_147 zf_X10_238 zk_41 (by decide) ?_
            refine z_bipush (v := 40) C dX10_operand_150 (by decide) ?_
            refine z_icmp_ne (tgt := 167) C dX10_operand_152 (by decide) (fun q152 => ?_) (fun q152 => ?_)
            · have h40 : ¬ (zkn (zT B s) s i) = 40 := fun z => q152 ((hSm.sg (c := 40) (by decide)).mpr z)
              refine z_iload_n C dX10_operand_167 rfl ?_
              refine z_if_ne (tgt := 193) C dX10_operand_168 (by decide) (fun q168 => ?_) (fun q168 => ?_)
              · have h07 : now = 0 → ¬ (zkn (zT B s) s i) = 207 := fun z => absurd (by rw [z]; rfl) q168
                refine z_aload_n C dX10_operand_193 rfl ?_
                refine z_iconst (v := 2) C dX10_operand_194 (by decide) ?_
                refine zs_callVv C dX10_operand_195 zm_X10_323 zyX10_wrong (m_wrong n _ _ hQ.2.1 _) zc_10 rfl zk_41 (by decide) (by decide) rfl rfl (Nat.le_of_ble_eq_true rfl) (by decide) (by decide) ?_
                refine z_iload_n C dX10_operand_198 rfl ?_
                refine zs_qiret C E dX10_operand_199 rfl ?_
                rw [zopn_none hd hN h40 h07]
                exact ⟨⟨_, rfl⟩, hQ.bad hT⟩
              · refine z_aload_n C dX10_operand_171 rfl ?_
                refine z_ldc2 C dX10_operand_172 zk_X10_267 ?_
                refine zs_callVi C dX10_operand_175 zm_X10_302 zyX10_isWord (m_isWord _ _ _ _) zc_10 rfl zk_41 (by decide) (by decide) rfl rfl (Nat.le_of_ble_eq_true rfl) (by decide) (by decide) ?_
                refine zb_if_eq (tgt := 193) C dX10_operand_178 (by decide) (fun q178 => ?_) (fun q178 => ?_)
                · have h07 : now = 0 → ¬ (zkn (zT B s) s i) = 207 := fun _ z => q178 (hSm.w7.mpr z)
                  refine z_aload_n C dX10_operand_193 rfl ?_
                  refine z_iconst (v := 2) C dX10_operand_194 (by decide) ?_
                  refine zs_callVv C dX10_operand_195 zm_X10_323 zyX10_wrong (m_wrong n _ _ hQ.2.1 _) zc_10 rfl zk_41 (by decide) (by decide) rfl rfl (Nat.le_of_ble_eq_true rfl) (by decide) (by decide) ?_
                  refine z_iload_n C dX10_operand_198 rfl ?_
                  refine zs_qiret C E dX10_operand_199 rfl ?_
                  rw [zopn_none hd hN h40 h07]
                  exact ⟨⟨_, rfl⟩, hQ.bad hT⟩
                · have h07 : (zkn (zT B s) s i) = 207 := hSm.w7.mp q178
                  have h0 : now = 0 := nI_inj4 (b := 0) hnow (by decide) q168
                  refine z_aload_n C dX10_operand_181 rfl ?_
                  refine z_bipush (v := 40) C dX10_operand_182 (by decide) ?_
                  refine zs_callVv C dX10_operand_184 zm_X10_335 zyX10_hold (m_hold n _ _ W.length hQ.2.2.2.2.1 (by omega) (nI 40)) zc_10 rfl zk_41 (by decide) (by decide) rfl rfl (Nat.le_of_ble_eq_true rfl) (by decide) (by decide) ?_
                  have hQ2 := hQ.st (zfs.hold (nI 40) _ _ W.length) (hQ.2.2.2.2.hold 40 (by decide))
                  have ha2 : (if nI 40 = 48 ∨ nI 40 = 40 then zu (zu (zu iv 73 W.length (nI 40)) 41 49 (nI (W.length + 1))) 41 50 (iv 41 50 + 1) else zu (zu iv 73 W.length (nI 40)) 41 49 (nI (W.length + 1))) 41 42 = nI (zps (zT B s) s (i + 1)) := hT.2.2 (fun z => by rw [z] at h07; exact absurd h07 (by decide))
                  refine z_aload_n C dX10_operand_187 rfl ?_
                  refine zs_callVq C dX10_operand_188 zm_X10_332 zyX10_next (m_nx n _ _ hS hQ2 ha2) zc_10 rfl zk_41 (by decide) (by decide) rfl rfl (Nat.le_of_ble_eq_true rfl) (by decide) (by decide) (fun v188 iv188 lw188 hq188 => ?_)
                  obtain ⟨rfl, hQ3, hT3⟩ := hq188
                  refine z_iconst (v := 0) C dX10_operand_191 (by decide) ?_
                  refine zs_qiret C E dX10_operand_192 rfl ?_
                  rw [zopn_not hd h0 h07]
                  exact ⟨rfl, hQ3, hT3⟩
            · have h40 : (zkn (zT B s) s i) = 40 := (hSm.sg (c := 40) (by decide)).mp q152
              refine z_aload_n C dX10_operand_155 rfl ?_
              refine z_bipush (v := 48) C dX10_operand_156 (by decide) ?_
              refine zs_callVv C dX10_operand_158 zm_X10_335 zyX10_hold (m_hold n _ _ W.length hQ.2.2.2.2.1 (by omega) (nI 48)) zc_10 rfl zk_41 (by decide) (by decide) rfl rfl (Nat.le_of_ble_eq_true rfl) (by decide) (by decide) ?_
              have hQ2 := hQ.st (zfs.hold (nI 48) _ _ W.length) (hQ.2.2.2.2.hold 48 (by decide))
              have ha2 : (if nI 48 = 48 ∨ nI 48 = 40 then zu (zu (zu iv 73 W.length (nI 48)) 41 49 (nI (W.length + 1))) 41 50 (iv 41 50 + 1) else zu (zu iv 73 W.length (nI 48)) 41 49 (nI (W.length + 1))) 41 42 = nI (zps (zT B s) s (i + 1)) := hT.2.2 (fun z => by rw [z] at h40; exact absurd h40 (by decide))
              refine z_aload_n C dX10_operand_161 rfl ?_
              refine zs_callVq C dX10_operand_162 zm_X10_332 zyX10_next (m_nx n _ _ hS hQ2 ha2) zc_10 rfl zk_41 (by decide) (by decide) rfl rfl (Nat.le_of_ble_eq_true rfl) (by decide) (by decide) (fun v162 iv162 lw162 hq162 => ?_)
              obtain ⟨rfl, hQ3, hT3⟩ := hq162
              refine z_iconst (v := 0) C dX10_operand_165 (by decide) ?_
              refine zs_qiret C E dX10_operand_166 rfl ?_
              rw [zopn_open hd h40]
              exact ⟨rfl, hQ3, hT3⟩
          · exact absurd q51 (by decide)
        · have h0 : now = 0 := nI_inj4 (b := 0) hnow (by decide) q30
          refine z_aload_n C dX10_operand_33 rfl ?_
          refine z_getI C dX10_operand_34 zf_X10_295 zk_41 (by decide) ?_
          refine z_bipush (v := 8) C dX10_operand_37 (by decide) ?_
          refine zt_icmp_lt (tgt := 50) C dX10_operand_39 (show (iv 41 50).toInt = (zdeep W : Int) by rw [hQ.2.2.2.2.2.1]; exact nI_toInt (by have := zW_len W; omega)) (show (8 : Int32).toInt = 8 by decide) (by decide) (fun q39 => ?_) (fun q39 => ?_)
          · have hd : now = 0 → zdeep W < 8 := fun _ => by omega
            refine z_iload_n C dX10_operand_50 rfl ?_
            refine z_if_eq (tgt := 146) C dX10_operand_51 (by decide) (fun q51 => ?_) (fun q51 => ?_)
            · refine z_aload_n C dX10_operand_146 rfl ?_
              refine z_getI C dX10_operand_147 zf_X10_238 zk_41 (by decide) ?_
              refine z_bipush (v := 40) C dX10_operand_150 (by decide) ?_
              refine z_icmp_ne (tgt := 167) C dX10_operand_152 (by decide) (fun q152 => ?_) (fun q152 => ?_)
              · have h40 : ¬ (zkn (zT B s) s i) = 40 := fun z => q152 ((hSm.sg (c := 40) (by decide)).mpr z)
                refine z_iload_n C dX10_operand_167 rfl ?_
                refine z_if_ne (tgt := 193) C dX10_operand_168 (by decide) (fun q168 => ?_) (fun q168 => ?_)
                · have h07 : now = 0 → ¬ (zkn (zT B s) s i) = 207 := fun z => absurd (by rw [z]; rfl) q168
                  refine z_aload_n C dX10_operand_193 rfl ?_
                  refine z_iconst (v := 2) C dX10_operand_194 (by decide) ?_
                  refine zs_callVv C dX10_operand_195 zm_X10_323 zyX10_wrong (m_wrong n _ _ hQ.2.1 _) zc_10 rfl zk_41 (by decide) (by decide) rfl rfl (Nat.le_of_ble_eq_true rfl) (by decide) (by decide) ?_
                  refine z_iload_n C dX10_operand_198 rfl ?_
                  refine zs_qiret C E dX10_operand_199 rfl ?_
                  rw [zopn_none hd hN h40 h07]
                  exact ⟨⟨_, rfl⟩, hQ.bad hT⟩
                · refine z_aload_n C dX10_operand_171 rfl ?_
                  refine z_ldc2 C dX10_operand_172 zk_X10_267 ?_
                  refine zs_callVi C dX10_operand_175 zm_X10_302 zyX10_isWord (m_isWord _ _ _ _) zc_10 rfl zk_41 (by decide) (by decide) rfl rfl (Nat.le_of_ble_eq_true rfl) (by decide) (by decide) ?_
                  refine zb_if_eq (tgt := 193) C dX10_operand_178 (by decide) (fun q178 => ?_) (fun q178 => ?_)
                  · have h07 : now = 0 → ¬ (zkn (zT B s) s i) = 207 := fun _ z => q178 (hSm.w7.mpr z)
                    refine z_aload_n C dX10_operand_193 rfl ?_
                    refine z_iconst (v := 2) C dX10_operand_194 (by decide) ?_
                    refine zs_callVv C dX10_operand_195 zm_X10_323 zyX10_wrong (m_wrong n _ _ hQ.2.1 _) zc_10 rfl zk_41 (by decide) (by decide) rfl rfl (Nat.le_of_ble_eq_true rfl) (by decide) (by decide) ?_
                    refine z_iload_n C dX10_operand_198 rfl ?_
                    refine zs_qiret C E dX10_operand_199 rfl ?_
                    rw [zopn_none hd hN h40 h07]
                    exact ⟨⟨_, rfl⟩, hQ.bad hT⟩
                  · have h07 : (zkn (zT B s) s i) = 207 := hSm.w7.mp q178
                    have h0 : now = 0 := nI_inj4 (b := 0) hnow (by decide) q168
                    refine z_aload_n C dX10_operand_181 rfl ?_
                    refine z_bipush (v := 40) C dX10_operand_182 (by decide) ?_
                    refine zs_callVv C dX10_operand_184 zm_X10_335 zyX10_hold (m_hold n _ _ W.length hQ.2.2.2.2.1 (by omega) (nI 40)) zc_10 rfl zk_41 (by decide) (by decide) rfl rfl (Nat.le_of_ble_eq_true rfl) (by decide) (by decide) ?_
                    have hQ2 := hQ.st (zfs.hold (nI 40) _ _ W.length) (hQ.2.2.2.2.hold 40 (by decide))
                    have ha2 : (if nI 40 = 48 ∨ nI 40 = 40 then zu (zu (zu iv 73 W.length (nI 40)) 41 49 (nI (W.length + 1))) 41 50 (iv 41 50 + 1) else zu (zu iv 73 W.length (nI 40)) 41 49 (nI (W.length + 1))) 41 42 = nI (zps (zT B s) s (i + 1)) := hT.2.2 (fun z => by rw [z] at h07; exact absurd h07 (by decide))
                    refine z_aload_n C dX10_operand_187 rfl ?_
                    refine zs_callVq C dX10_operand_188 zm_X10_332 zyX10_next (m_nx n _ _ hS hQ2 ha2) zc_10 rfl zk_41 (by decide) (by decide) rfl rfl (Nat.le_of_ble_eq_true rfl) (by decide) (by decide) (fun v188 iv188 lw188 hq188 => ?_)
                    obtain ⟨rfl, hQ3, hT3⟩ := hq188
                    refine z_iconst (v := 0) C dX10_operand_191 (by decide) ?_
                    refine zs_qiret C E dX10_operand_192 rfl ?_
                    rw [zopn_not hd h0 h07]
                    exact ⟨rfl, hQ3, hT3⟩
              · have h40 : (zkn (zT B s) s i) = 40 := (hSm.sg (c := 40) (by decide)).mp q152
                refine z_aload_n C dX10_operand_155 rfl ?_
                refine z_bipush (v := 48) C dX10_operand_156 (by decide) ?_
                refine zs_callVv C dX10_operand_158 zm_X10_335 zyX10_hold (m_hold n _ _ W.length hQ.2.2.2.2.1 (by omega) (nI 48)) zc_10 rfl zk_41 (by decide) (by decide) rfl rfl (Nat.le_of_ble_eq_true rfl) (by decide) (by decide) ?_
                have hQ2 := hQ.st (zfs.hold (nI 48) _ _ W.length) (hQ.2.2.2.2.hold 48 (by decide))
                have ha2 : (if nI 48 = 48 ∨ nI 48 = 40 then zu (zu (zu iv 73 W.length (nI 48)) 41 49 (nI (W.length + 1))) 41 50 (iv 41 50 + 1) else zu (zu iv 73 W.length (nI 48)) 41 49 (nI (W.length + 1))) 41 42 = nI (zps (zT B s) s (i + 1)) := hT.2.2 (fun z => by rw [z] at h40; exact absurd h40 (by decide))
                refine z_aload_n C dX10_operand_161 rfl ?_
                refine zs_callVq C dX10_operand_162 zm_X10_332 zyX10_next (m_nx n _ _ hS hQ2 ha2) zc_10 rfl zk_41 (by decide) (by decide) rfl rfl (Nat.le_of_ble_eq_true rfl) (by decide) (by decide) (fun v162 iv162 lw162 hq162 => ?_)
                obtain ⟨rfl, hQ3, hT3⟩ := hq162
                refine z_iconst (v := 0) C dX10_operand_165 (by decide) ?_
                refine zs_qiret C E dX10_operand_166 rfl ?_
                rw [zopn_open hd h40]
                exact ⟨rfl, hQ3, hT3⟩
            · exact absurd q51 (by decide)
          · have hd : 8 ≤ zdeep W := by omega
            refine z_aload_n C dX10_operand_42 rfl ?_
            refine z_iconst (v := 2) C dX10_operand_43 (by decide) ?_
            refine zs_callVv C dX10_operand_44 zm_X10_323 zyX10_wrong (m_wrong n _ _ hQ.2.1 _) zc_10 rfl zk_41 (by decide) (by decide) rfl rfl (Nat.le_of_ble_eq_true rfl) (by decide) (by decide) ?_
            refine z_goto (tgt := 198) C dX10_operand_47 (by decide) ?_
            refine z_iload_n C dX10_operand_198 rfl ?_
            refine zs_qiret C E dX10_operand_199 rfl ?_
            rw [zopn_deep h0 hd]
            exact ⟨⟨_, rfl⟩, hQ.bad hT⟩
      · have hnm := hSm.nm q13 (fun z => q20 ((hSm.key q13).mpr z))
        have hO : zisO (zkn (zT B s) s i) ∨ (zkn (zT B s) s i) = 3 := hnm.elim (fun z => Or.inr z.1) (fun z => Or.inl (Or.inr z.1))
        refine z_iconst (v := 1) C dX10_operand_23 (by decide) ?_
        refine z_goto (tgt := 28) C dX10_operand_24 (by decide) ?_
        refine z_istore_n (lv' := [some (.ref 41), some (.int _), some (.int _), none]) C dX10_operand_28 (by decide) rfl ?_
        refine z_iload_n C dX10_operand_29 rfl ?_
        refine z_if_ne (tgt := 50) C dX10_operand_30 (by decide) (fun q30 => ?_) (fun q30 => ?_)
        · have hd : now = 0 → zdeep W < 8 := fun z => absurd (by rw [z]; rfl) q30
          refine z_iload_n C dX10_operand_50 rfl ?_
          refine z_if_eq (tgt := 146) C dX10_operand_51 (by decide) (fun q51 => ?_) (fun q51 => ?_)
          · exact absurd q51 (by decide)
          · refine z_aload_n C dX10_operand_54 rfl ?_
            refine z_getI C dX10_operand_55 zf_X10_238 zk_41 (by decide) ?_
            refine z_iconst (v := 1) C dX10_operand_58 (by decide) ?_
            refine z_icmp_ne (tgt := 69) C dX10_operand_59 (by decide) (fun q59 => ?_) (fun q59 => ?_)
            · exact absurd q13 q59
            · refine z_aload_n C dX10_operand_62 rfl ?_
              refine zs_callVi C dX10_operand_63 zm_X10_326 zyX10_named (m_named _ _ _) zc_10 rfl zk_41 (by decide) (by decide) rfl rfl (Nat.le_of_ble_eq_true rfl) (by decide) (by decide) ?_
              refine z_goto (tgt := 70) C dX10_operand_66 (by decide) ?_
              refine z_istore_n (lv' := [some (.ref 41), some (.int _), some (.int _), some (.int _)]) C dX10_operand_70 (by decide) rfl ?_
              refine z_aload_n C dX10_operand_71 rfl ?_
              refine z_getI C dX10_operand_72 zf_X10_329 zk_41 (by decide) ?_
              refine z_bipush (v := 100) C dX10_operand_75 (by decide) ?_
              refine z_icmp_ne (tgt := 88) C dX10_operand_77 (by decide) (fun q77 => ?_) (fun q77 => ?_)
              · have hv : ¬ v = 100 := fun z => q77 (by rw [hQ.2.2.2.1, z]; rfl)
                refine z_iload_n C dX10_operand_88 rfl ?_
                refine zt_if_ge (tgt := 97) C dX10_operand_89 rfl (by decide) (fun q89 => ?_) (fun q89 => ?_)
                · skip
                  refine z_aload_n C dX10_operand_97 rfl ?_
                  refine z_getI C dX10_operand_98 zf_X10_250 zk_41 (by decide) ?_
                  refine zt_if_le (tgt := 106) C dX10_operand_101 rfl (by decide) (fun q101 => ?_) (fun q101 => ?_)
                  · refine z_aload_n C dX10_operand_106 rfl ?_
                    refine z_aload_n C dX10_operand_107 rfl ?_
                    refine z_getI C dX10_operand_108 zf_X10_238 zk_41 (by decide) ?_
                    refine z_iconst (v := 2) C dX10_operand_111 (by decide) ?_
                    refine z_icmp_ne (tgt := 119) C dX10_operand_112 (by decide) (fun q112 => ?_) (fun q112 => ?_)
                    · refine z_bipush (v := 20) C dX10_operand_119 (by decide) ?_
                      refine z_iload_n C dX10_operand_121 rfl ?_
                      refine z_iadd C dX10_operand_122 ?_
                      refine z_aload_n C dX10_operand_123 rfl ?_
                      refine z_getI C dX10_operand_124 zf_X10_235 zk_41 (by decide) ?_
                      refine zs_callVv C dX10_operand_127 zm_X10_298 zyX10_step (m_step n _ _ (b + P.length) hQ.2.2.2.2.2.2.2.1 (by omega) _ _) zc_10 rfl zk_41 (by decide) (by decide) rfl rfl (Nat.le_of_ble_eq_true rfl) (by decide) (by decide) ?_
                      refine z_aload_n C dX10_operand_130 rfl ?_
                      refine z_dup C dX10_operand_131 rfl ?_
                      refine z_getI C dX10_operand_132 zf_X10_329 zk_41 (by decide) ?_
                      refine z_iconst (v := 1) C dX10_operand_135 (by decide) ?_
                      refine z_iadd C dX10_operand_136 ?_
                      refine z_eqi (y := nI (v + 1)) (by show iv 41 37 + 1 = _; rw [hQ.2.2.2.1, nI_1]) ?_
                      refine z_putI C dX10_operand_137 zf_X10_329 zk_41 (by decide) ?_
                      have hr := hnm.resolve_left (fun z => by rw [z.2] at q89; exact absurd q89 (by decide))
                      have hO2 : zisO (zkn (zT B s) s i) := Or.inr hr.1
                      have hQ2 := hQ.opr (x := (zkn (zT B s) s i)) (c := 20 + zmnm (lw 41 47)) (nu := iv 41 46) (by
                        unfold zsc
                        rw [if_neg (by omega), if_pos hr.1, hr.2, Int32.sub_eq_add_neg, Int32.sub_eq_add_neg, Int32.add_comm, Int32.add_assoc]
                        rfl) (fun z => by omega)
                      have ha2 := hT.2.2 (hno2 hO)
                      refine z_aload_n C dX10_operand_140 rfl ?_
                      refine zs_callVq C dX10_operand_141 zm_X10_332 zyX10_next (m_nx n _ _ hS hQ2 ha2) zc_10 rfl zk_41 (by decide) (by decide) rfl rfl (Nat.le_of_ble_eq_true rfl) (by decide) (by decide) (fun v141 iv141 lw141 hq141 => ?_)
                      obtain ⟨rfl, hQ3, hT3⟩ := hq141
                      refine z_iconst (v := 2) C dX10_operand_144 (by decide) ?_
                      refine zs_qiret C E dX10_operand_145 rfl ?_
                      rw [zopn_op hd hO2 hv]
                      exact ⟨rfl, hQ3, hT3⟩
                    · exact absurd q112 q5
                  · exact absurd (by rw [hQ.2.1]; decide) q101
                · have h3 : (zkn (zT B s) s i) = 3 := hnm.elim (fun z => z.1) (fun z => by
                    exfalso
                    apply q89
                    rw [z.2, Int32.toInt_sub, show Int32.toInt 208 = 208 by decide, Int.bmod_eq_of_le (by omega) (by omega)]
                    omega)
                  refine z_aload_n C dX10_operand_92 rfl ?_
                  refine z_iconst (v := 3) C dX10_operand_93 (by decide) ?_
                  refine zs_callVv C dX10_operand_94 zm_X10_323 zyX10_wrong (m_wrong n _ _ hQ.2.1 _) zc_10 rfl zk_41 (by decide) (by decide) rfl rfl (Nat.le_of_ble_eq_true rfl) (by decide) (by decide) ?_
                  have hF := hQ.wr2 hT (wh := 3) (by decide) (hno2 hO)
                  have hFp := hF.pos
                  refine z_aload_n C dX10_operand_97 rfl ?_
                  refine z_getI C dX10_operand_98 zf_X10_250 zk_41 (by decide) ?_
                  refine zt_if_le (tgt := 106) C dX10_operand_101 rfl (by decide) (fun q101 => ?_) (fun q101 => ?_)
                  · exact absurd hFp (by show ¬ 0 < _; omega)
                  · refine z_iload_n C dX10_operand_104 rfl ?_
                    refine zs_qiret C E dX10_operand_105 rfl ?_
                    rw [zopn_name hd h3 hv]
                    exact ⟨⟨_, rfl⟩, hF⟩
              · have hv : v = 100 := nI_inj4 (b := 100) (by omega) (by decide) (hQ.2.2.2.1.symm.trans q77)
                refine z_aload_n C dX10_operand_80 rfl ?_
                refine z_iconst (v := 2) C dX10_operand_81 (by decide) ?_
                refine zs_callVv C dX10_operand_82 zm_X10_323 zyX10_wrong (m_wrong n _ _ hQ.2.1 _) zc_10 rfl zk_41 (by decide) (by decide) rfl rfl (Nat.le_of_ble_eq_true rfl) (by decide) (by decide) ?_
                refine z_goto (tgt := 97) C dX10_operand_85 (by decide) ?_
                have hF := hQ.wr2 hT (wh := 2) (by decide) (hno2 hO)
                have hFp := hF.pos
                refine z_aload_n C dX10_operand_97 rfl ?_
                refine z_getI C dX10_operand_98 zf_X10_250 zk_41 (by decide) ?_
                refine zt_if_le (tgt := 106) C dX10_operand_101 rfl (by decide) (fun q101 => ?_) (fun q101 => ?_)
                · exact absurd hFp (by show ¬ 0 < _; omega)
                · refine z_iload_n C dX10_operand_104 rfl ?_
                  refine zs_qiret C E dX10_operand_105 rfl ?_
                  rw [zopn_full hd hO hv]
                  exact ⟨⟨_, rfl⟩, hF⟩
        · have h0 : now = 0 := nI_inj4 (b := 0) hnow (by decide) q30
          refine z_aload_n C dX10_operand_33 rfl ?_
          refine z_getI C dX10_operand_34 zf_X10_295 zk_41 (by decide) ?_
          refine z_bipush (v := 8) C dX10_operand_37 (by decide) ?_
          refine zt_icmp_lt (tgt := 50) C dX10_operand_39 (show (iv 41 50).toInt = (zdeep W : Int) by rw [hQ.2.2.2.2.2.1]; exact nI_toInt (by have := zW_len W; omega)) (show (8 : Int32).toInt = 8 by decide) (by decide) (fun q39 => ?_) (fun q39 => ?_)
          · have hd : now = 0 → zdeep W < 8 := fun _ => by omega
            refine z_iload_n C dX10_operand_50 rfl ?_
            refine z_if_eq (tgt := 146) C dX10_operand_51 (by decide) (fun q51 => ?_) (fun q51 => ?_)
            · exact absurd q51 (by decide)
            · refine z_aload_n C dX10_operand_54 rfl ?_
              refine z_getI C dX10_operand_55 zf_X10_238 zk_41 (by decide) ?_
              refine z_iconst (v := 1) C dX10_operand_58 (by decide) ?_
              refine z_icmp_ne (tgt := 69) C dX10_operand_59 (by decide) (fun q59 => ?_) (fun q59 => ?_)
              · exact absurd q13 q59
              · refine z_aload_n C dX10_operand_62 rfl ?_
                refine zs_callVi C dX10_operand_63 zm_X10_326 zyX10_named (m_named _ _ _) zc_10 rfl zk_41 (by decide) (by decide) rfl rfl (Nat.le_of_ble_eq_true rfl) (by decide) (by decide) ?_
                refine z_goto (tgt := 70) C dX10_operand_66 (by decide) ?_
                refine z_istore_n (lv' := [some (.ref 41), some (.int _), some (.int _), some (.int _)]) C dX10_operand_70 (by decide) rfl ?_
                refine z_aload_n C dX10_operand_71 rfl ?_
                refine z_getI C dX10_operand_72 zf_X10_329 zk_41 (by decide) ?_
                refine z_bipush (v := 100) C dX10_operand_75 (by decide) ?_
                refine z_icmp_ne (tgt := 88) C dX10_operand_77 (by decide) (fun q77 => ?_) (fun q77 => ?_)
                · have hv : ¬ v = 100 := fun z => q77 (by rw [hQ.2.2.2.1, z]; rfl)
                  refine z_iload_n C dX10_operand_88 rfl ?_
                  refine zt_if_ge (tgt := 97) C dX10_operand_89 rfl (by decide) (fun q89 => ?_) (fun q89 => ?_)
                  · skip
                    refine z_aload_n C dX10_operand_97 rfl ?_
                    refine z_getI C dX10_operand_98 zf_X10_250 zk_41 (by decide) ?_
                    refine zt_if_le (tgt := 106) C dX10_operand_101 rfl (by decide) (fun q101 => ?_) (fun q101 => ?_)
                    · refine z_aload_n C dX10_operand_106 rfl ?_
                      refine z_aload_n C dX10_operand_107 rfl ?_
                      refine z_getI C dX10_operand_108 zf_X10_238 zk_41 (by decide) ?_
                      refine z_iconst (v := 2) C dX10_operand_111 (by decide) ?_
                      refine z_icmp_ne (tgt := 119) C dX10_operand_112 (by decide) (fun q112 => ?_) (fun q112 => ?_)
                      · refine z_bipush (v := 20) C dX10_operand_119 (by decide) ?_
                        refine z_iload_n C dX10_operand_121 rfl ?_
                        refine z_iadd C dX10_operand_122 ?_
                        refine z_aload_n C dX10_operand_123 rfl ?_
                        refine z_getI C dX10_operand_124 zf_X10_235 zk_41 (by decide) ?_
                        refine zs_callVv C dX10_operand_127 zm_X10_298 zyX10_step (m_step n _ _ (b + P.length) hQ.2.2.2.2.2.2.2.1 (by omega) _ _) zc_10 rfl zk_41 (by decide) (by decide) rfl rfl (Nat.le_of_ble_eq_true rfl) (by decide) (by decide) ?_
                        refine z_aload_n C dX10_operand_130 rfl ?_
                        refine z_dup C dX10_operand_131 rfl ?_
                        refine z_getI C dX10_operand_132 zf_X10_329 zk_41 (by decide) ?_
                        refine z_iconst (v := 1) C dX10_operand_135 (by decide) ?_
                        refine z_iadd C dX10_operand_136 ?_
                        refine z_eqi (y := nI (v + 1)) (by show iv 41 37 + 1 = _; rw [hQ.2.2.2.1, nI_1]) ?_
                        refine z_putI C dX10_operand_137 zf_X10_329 zk_41 (by decide) ?_
                        have hr := hnm.resolve_left (fun z => by rw [z.2] at q89; exact absurd q89 (by decide))
                        have hO2 : zisO (zkn (zT B s) s i) := Or.inr hr.1
                        have hQ2 := hQ.opr (x := (zkn (zT B s) s i)) (c := 20 + zmnm (lw 41 47)) (nu := iv 41 46) (by
                          unfold zsc
                          rw [if_neg (by omega), if_pos hr.1, hr.2, Int32.sub_eq_add_neg, Int32.sub_eq_add_neg, Int32.add_comm, Int32.add_assoc]
                          rfl) (fun z => by omega)
                        have ha2 := hT.2.2 (hno2 hO)
                        refine z_aload_n C dX10_operand_140 rfl ?_
                        refine zs_callVq C dX10_operand_141 zm_X10_332 zyX10_next (m_nx n _ _ hS hQ2 ha2) zc_10 rfl zk_41 (by decide) (by decide) rfl rfl (Nat.le_of_ble_eq_true rfl) (by decide) (by decide) (fun v141 iv141 lw141 hq141 => ?_)
                        obtain ⟨rfl, hQ3, hT3⟩ := hq141
                        refine z_iconst (v := 2) C dX10_operand_144 (by decide) ?_
                        refine zs_qiret C E dX10_operand_145 rfl ?_
                        rw [zopn_op hd hO2 hv]
                        exact ⟨rfl, hQ3, hT3⟩
                      · exact absurd q112 q5
                    · exact absurd (by rw [hQ.2.1]; decide) q101
                  · have h3 : (zkn (zT B s) s i) = 3 := hnm.elim (fun z => z.1) (fun z => by
                      exfalso
                      apply q89
                      rw [z.2, Int32.toInt_sub, show Int32.toInt 208 = 208 by decide, Int.bmod_eq_of_le (by omega) (by omega)]
                      omega)
                    refine z_aload_n C dX10_operand_92 rfl ?_
                    refine z_iconst (v := 3) C dX10_operand_93 (by decide) ?_
                    refine zs_callVv C dX10_operand_94 zm_X10_323 zyX10_wrong (m_wrong n _ _ hQ.2.1 _) zc_10 rfl zk_41 (by decide) (by decide) rfl rfl (Nat.le_of_ble_eq_true rfl) (by decide) (by decide) ?_
                    have hF := hQ.wr2 hT (wh := 3) (by decide) (hno2 hO)
                    have hFp := hF.pos
                    refine z_aload_n C dX10_operand_97 rfl ?_
                    refine z_getI C dX10_operand_98 zf_X10_250 zk_41 (by decide) ?_
                    refine zt_if_le (tgt := 106) C dX10_operand_101 rfl (by decide) (fun q101 => ?_) (fun q101 => ?_)
                    · exact absurd hFp (by show ¬ 0 < _; omega)
                    · refine z_iload_n C dX10_operand_104 rfl ?_
                      refine zs_qiret C E dX10_operand_105 rfl ?_
                      rw [zopn_name hd h3 hv]
                      exact ⟨⟨_, rfl⟩, hF⟩
                · have hv : v = 100 := nI_inj4 (b := 100) (by omega) (by decide) (hQ.2.2.2.1.symm.trans q77)
                  refine z_aload_n C dX10_operand_80 rfl ?_
                  refine z_iconst (v := 2) C dX10_operand_81 (by decide) ?_
                  refine zs_callVv C dX10_operand_82 zm_X10_323 zyX10_wrong (m_wrong n _ _ hQ.2.1 _) zc_10 rfl zk_41 (by decide) (by decide) rfl rfl (Nat.le_of_ble_eq_true rfl) (by decide) (by decide) ?_
                  refine z_goto (tgt := 97) C dX10_operand_85 (by decide) ?_
                  have hF := hQ.wr2 hT (wh := 2) (by decide) (hno2 hO)
                  have hFp := hF.pos
                  refine z_aload_n C dX10_operand_97 rfl ?_
                  refine z_getI C dX10_operand_98 zf_X10_250 zk_41 (by decide) ?_
                  refine zt_if_le (tgt := 106) C dX10_operand_101 rfl (by decide) (fun q101 => ?_) (fun q101 => ?_)
                  · exact absurd hFp (by show ¬ 0 < _; omega)
                  · refine z_iload_n C dX10_operand_104 rfl ?_
                    refine zs_qiret C E dX10_operand_105 rfl ?_
                    rw [zopn_full hd hO hv]
                    exact ⟨⟨_, rfl⟩, hF⟩
          · have hd : 8 ≤ zdeep W := by omega
            refine z_aload_n C dX10_operand_42 rfl ?_
            refine z_iconst (v := 2) C dX10_operand_43 (by decide) ?_
            refine zs_callVv C dX10_operand_44 zm_X10_323 zyX10_wrong (m_wrong n _ _ hQ.2.1 _) zc_10 rfl zk_41 (by decide) (by decide) rfl rfl (Nat.le_of_ble_eq_true rfl) (by decide) (by decide) ?_
            refine z_goto (tgt := 198) C dX10_operand_47 (by decide) ?_
            refine z_iload_n C dX10_operand_198 rfl ?_
            refine zs_qiret C E dX10_operand_199 rfl ?_
            rw [zopn_deep h0 hd]
            exact ⟨⟨_, rfl⟩, hQ.bad hT⟩
