section ZO2
variable {k : Nat → Int32} {i : Nat} {W : List Nat} {P : List Int32} {v : Nat}
theorem zsig_p {w : Nat} (hk : (k i = 43 ∧ w = 46) ∨ (k i = 45 ∧ w = 47)) : zsig k i W P v = .inr (1, i + 1, w :: (zsett zq46 W P).1, (zsett zq46 W P).2, v) := by
  unfold zsig
  rcases hk with ⟨h, rfl⟩ | ⟨h, rfl⟩ <;> rw [h] <;> rfl
theorem zsig_c {w : Nat} (hk : (k i = 61 ∧ w = 43) ∨ (k i = 60 ∧ w = 44) ∨ (k i = 62 ∧ w = 45)) (hc : zcmT (zsett zq46 W P).1 = false) : zsig k i W P v = .inr (1, i + 1, w :: (zsett zq46 W P).1, (zsett zq46 W P).2, v) := by
  unfold zsig
  rw [hc]
  rcases hk with ⟨h, rfl⟩ | ⟨h, rfl⟩ | ⟨h, rfl⟩ <;> rw [h] <;> rfl
theorem zsig_x (hk : k i = 61 ∨ k i = 60 ∨ k i = 62) (hc : zcmT (zsett zq46 W P).1 = true) : zsig k i W P v = .inl (2, i) := by
  unfold zsig
  rw [hc]
  rcases hk with h | h | h <;> rw [h] <;> rfl
theorem zsig_a (hk : k i = 206) : zsig k i W P v = .inr (0, i + 1, 42 :: (zsett (zqo true) W P).1, (zsett (zqo true) W P).2, v) := by
  unfold zsig
  rw [hk]
  rfl
theorem zsig_o (hk : k i = 205) : zsig k i W P v = .inr (0, i + 1, 41 :: (zsett (zqo false) W P).1, (zsett (zqo false) W P).2, v) := by
  unfold zsig
  rw [hk]
  rfl
theorem zsig_e (hk : k i = 41) (hw : 48 ∈ W) : zsig k i W P v = .inr (2, i + 1, (zsett zq0 W P).1.tail, (zsett zq0 W P).2, v) := by
  unfold zsig
  rw [hk, if_neg (by decide), if_neg (by decide), if_neg (by decide), if_pos ⟨rfl, hw⟩]
theorem zsig_n (h1 : ¬ (k i = 43 ∨ k i = 45)) (h2 : ¬ (k i = 61 ∨ k i = 60 ∨ k i = 62)) (h3 : ¬ (k i = 206 ∨ k i = 205)) (h4 : ¬ (k i = 41 ∧ 48 ∈ W)) : zsig k i W P v = .inl (zbad (k i) i) := by
  unfold zsig
  rw [if_neg h1, if_neg h2, if_neg h3, if_neg h4]
theorem zsett_len {p : Nat → Bool} : ∀ (W : List Nat) (P : List Int32), (zsett p W P).1.length + (zsett p W P).2.length = W.length + P.length ∧ (zsett p W P).1.length ≤ W.length
  | [], P => ⟨rfl, Nat.le_refl _⟩
  | w :: W, P => by
    by_cases c : p w = true
    · have e : zsett p (w :: W) P = zsett p W (zop w :: P) := by show (if p w = true then _ else _) = _; rw [if_pos c]
      have ih := zsett_len (p := p) W (zop w :: P)
      rw [e]
      simp only [List.length_cons] at ih ⊢
      omega
    · have e : zsett p (w :: W) P = (w :: W, P) := by show (if p w = true then _ else _) = _; rw [if_neg c]
      rw [e]
      exact ⟨rfl, Nat.le_refl _⟩
end ZO2

set_option maxHeartbeats 1000000 in
set_option maxRecDepth 4000 in
theorem m_sign (n : Nat) (iv : zI) (lw : zG) {iv0 : zI} {B : Nat → Int32} {s b v0 n0 : Nat} (hS : zSt iv0 B s) (i : Nat) (W : List Nat) (P : List Int32) (v : Nat) (hJ : zJv B s b v0 n0 (2, i, W, P, v)) (hQ : zMq iv0 b W P v iv) (hT : zMt B s i iv lw) : zMs yX10_sign cX10_sign 2 (some .int) 3 [.ref 41] n iv lw (zRs iv0 B s b (zsig (zkn (zT B s) s) i W P v)) := by
  refine zM.of (by decide) (Nat.le_of_ble_eq_true rfl) (fun X C E => ?_)
  change zJs X n 2 0 [some (.ref 41), none] [] iv lw
  have hSm := hT.2.1
  have hb := hJ.bd hS.2.1
  have hvb : v ≤ 100 := hJ.1.1.2
  have hwo : zwo W := hJ.1.2.2.2.2.2.1
  have hz46 := zsett_len (p := zq46) W P
  have hz0 := zsett_len (p := zq0) W P
  have hzt := zsett_len (p := zqo true) W P
  have hzf := zsett_len (p := zqo false) W P
  refine z_aload_n C dX10_sign_0 rfl ?_
  refine z_getI C dX10_sign_1 zf_X10_238 zk_41 (by decide) ?_
  refine z_bipush (v := 43) C dX10_sign_4 (by decide) ?_
  refine z_icmp_eq (tgt := 18) C dX10_sign_6 (by decide) (fun q6 => ?_) (fun q6 => ?_)
  · have hk : (zkn (zT B s) s i) = 43 ∨ (zkn (zT B s) s i) = 45 := Or.inl ((hSm.sg (c := 43) (by decide)).mp q6)
    have hn2 : ¬ (zkn (zT B s) s i) = 2 := fun z => by rw [z] at hk; exact absurd hk (by decide)
    refine z_aload_n C dX10_sign_18 rfl ?_
    refine z_bipush (v := 46) C dX10_sign_19 (by decide) ?_
    refine zs_callVq C dX10_sign_21 zm_X10_317 zyX10_settle (m_settle46 n _ _ b W P hQ.2.2.2.2 hwo (by omega)) zc_10 rfl zk_41 (by decide) (by decide) rfl rfl (Nat.le_of_ble_eq_true rfl) (by decide) (by decide) (fun v21 iv21 lw21 hq21 => ?_)
    obtain ⟨rfl, rfl, hf1, hM1⟩ := hq21
    have hQ1 := hQ.st hf1 hM1
    have hT1 := hT.st hf1
    have hSm1 := hT1.2.1
    have hP1 := hT1.2.2 hn2
    refine z_aload_n C dX10_sign_24 rfl ?_
    refine z_aload_n C dX10_sign_25 rfl ?_
    refine z_getI C dX10_sign_26 zf_X10_238 zk_41 (by decide) ?_
    refine z_bipush (v := 43) C dX10_sign_29 (by decide) ?_
    refine z_icmp_ne (tgt := 39) C dX10_sign_31 (by decide) (fun q31 => ?_) (fun q31 => ?_)
    · exact absurd ((hSm1.sg (c := 43) (by decide)).mpr ((hSm.sg (c := 43) (by decide)).mp q6)) q31
    · refine z_bipush (v := 46) C dX10_sign_34 (by decide) ?_
      refine z_goto (tgt := 41) C dX10_sign_36 (by decide) ?_
      refine zs_callVv C dX10_sign_41 zm_X10_335 zyX10_hold (m_hold n _ _ (zsett zq46 W P).1.length hQ1.2.2.2.2.1 (by omega) (nI 46)) zc_10 rfl zk_41 (by decide) (by decide) rfl rfl (Nat.le_of_ble_eq_true rfl) (by decide) (by decide) ?_
      have hQ2 := hQ1.st (zfs.hold (nI 46) _ _ _) (hQ1.2.2.2.2.hold 46 (by decide))
      refine z_aload_n C dX10_sign_44 rfl ?_
      refine zs_callVq C dX10_sign_45 zm_X10_332 zyX10_next (m_nx n _ _ hS hQ2 (hP1)) zc_10 rfl zk_41 (by decide) (by decide) rfl rfl (Nat.le_of_ble_eq_true rfl) (by decide) (by decide) (fun v45 iv45 lw45 hq45 => ?_)
      obtain ⟨rfl, hQ3, hT3⟩ := hq45
      refine z_iconst (v := 1) C dX10_sign_48 (by decide) ?_
      refine zs_qiret C E dX10_sign_49 rfl ?_
      rw [zsig_p (w := 46) (Or.inl ⟨(hSm1.sg (c := 43) (by decide)).mp q31, rfl⟩)]
      exact ⟨rfl, hQ3, hT3⟩
  · refine z_aload_n C dX10_sign_9 rfl ?_
    refine z_getI C dX10_sign_10 zf_X10_238 zk_41 (by decide) ?_
    refine z_bipush (v := 45) C dX10_sign_13 (by decide) ?_
    refine z_icmp_ne (tgt := 50) C dX10_sign_15 (by decide) (fun q15 => ?_) (fun q15 => ?_)
    · refine z_aload_n C dX10_sign_50 rfl ?_
      refine z_getI C dX10_sign_51 zf_X10_238 zk_41 (by decide) ?_
      refine z_bipush (v := 61) C dX10_sign_54 (by decide) ?_
      refine z_icmp_eq (tgt := 77) C dX10_sign_56 (by decide) (fun q56 => ?_) (fun q56 => ?_)
      · have hk : (zkn (zT B s) s i) = 61 ∨ (zkn (zT B s) s i) = 60 ∨ (zkn (zT B s) s i) = 62 := Or.inl ((hSm.sg (c := 61) (by decide)).mp q56)
        have hn2 : ¬ (zkn (zT B s) s i) = 2 := fun z => by rw [z] at hk; exact absurd hk (by decide)
        refine z_aload_n C dX10_sign_77 rfl ?_
        refine z_bipush (v := 46) C dX10_sign_78 (by decide) ?_
        refine zs_callVq C dX10_sign_80 zm_X10_317 zyX10_settle (m_settle46 n _ _ b W P hQ.2.2.2.2 hwo (by omega)) zc_10 rfl zk_41 (by decide) (by decide) rfl rfl (Nat.le_of_ble_eq_true rfl) (by decide) (by decide) (fun v80 iv80 lw80 hq80 => ?_)
        obtain ⟨rfl, rfl, hf1, hM1⟩ := hq80
        have hQ1 := hQ.st hf1 hM1
        have hT1 := hT.st hf1
        have hSm1 := hT1.2.1
        have hP1 := hT1.2.2 hn2
        refine z_aload_n C dX10_sign_83 rfl ?_
        refine z_getI C dX10_sign_84 zf_X10_292 zk_41 (by decide) ?_
        refine z_if_ne (tgt := 94) C dX10_sign_87 (by decide) (fun q87 => ?_) (fun q87 => ?_)
        · obtain ⟨w, W2, hW1⟩ : ∃ w W2, (zsett zq46 W P).1 = w :: W2 := by
            match hh : (zsett zq46 W P).1 with
            | [] => exact absurd (by rw [hQ1.2.2.2.2.1, hh]; rfl) q87
            | w :: W2 => exact ⟨w, W2, rfl⟩
          have hMw := hQ1.2.2.2.2
          rw [hW1] at hMw
          have h49 : _ = nI (W2.length + 1) := hMw.1
          have hl2 : W2.length + 1 = (zsett zq46 W P).1.length := by rw [hW1]; rfl
          have hwb : 40 ≤ w ∧ w ≤ 48 := hwo w ((zsett_inv (p := zq46) (by decide) W P hwo (by have := hJ.1.2.2.1; exact this)).2.2.2.2.2 w (by rw [hW1]; simp))
          refine z_aload_n C dX10_sign_94 rfl ?_
          refine zs_getR C dX10_sign_95 zf_X10_110 zk_41 (by decide) (zr_41_48 n) ?_
          refine z_aload_n C dX10_sign_98 rfl ?_
          refine z_getI C dX10_sign_99 zf_X10_292 zk_41 (by decide) ?_
          rw [h49]
          refine z_iconst (v := 1) C dX10_sign_102 (by decide) ?_
          refine z_isub C dX10_sign_103 ?_
          rw [nI_prd (by omega)]
          refine z_iald C dX10_sign_104 zk_73 (by decide) ?_ ?_
          · exact vp_in_nI (by omega) (by decide)
          refine z_eqi (show _ = nI w by rw [nI_clamp (by omega)]; exact hMw.top) ?_
          refine z_istore_n (lv' := [some (.ref 41), some (.int _)]) C dX10_sign_105 (by decide) rfl ?_
          refine z_iload_n C dX10_sign_106 rfl ?_
          refine z_bipush (v := 43) C dX10_sign_107 (by decide) ?_
          refine zt_icmp_lt (tgt := 123) C dX10_sign_109 (nI_toInt (by omega)) (show (43 : Int32).toInt = 43 by decide) (by decide) (fun q109 => ?_) (fun q109 => ?_)
          · have hcm : zcmT (zsett zq46 W P).1 = false := by rw [hW1]; exact decide_eq_false_iff_not.mpr (by omega)
            refine z_aload_n C dX10_sign_123 rfl ?_
            refine z_getI C dX10_sign_124 zf_X10_250 zk_41 (by decide) ?_
            refine zt_if_le (tgt := 132) C dX10_sign_127 rfl (by decide) (fun q127 => ?_) (fun q127 => ?_)
            · refine z_aload_n C dX10_sign_132 rfl ?_
              refine z_aload_n C dX10_sign_133 rfl ?_
              refine z_getI C dX10_sign_134 zf_X10_238 zk_41 (by decide) ?_
              refine z_bipush (v := 61) C dX10_sign_137 (by decide) ?_
              refine z_icmp_ne (tgt := 147) C dX10_sign_139 (by decide) (fun q139 => ?_) (fun q139 => ?_)
              · exact absurd ((hSm1.sg (c := 61) (by decide)).mpr ((hSm.sg (c := 61) (by decide)).mp q56)) q139
              · refine z_bipush (v := 43) C dX10_sign_142 (by decide) ?_
                refine z_goto (tgt := 163) C dX10_sign_144 (by decide) ?_
                refine zs_callVv C dX10_sign_163 zm_X10_335 zyX10_hold (m_hold n _ _ (zsett zq46 W P).1.length hQ1.2.2.2.2.1 (by omega) (nI 43)) zc_10 rfl zk_41 (by decide) (by decide) rfl rfl (Nat.le_of_ble_eq_true rfl) (by decide) (by decide) ?_
                have hQ2 := hQ1.st (zfs.hold (nI 43) _ _ _) (hQ1.2.2.2.2.hold 43 (by decide))
                refine z_aload_n C dX10_sign_166 rfl ?_
                refine zs_callVq C dX10_sign_167 zm_X10_332 zyX10_next (m_nx n _ _ hS hQ2 (hP1)) zc_10 rfl zk_41 (by decide) (by decide) rfl rfl (Nat.le_of_ble_eq_true rfl) (by decide) (by decide) (fun v167 iv167 lw167 hq167 => ?_)
                obtain ⟨rfl, hQ3, hT3⟩ := hq167
                refine z_iconst (v := 1) C dX10_sign_170 (by decide) ?_
                refine zs_qiret C E dX10_sign_171 rfl ?_
                rw [zsig_c (w := 43) (Or.inl ⟨(hSm1.sg (c := 61) (by decide)).mp q139, rfl⟩) hcm]
                exact ⟨rfl, hQ3, hT3⟩
            · exact absurd (by rw [hQ1.2.1]; decide) q127
          · refine z_iload_n C dX10_sign_112 rfl ?_
            refine z_bipush (v := 45) C dX10_sign_113 (by decide) ?_
            refine zt_icmp_gt (tgt := 123) C dX10_sign_115 (nI_toInt (by omega)) (show (45 : Int32).toInt = 45 by decide) (by decide) (fun q115 => ?_) (fun q115 => ?_)
            · have hcm : zcmT (zsett zq46 W P).1 = false := by rw [hW1]; exact decide_eq_false_iff_not.mpr (by omega)
              refine z_aload_n C dX10_sign_123 rfl ?_
              refine z_getI C dX10_sign_124 zf_X10_250 zk_41 (by decide) ?_
              refine zt_if_le (tgt := 132) C dX10_sign_127 rfl (by decide) (fun q127 => ?_) (fun q127 => ?_)
              · refine z_aload_n C dX10_sign_132 rfl ?_
                refine z_aload_n C dX10_sign_133 rfl ?_
                refine z_getI C dX10_sign_134 zf_X10_238 zk_41 (by decide) ?_
                refine z_bipush (v := 61) C dX10_sign_137 (by decide) ?_
                refine z_icmp_ne (tgt := 147) C dX10_sign_139 (by decide) (fun q139 => ?_) (fun q139 => ?_)
                · exact absurd ((hSm1.sg (c := 61) (by decide)).mpr ((hSm.sg (c := 61) (by decide)).mp q56)) q139
                · refine z_bipush (v := 43) C dX10_sign_142 (by decide) ?_
                  refine z_goto (tgt := 163) C dX10_sign_144 (by decide) ?_
                  refine zs_callVv C dX10_sign_163 zm_X10_335 zyX10_hold (m_hold n _ _ (zsett zq46 W P).1.length hQ1.2.2.2.2.1 (by omega) (nI 43)) zc_10 rfl zk_41 (by decide) (by decide) rfl rfl (Nat.le_of_ble_eq_true rfl) (by decide) (by decide) ?_
                  have hQ2 := hQ1.st (zfs.hold (nI 43) _ _ _) (hQ1.2.2.2.2.hold 43 (by decide))
                  refine z_aload_n C dX10_sign_166 rfl ?_
                  refine zs_callVq C dX10_sign_167 zm_X10_332 zyX10_next (m_nx n _ _ hS hQ2 (hP1)) zc_10 rfl zk_41 (by decide) (by decide) rfl rfl (Nat.le_of_ble_eq_true rfl) (by decide) (by decide) (fun v167 iv167 lw167 hq167 => ?_)
                  obtain ⟨rfl, hQ3, hT3⟩ := hq167
                  refine z_iconst (v := 1) C dX10_sign_170 (by decide) ?_
                  refine zs_qiret C E dX10_sign_171 rfl ?_
                  rw [zsig_c (w := 43) (Or.inl ⟨(hSm1.sg (c := 61) (by decide)).mp q139, rfl⟩) hcm]
                  exact ⟨rfl, hQ3, hT3⟩
              · exact absurd (by rw [hQ1.2.1]; decide) q127
            · refine z_aload_n C dX10_sign_118 rfl ?_
              refine z_iconst (v := 2) C dX10_sign_119 (by decide) ?_
              refine zs_callVv C dX10_sign_120 zm_X10_323 zyX10_wrong (m_wrong n _ _ hQ1.2.1 _) zc_10 rfl zk_41 (by decide) (by decide) rfl rfl (Nat.le_of_ble_eq_true rfl) (by decide) (by decide) ?_
              have hF := hQ1.wr2 hT1 (wh := 2) (by decide) hn2
              have hFp := hF.pos
              refine z_aload_n C dX10_sign_123 rfl ?_
              refine z_getI C dX10_sign_124 zf_X10_250 zk_41 (by decide) ?_
              refine zt_if_le (tgt := 132) C dX10_sign_127 rfl (by decide) (fun q127 => ?_) (fun q127 => ?_)
              · exact absurd hFp (by show ¬ 0 < _; omega)
              · refine z_iconst (v := 2) C dX10_sign_130 (by decide) ?_
                refine zs_qiret C E dX10_sign_131 rfl ?_
                rw [zsig_x hk (by rw [hW1]; exact decide_eq_true_iff.mpr (by omega))]
                exact ⟨⟨_, rfl⟩, hF⟩
        · have hW1 : (zsett zq46 W P).1 = [] := by
            have h := nI_inj4 (b := 0) (by omega) (by decide) (hQ1.2.2.2.2.1.symm.trans q87)
            exact List.eq_nil_of_length_eq_zero h
          refine z_iconst (v := (-1)) C dX10_sign_90 (by decide) ?_
          refine z_goto (tgt := 105) C dX10_sign_91 (by decide) ?_
          skip
          refine z_istore_n (lv' := [some (.ref 41), some (.int _)]) C dX10_sign_105 (by decide) rfl ?_
          refine z_iload_n C dX10_sign_106 rfl ?_
          refine z_bipush (v := 43) C dX10_sign_107 (by decide) ?_
          refine zt_icmp_lt (tgt := 123) C dX10_sign_109 (show ((-1) : Int32).toInt = (-1) by decide) (show (43 : Int32).toInt = 43 by decide) (by decide) (fun q109 => ?_) (fun q109 => ?_)
          · have hcm : zcmT (zsett zq46 W P).1 = false := by rw [hW1]; rfl
            refine z_aload_n C dX10_sign_123 rfl ?_
            refine z_getI C dX10_sign_124 zf_X10_250 zk_41 (by decide) ?_
            refine zt_if_le (tgt := 132) C dX10_sign_127 rfl (by decide) (fun q127 => ?_) (fun q127 => ?_)
            · refine z_aload_n C dX10_sign_132 rfl ?_
              refine z_aload_n C dX10_sign_133 rfl ?_
              refine z_getI C dX10_sign_134 zf_X10_238 zk_41 (by decide) ?_
              refine z_bipush (v := 61) C dX10_sign_137 (by decide) ?_
              refine z_icmp_ne (tgt := 147) C dX10_sign_139 (by decide) (fun q139 => ?_) (fun q139 => ?_)
              · exact absurd ((hSm1.sg (c := 61) (by decide)).mpr ((hSm.sg (c := 61) (by decide)).mp q56)) q139
              · refine z_bipush (v := 43) C dX10_sign_142 (by decide) ?_
                refine z_goto (tgt := 163) C dX10_sign_144 (by decide) ?_
                refine zs_callVv C dX10_sign_163 zm_X10_335 zyX10_hold (m_hold n _ _ (zsett zq46 W P).1.length hQ1.2.2.2.2.1 (by omega) (nI 43)) zc_10 rfl zk_41 (by decide) (by decide) rfl rfl (Nat.le_of_ble_eq_true rfl) (by decide) (by decide) ?_
                have hQ2 := hQ1.st (zfs.hold (nI 43) _ _ _) (hQ1.2.2.2.2.hold 43 (by decide))
                refine z_aload_n C dX10_sign_166 rfl ?_
                refine zs_callVq C dX10_sign_167 zm_X10_332 zyX10_next (m_nx n _ _ hS hQ2 (hP1)) zc_10 rfl zk_41 (by decide) (by decide) rfl rfl (Nat.le_of_ble_eq_true rfl) (by decide) (by decide) (fun v167 iv167 lw167 hq167 => ?_)
                obtain ⟨rfl, hQ3, hT3⟩ := hq167
                refine z_iconst (v := 1) C dX10_sign_170 (by decide) ?_
                refine zs_qiret C E dX10_sign_171 rfl ?_
                rw [zsig_c (w := 43) (Or.inl ⟨(hSm1.sg (c := 61) (by decide)).mp q139, rfl⟩) hcm]
                exact ⟨rfl, hQ3, hT3⟩
            · exact absurd (by rw [hQ1.2.1]; decide) q127
          · exfalso; omega
      · refine z_aload_n C dX10_sign_59 rfl ?_
        refine z_getI C dX10_sign_60 zf_X10_238 zk_41 (by decide) ?_
        refine z_bipush (v := 60) C dX10_sign_63 (by decide) ?_
        refine z_icmp_eq (tgt := 77) C dX10_sign_65 (by decide) (fun q65 => ?_) (fun q65 => ?_)
        · have hk : (zkn (zT B s) s i) = 61 ∨ (zkn (zT B s) s i) = 60 ∨ (zkn (zT B s) s i) = 62 := Or.inr (Or.inl ((hSm.sg (c := 60) (by decide)).mp q65))
          have hn2 : ¬ (zkn (zT B s) s i) = 2 := fun z => by rw [z] at hk; exact absurd hk (by decide)
          refine z_aload_n C dX10_sign_77 rfl ?_
          refine z_bipush (v := 46) C dX10_sign_78 (by decide) ?_
          refine zs_callVq C dX10_sign_80 zm_X10_317 zyX10_settle (m_settle46 n _ _ b W P hQ.2.2.2.2 hwo (by omega)) zc_10 rfl zk_41 (by decide) (by decide) rfl rfl (Nat.le_of_ble_eq_true rfl) (by decide) (by decide) (fun v80 iv80 lw80 hq80 => ?_)
          obtain ⟨rfl, rfl, hf1, hM1⟩ := hq80
          have hQ1 := hQ.st hf1 hM1
          have hT1 := hT.st hf1
          have hSm1 := hT1.2.1
          have hP1 := hT1.2.2 hn2
          refine z_aload_n C dX10_sign_83 rfl ?_
          refine z_getI C dX10_sign_84 zf_X10_292 zk_41 (by decide) ?_
          refine z_if_ne (tgt := 94) C dX10_sign_87 (by decide) (fun q87 => ?_) (fun q87 => ?_)
          · obtain ⟨w, W2, hW1⟩ : ∃ w W2, (zsett zq46 W P).1 = w :: W2 := by
              match hh : (zsett zq46 W P).1 with
              | [] => exact absurd (by rw [hQ1.2.2.2.2.1, hh]; rfl) q87
              | w :: W2 => exact ⟨w, W2, rfl⟩
            have hMw := hQ1.2.2.2.2
            rw [hW1] at hMw
            have h49 : _ = nI (W2.length + 1) := hMw.1
            have hl2 : W2.length + 1 = (zsett zq46 W P).1.length := by rw [hW1]; rfl
            have hwb : 40 ≤ w ∧ w ≤ 48 := hwo w ((zsett_inv (p := zq46) (by decide) W P hwo (by have := hJ.1.2.2.1; exact this)).2.2.2.2.2 w (by rw [hW1]; simp))
            refine z_aload_n C dX10_sign_94 rfl ?_
            refine zs_getR C dX10_sign_95 zf_X10_110 zk_41 (by decide) (zr_41_48 n) ?_
            refine z_aload_n C dX10_sign_98 rfl ?_
            refine z_getI C dX10_sign_99 zf_X10_292 zk_41 (by decide) ?_
            rw [h49]
            refine z_iconst (v := 1) C dX10_sign_102 (by decide) ?_
            refine z_isub C dX10_sign_103 ?_
            rw [nI_prd (by omega)]
            refine z_iald C dX10_sign_104 zk_73 (by decide) ?_ ?_
            · exact vp_in_nI (by omega) (by decide)
            refine z_eqi (show _ = nI w by rw [nI_clamp (by omega)]; exact hMw.top) ?_
            refine z_istore_n (lv' := [some (.ref 41), some (.int _)]) C dX10_sign_105 (by decide) rfl ?_
            refine z_iload_n C dX10_sign_106 rfl ?_
            refine z_bipush (v := 43) C dX10_sign_107 (by decide) ?_
            refine zt_icmp_lt (tgt := 123) C dX10_sign_109 (nI_toInt (by omega)) (show (43 : Int32).toInt = 43 by decide) (by decide) (fun q109 => ?_) (fun q109 => ?_)
            · have hcm : zcmT (zsett zq46 W P).1 = false := by rw [hW1]; exact decide_eq_false_iff_not.mpr (by omega)
              refine z_aload_n C dX10_sign_123 rfl ?_
              refine z_getI C dX10_sign_124 zf_X10_250 zk_41 (by decide) ?_
              refine zt_if_le (tgt := 132) C dX10_sign_127 rfl (by decide) (fun q127 => ?_) (fun q127 => ?_)
              · refine z_aload_n C dX10_sign_132 rfl ?_
                refine z_aload_n C dX10_sign_133 rfl ?_
                refine z_getI C dX10_sign_134 zf_X10_238 zk_41 (by decide) ?_
                refine z_bipush (v := 61) C dX10_sign_137 (by decide) ?_
                refine z_icmp_ne (tgt := 147) C dX10_sign_139 (by decide) (fun q139 => ?_) (fun q139 => ?_)
                · refine z_aload_n C dX10_sign_147 rfl ?_
                  refine z_getI C dX10_sign_148 zf_X10_238 zk_41 (by decide) ?_
                  refine z_bipush (v := 60) C dX10_sign_151 (by decide) ?_
                  refine z_icmp_ne (tgt := 161) C dX10_sign_153 (by decide) (fun q153 => ?_) (fun q153 => ?_)
                  · exact absurd ((hSm1.sg (c := 60) (by decide)).mpr ((hSm.sg (c := 60) (by decide)).mp q65)) q153
                  · refine z_bipush (v := 44) C dX10_sign_156 (by decide) ?_
                    refine z_goto (tgt := 163) C dX10_sign_158 (by decide) ?_
                    refine zs_callVv C dX10_sign_163 zm_X10_335 zyX10_hold (m_hold n _ _ (zsett zq46 W P).1.length hQ1.2.2.2.2.1 (by omega) (nI 44)) zc_10 rfl zk_41 (by decide) (by decide) rfl rfl (Nat.le_of_ble_eq_true rfl) (by decide) (by decide) ?_
                    have hQ2 := hQ1.st (zfs.hold (nI 44) _ _ _) (hQ1.2.2.2.2.hold 44 (by decide))
                    refine z_aload_n C dX10_sign_166 rfl ?_
                    refine zs_callVq C dX10_sign_167 zm_X10_332 zyX10_next (m_nx n _ _ hS hQ2 (hP1)) zc_10 rfl zk_41 (by decide) (by decide) rfl rfl (Nat.le_of_ble_eq_true rfl) (by decide) (by decide) (fun v167 iv167 lw167 hq167 => ?_)
                    obtain ⟨rfl, hQ3, hT3⟩ := hq167
                    refine z_iconst (v := 1) C dX10_sign_170 (by decide) ?_
                    refine zs_qiret C E dX10_sign_171 rfl ?_
                    rw [zsig_c (w := 44) (Or.inr (Or.inl ⟨(hSm1.sg (c := 60) (by decide)).mp q153, rfl⟩)) hcm]
                    exact ⟨rfl, hQ3, hT3⟩
                · exact absurd ((hSm.sg (c := 61) (by decide)).mpr ((hSm1.sg (c := 61) (by decide)).mp q139)) q56
              · exact absurd (by rw [hQ1.2.1]; decide) q127
            · refine z_iload_n C dX10_sign_112 rfl ?_
              refine z_bipush (v := 45) C dX10_sign_113 (by decide) ?_
              refine zt_icmp_gt (tgt := 123) C dX10_sign_115 (nI_toInt (by omega)) (show (45 : Int32).toInt = 45 by decide) (by decide) (fun q115 => ?_) (fun q115 => ?_)
              · have hcm : zcmT (zsett zq46 W P).1 = false := by rw [hW1]; exact decide_eq_false_iff_not.mpr (by omega)
                refine z_aload_n C dX10_sign_123 rfl ?_
                refine z_getI C dX10_sign_124 zf_X10_250 zk_41 (by decide) ?_
                refine zt_if_le (tgt := 132) C dX10_sign_127 rfl (by decide) (fun q127 => ?_) (fun q127 => ?_)
                · refine z_aload_n C dX10_sign_132 rfl ?_
                  refine z_aload_n C dX10_sign_133 rfl ?_
                  refine z_getI C dX10_sign_134 zf_X10_238 zk_41 (by decide) ?_
                  refine z_bipush (v := 61) C dX10_sign_137 (by decide) ?_
                  refine z_icmp_ne (tgt := 147) C dX10_sign_139 (by decide) (fun q139 => ?_) (fun q139 => ?_)
                  · refine z_aload_n C dX10_sign_147 rfl ?_
                    refine z_getI C dX10_sign_148 zf_X10_238 zk_41 (by decide) ?_
                    refine z_bipush (v := 60) C dX10_sign_151 (by decide) ?_
                    refine z_icmp_ne (tgt := 161) C dX10_sign_153 (by decide) (fun q153 => ?_) (fun q153 => ?_)
                    · exact absurd ((hSm1.sg (c := 60) (by decide)).mpr ((hSm.sg (c := 60) (by decide)).mp q65)) q153
                    · refine z_bipush (v := 44) C dX10_sign_156 (by decide) ?_
                      refine z_goto (tgt := 163) C dX10_sign_158 (by decide) ?_
                      refine zs_callVv C dX10_sign_163 zm_X10_335 zyX10_hold (m_hold n _ _ (zsett zq46 W P).1.length hQ1.2.2.2.2.1 (by omega) (nI 44)) zc_10 rfl zk_41 (by decide) (by decide) rfl rfl (Nat.le_of_ble_eq_true rfl) (by decide) (by decide) ?_
                      have hQ2 := hQ1.st (zfs.hold (nI 44) _ _ _) (hQ1.2.2.2.2.hold 44 (by decide))
                      refine z_aload_n C dX10_sign_166 rfl ?_
                      refine zs_callVq C dX10_sign_167 zm_X10_332 zyX10_next (m_nx n _ _ hS hQ2 (hP1)) zc_10 rfl zk_41 (by decide) (by decide) rfl rfl (Nat.le_of_ble_eq_true rfl) (by decide) (by decide) (fun v167 iv167 lw167 hq167 => ?_)
                      obtain ⟨rfl, hQ3, hT3⟩ := hq167
                      refine z_iconst (v := 1) C dX10_sign_170 (by decide) ?_
                      refine zs_qiret C E dX10_sign_171 rfl ?_
                      rw [zsig_c (w := 44) (Or.inr (Or.inl ⟨(hSm1.sg (c := 60) (by decide)).mp q153, rfl⟩)) hcm]
                      exact ⟨rfl, hQ3, hT3⟩
                  · exact absurd ((hSm.sg (c := 61) (by decide)).mpr ((hSm1.sg (c := 61) (by decide)).mp q139)) q56
                · exact absurd (by rw [hQ1.2.1]; decide) q127
              · refine z_aload_n C dX10_sign_118 rfl ?_
                refine z_iconst (v := 2) C dX10_sign_119 (by decide) ?_
                refine zs_callVv C dX10_sign_120 zm_X10_323 zyX10_wrong (m_wrong n _ _ hQ1.2.1 _) zc_10 rfl zk_41 (by decide) (by decide) rfl rfl (Nat.le_of_ble_eq_true rfl) (by decide) (by decide) ?_
                have hF := hQ1.wr2 hT1 (wh := 2) (by decide) hn2
                have hFp := hF.pos
                refine z_aload_n C dX10_sign_123 rfl ?_
                refine z_getI C dX10_sign_124 zf_X10_250 zk_41 (by decide) ?_
                refine zt_if_le (tgt := 132) C dX10_sign_127 rfl (by decide) (fun q127 => ?_) (fun q127 => ?_)
                · exact absurd hFp (by show ¬ 0 < _; omega)
                · refine z_iconst (v := 2) C dX10_sign_130 (by decide) ?_
                  refine zs_qiret C E dX10_sign_131 rfl ?_
                  rw [zsig_x hk (by rw [hW1]; exact decide_eq_true_iff.mpr (by omega))]
                  exact ⟨⟨_, rfl⟩, hF⟩
          · have hW1 : (zsett zq46 W P).1 = [] := by
              have h := nI_inj4 (b := 0) (by omega) (by decide) (hQ1.2.2.2.2.1.symm.trans q87)
              exact List.eq_nil_of_length_eq_zero h
            refine z_iconst (v := (-1)) C dX10_sign_90 (by decide) ?_
            refine z_goto (tgt := 105) C dX10_sign_91 (by decide) ?_
            skip
            refine z_istore_n (lv' := [some (.ref 41), some (.int _)]) C dX10_sign_105 (by decide) rfl ?_
            refine z_iload_n C dX10_sign_106 rfl ?_
            refine z_bipush (v := 43) C dX10_sign_107 (by decide) ?_
            refine zt_icmp_lt (tgt := 123) C dX10_sign_109 (show ((-1) : Int32).toInt = (-1) by decide) (show (43 : Int32).toInt = 43 by decide) (by decide) (fun q109 => ?_) (fun q109 => ?_)
            · have hcm : zcmT (zsett zq46 W P).1 = false := by rw [hW1]; rfl
              refine z_aload_n C dX10_sign_123 rfl ?_
              refine z_getI C dX10_sign_124 zf_X10_250 zk_41 (by decide) ?_
              refine zt_if_le (tgt := 132) C dX10_sign_127 rfl (by decide) (fun q127 => ?_) (fun q127 => ?_)
              · refine z_aload_n C dX10_sign_132 rfl ?_
                refine z_aload_n C dX10_sign_133 rfl ?_
                refine z_getI C dX10_sign_134 zf_X10_238 zk_41 (by decide) ?_
                refine z_bipush (v := 61) C dX10_sign_137 (by decide) ?_
                refine z_icmp_ne (tgt := 147) C dX10_sign_139 (by decide) (fun q139 => ?_) (fun q139 => ?_)
                · refine z_aload_n C dX10_sign_147 rfl ?_
                  refine z_getI C dX10_sign_148 zf_X10_238 zk_41 (by decide) ?_
                  refine z_bipush (v := 60) C dX10_sign_151 (by decide) ?_
                  refine z_icmp_ne (tgt := 161) C dX10_sign_153 (by decide) (fun q153 => ?_) (fun q153 => ?_)
                  · exact absurd ((hSm1.sg (c := 60) (by decide)).mpr ((hSm.sg (c := 60) (by decide)).mp q65)) q153
                  · refine z_bipush (v := 44) C dX10_sign_156 (by decide) ?_
                    refine z_goto (tgt := 163) C dX10_sign_158 (by decide) ?_
                    refine zs_callVv C dX10_sign_163 zm_X10_335 zyX10_hold (m_hold n _ _ (zsett zq46 W P).1.length hQ1.2.2.2.2.1 (by omega) (nI 44)) zc_10 rfl zk_41 (by decide) (by decide) rfl rfl (Nat.le_of_ble_eq_true rfl) (by decide) (by decide) ?_
                    have hQ2 := hQ1.st (zfs.hold (nI 44) _ _ _) (hQ1.2.2.2.2.hold 44 (by decide))
                    refine z_aload_n C dX10_sign_166 rfl ?_
                    refine zs_callVq C dX10_sign_167 zm_X10_332 zyX10_next (m_nx n _ _ hS hQ2 (hP1)) zc_10 rfl zk_41 (by decide) (by decide) rfl rfl (Nat.le_of_ble_eq_true rfl) (by decide) (by decide) (fun v167 iv167 lw167 hq167 => ?_)
                    obtain ⟨rfl, hQ3, hT3⟩ := hq167
                    refine z_iconst (v := 1) C dX10_sign_170 (by decide) ?_
                    refine zs_qiret C E dX10_sign_171 rfl ?_
                    rw [zsig_c (w := 44) (Or.inr (Or.inl ⟨(hSm1.sg (c := 60) (by decide)).mp q153, rfl⟩)) hcm]
                    exact ⟨rfl, hQ3, hT3⟩
                · exact absurd ((hSm.sg (c := 61) (by decide)).mpr ((hSm1.sg (c := 61) (by decide)).mp q139)) q56
              · exact absurd (by rw [hQ1.2.1]; decide) q127
            · exfalso; omega
        · refine z_aload_n C dX10_sign_68 rfl ?_
          refine z_getI C dX10_sign_69 zf_X10_238 zk_41 (by decide) ?_
          refine z_bipush (v := 62) C dX10_sign_72 (by decide) ?_
          refine z_icmp_ne (tgt := 172) C dX10_sign_74 (by decide) (fun q74 => ?_) (fun q74 => ?_)
          · refine z_aload_n C dX10_sign_172 rfl ?_
            refine z_ldc2 C dX10_sign_173 zk_X10_265 ?_
            refine zs_callVi C dX10_sign_176 zm_X10_302 zyX10_isWord (m_isWord _ _ _ _) zc_10 rfl zk_41 (by decide) (by decide) rfl rfl (Nat.le_of_ble_eq_true rfl) (by decide) (by decide) ?_
            refine zb_if_ne (tgt := 192) C dX10_sign_179 (by decide) (fun q179 => ?_) (fun q179 => ?_)
            · have hk : (zkn (zT B s) s i) = 206 := hSm.w6.mp q179
              have hn2 : ¬ (zkn (zT B s) s i) = 2 := fun z => by rw [z] at hk; exact absurd hk (by decide)
              refine z_aload_n C dX10_sign_192 rfl ?_
              refine z_ldc2 C dX10_sign_193 zk_X10_265 ?_
              refine zs_callVi C dX10_sign_196 zm_X10_302 zyX10_isWord (m_isWord _ _ _ _) zc_10 rfl zk_41 (by decide) (by decide) rfl rfl (Nat.le_of_ble_eq_true rfl) (by decide) (by decide) ?_
              refine z_eqi (zb_t q179) ?_
              refine z_istore_n (lv' := [some (.ref 41), some (.int _)]) C dX10_sign_199 (by decide) rfl ?_
              refine z_aload_n C dX10_sign_200 rfl ?_
              refine z_iload_n C dX10_sign_201 rfl ?_
              refine zs_callVq C dX10_sign_202 zm_X10_338 zyX10_settleOnes (m_ones n _ _ b true W P hQ.2.2.2.2 hwo (by omega)) zc_10 rfl zk_41 (by decide) (by decide) rfl rfl (Nat.le_of_ble_eq_true rfl) (by decide) (by decide) (fun v202 iv202 lw202 hq202 => ?_)
              obtain ⟨rfl, rfl, hf1, hM1⟩ := hq202
              have hQ1 := hQ.st hf1 hM1
              have hT1 := hT.st hf1
              have hP1 := hT1.2.2 hn2
              refine z_aload_n C dX10_sign_205 rfl ?_
              refine z_iload_n C dX10_sign_206 rfl ?_
              refine z_if_eq (tgt := 215) C dX10_sign_207 (by decide) (fun q207 => ?_) (fun q207 => ?_)
              · exact absurd q207 (by decide)
              · refine z_bipush (v := 42) C dX10_sign_210 (by decide) ?_
                refine z_goto (tgt := 217) C dX10_sign_212 (by decide) ?_
                refine zs_callVv C dX10_sign_217 zm_X10_335 zyX10_hold (m_hold n _ _ (zsett (zqo true) W P).1.length hQ1.2.2.2.2.1 (by omega) (nI 42)) zc_10 rfl zk_41 (by decide) (by decide) rfl rfl (Nat.le_of_ble_eq_true rfl) (by decide) (by decide) ?_
                have hQ2 := hQ1.st (zfs.hold (nI 42) _ _ _) (hQ1.2.2.2.2.hold 42 (by decide))
                refine z_aload_n C dX10_sign_220 rfl ?_
                refine zs_callVq C dX10_sign_221 zm_X10_332 zyX10_next (m_nx n _ _ hS hQ2 (hP1)) zc_10 rfl zk_41 (by decide) (by decide) rfl rfl (Nat.le_of_ble_eq_true rfl) (by decide) (by decide) (fun v221 iv221 lw221 hq221 => ?_)
                obtain ⟨rfl, hQ3, hT3⟩ := hq221
                refine z_iconst (v := 0) C dX10_sign_224 (by decide) ?_
                refine zs_qiret C E dX10_sign_225 rfl ?_
                rw [zsig_a hk]
                exact ⟨rfl, hQ3, hT3⟩
            · refine z_aload_n C dX10_sign_182 rfl ?_
              refine z_ldc2 C dX10_sign_183 zk_X10_263 ?_
              refine zs_callVi C dX10_sign_186 zm_X10_302 zyX10_isWord (m_isWord _ _ _ _) zc_10 rfl zk_41 (by decide) (by decide) rfl rfl (Nat.le_of_ble_eq_true rfl) (by decide) (by decide) ?_
              refine zb_if_eq (tgt := 226) C dX10_sign_189 (by decide) (fun q189 => ?_) (fun q189 => ?_)
              · refine z_aload_n C dX10_sign_226 rfl ?_
                refine z_getI C dX10_sign_227 zf_X10_238 zk_41 (by decide) ?_
                refine z_bipush (v := 41) C dX10_sign_230 (by decide) ?_
                refine z_icmp_ne (tgt := 273) C dX10_sign_232 (by decide) (fun q232 => ?_) (fun q232 => ?_)
                · refine z_aload_n C dX10_sign_273 rfl ?_
                  refine z_iconst (v := 2) C dX10_sign_274 (by decide) ?_
                  refine zs_callVv C dX10_sign_275 zm_X10_323 zyX10_wrong (m_wrong n _ _ hQ.2.1 _) zc_10 rfl zk_41 (by decide) (by decide) rfl rfl (Nat.le_of_ble_eq_true rfl) (by decide) (by decide) ?_
                  refine z_iconst (v := 2) C dX10_sign_278 (by decide) ?_
                  refine zs_qiret C E dX10_sign_279 rfl ?_
                  rw [zsig_n (fun z => z.elim (fun z => q6 ((hSm.sg (c := 43) (by decide)).mpr z)) (fun z => q15 ((hSm.sg (c := 45) (by decide)).mpr z))) (fun z => z.elim (fun z => q56 ((hSm.sg (c := 61) (by decide)).mpr z)) (fun z => z.elim (fun z => q65 ((hSm.sg (c := 60) (by decide)).mpr z)) (fun z => q74 ((hSm.sg (c := 62) (by decide)).mpr z)))) (fun z => z.elim (fun z => q179 (hSm.w6.mpr z)) (fun z => q189 (hSm.w5.mpr z))) (fun z => q232 ((hSm.sg (c := 41) (by decide)).mpr z.1))]
                  exact ⟨⟨_, rfl⟩, hQ.bad hT⟩
                · refine z_aload_n C dX10_sign_235 rfl ?_
                  refine zs_callVi C dX10_sign_236 zm_X10_306 zyX10_isOpen (m_isOpen n _ _ b W P hQ.2.2.2.2 hwo (by omega)) zc_10 rfl zk_41 (by decide) (by decide) rfl rfl (Nat.le_of_ble_eq_true rfl) (by decide) (by decide) ?_
                  refine zb_if_eq (tgt := 273) C dX10_sign_239 (by decide) (fun q239 => ?_) (fun q239 => ?_)
                  · refine z_aload_n C dX10_sign_273 rfl ?_
                    refine z_iconst (v := 2) C dX10_sign_274 (by decide) ?_
                    refine zs_callVv C dX10_sign_275 zm_X10_323 zyX10_wrong (m_wrong n _ _ hQ.2.1 _) zc_10 rfl zk_41 (by decide) (by decide) rfl rfl (Nat.le_of_ble_eq_true rfl) (by decide) (by decide) ?_
                    refine z_iconst (v := 2) C dX10_sign_278 (by decide) ?_
                    refine zs_qiret C E dX10_sign_279 rfl ?_
                    rw [zsig_n (fun z => z.elim (fun z => q6 ((hSm.sg (c := 43) (by decide)).mpr z)) (fun z => q15 ((hSm.sg (c := 45) (by decide)).mpr z))) (fun z => z.elim (fun z => q56 ((hSm.sg (c := 61) (by decide)).mpr z)) (fun z => z.elim (fun z => q65 ((hSm.sg (c := 60) (by decide)).mpr z)) (fun z => q74 ((hSm.sg (c := 62) (by decide)).mpr z)))) (fun z => z.elim (fun z => q179 (hSm.w6.mpr z)) (fun z => q189 (hSm.w5.mpr z))) (fun z => q239 z.2)]
                    exact ⟨⟨_, rfl⟩, hQ.bad hT⟩
                  · have hk : (zkn (zT B s) s i) = 41 := (hSm.sg (c := 41) (by decide)).mp q232
                    have hn2 : ¬ (zkn (zT B s) s i) = 2 := fun z => by rw [z] at hk; exact absurd hk (by decide)
                    obtain ⟨W2, hW2⟩ := zsett_48 (p := zq0) (fun w hw => decide_eq_true_iff.mpr hw) (by decide) W P q239
                    have hl2 : W2.length + 1 = (zsett zq0 W P).1.length := by rw [hW2]; rfl
                    refine z_aload_n C dX10_sign_242 rfl ?_
                    refine z_iconst (v := 0) C dX10_sign_243 (by decide) ?_
                    refine zs_callVq C dX10_sign_244 zm_X10_317 zyX10_settle (m_settle0 n _ _ b W P hQ.2.2.2.2 hwo (by omega)) zc_10 rfl zk_41 (by decide) (by decide) rfl rfl (Nat.le_of_ble_eq_true rfl) (by decide) (by decide) (fun v244 iv244 lw244 hq244 => ?_)
                    obtain ⟨rfl, rfl, hf1, hM1⟩ := hq244
                    have hQ1 := hQ.st hf1 hM1
                    have hT1 := hT.st hf1
                    have hSm1 := hT1.2.1
                    have hP1 := hT1.2.2 hn2
                    have hM2 := hM1
                    rw [hW2] at hM2
                    have h49 : _ = nI (W2.length + 1) := hM2.1
                    refine z_aload_n C dX10_sign_247 rfl ?_
                    refine z_dup C dX10_sign_248 rfl ?_
                    refine z_getI C dX10_sign_249 zf_X10_292 zk_41 (by decide) ?_
                    rw [h49]
                    refine z_iconst (v := 1) C dX10_sign_252 (by decide) ?_
                    refine z_isub C dX10_sign_253 ?_
                    rw [nI_prd (by omega)]
                    refine z_putI C dX10_sign_254 zf_X10_292 zk_41 (by decide) ?_
                    refine z_aload_n C dX10_sign_257 rfl ?_
                    refine z_dup C dX10_sign_258 rfl ?_
                    refine z_getI C dX10_sign_259 zf_X10_295 zk_41 (by decide) ?_
                    refine z_iconst (v := 1) C dX10_sign_262 (by decide) ?_
                    refine z_isub C dX10_sign_263 ?_
                    refine z_putI C dX10_sign_264 zf_X10_295 zk_41 (by decide) ?_
                    have hM3 := hM2.off (by decide)
                    have hQ2 := hQ1.st (zfs.off (zfs.rf b _)) hM3
                    refine z_aload_n C dX10_sign_267 rfl ?_
                    refine zs_callVq C dX10_sign_268 zm_X10_332 zyX10_next (m_nx n _ _ hS hQ2 (hP1)) zc_10 rfl zk_41 (by decide) (by decide) rfl rfl (Nat.le_of_ble_eq_true rfl) (by decide) (by decide) (fun v268 iv268 lw268 hq268 => ?_)
                    obtain ⟨rfl, hQ3, hT3⟩ := hq268
                    refine z_iconst (v := 2) C dX10_sign_271 (by decide) ?_
                    refine zs_qiret C E dX10_sign_272 rfl ?_
                    rw [zsig_e hk q239, hW2]
                    exact ⟨rfl, hQ3, hT3⟩
              · have hk : (zkn (zT B s) s i) = 205 := hSm.w5.mp q189
                have hn2 : ¬ (zkn (zT B s) s i) = 2 := fun z => by rw [z] at hk; exact absurd hk (by decide)
                refine z_aload_n C dX10_sign_192 rfl ?_
                refine z_ldc2 C dX10_sign_193 zk_X10_265 ?_
                refine zs_callVi C dX10_sign_196 zm_X10_302 zyX10_isWord (m_isWord _ _ _ _) zc_10 rfl zk_41 (by decide) (by decide) rfl rfl (Nat.le_of_ble_eq_true rfl) (by decide) (by decide) ?_
                refine z_eqi (zb_f q179) ?_
                refine z_istore_n (lv' := [some (.ref 41), some (.int _)]) C dX10_sign_199 (by decide) rfl ?_
                refine z_aload_n C dX10_sign_200 rfl ?_
                refine z_iload_n C dX10_sign_201 rfl ?_
                refine zs_callVq C dX10_sign_202 zm_X10_338 zyX10_settleOnes (m_ones n _ _ b false W P hQ.2.2.2.2 hwo (by omega)) zc_10 rfl zk_41 (by decide) (by decide) rfl rfl (Nat.le_of_ble_eq_true rfl) (by decide) (by decide) (fun v202 iv202 lw202 hq202 => ?_)
                obtain ⟨rfl, rfl, hf1, hM1⟩ := hq202
                have hQ1 := hQ.st hf1 hM1
                have hT1 := hT.st hf1
                have hP1 := hT1.2.2 hn2
                refine z_aload_n C dX10_sign_205 rfl ?_
                refine z_iload_n C dX10_sign_206 rfl ?_
                refine z_if_eq (tgt := 215) C dX10_sign_207 (by decide) (fun q207 => ?_) (fun q207 => ?_)
                · refine z_bipush (v := 41) C dX10_sign_215 (by decide) ?_
                  refine zs_callVv C dX10_sign_217 zm_X10_335 zyX10_hold (m_hold n _ _ (zsett (zqo false) W P).1.length hQ1.2.2.2.2.1 (by omega) (nI 41)) zc_10 rfl zk_41 (by decide) (by decide) rfl rfl (Nat.le_of_ble_eq_true rfl) (by decide) (by decide) ?_
                  have hQ2 := hQ1.st (zfs.hold (nI 41) _ _ _) (hQ1.2.2.2.2.hold 41 (by decide))
                  refine z_aload_n C dX10_sign_220 rfl ?_
                  refine zs_callVq C dX10_sign_221 zm_X10_332 zyX10_next (m_nx n _ _ hS hQ2 (hP1)) zc_10 rfl zk_41 (by decide) (by decide) rfl rfl (Nat.le_of_ble_eq_true rfl) (by decide) (by decide) (fun v221 iv221 lw221 hq221 => ?_)
                  obtain ⟨rfl, hQ3, hT3⟩ := hq221
                  refine z_iconst (v := 0) C dX10_sign_224 (by decide) ?_
                  refine zs_qiret C E dX10_sign_225 rfl ?_
                  rw [zsig_o hk]
                  exact ⟨rfl, hQ3, hT3⟩
                · exact absurd q207 (by decide)
          · have hk : (zkn (zT B s) s i) = 61 ∨ (zkn (zT B s) s i) = 60 ∨ (zkn (zT B s) s i) = 62 := Or.inr (Or.inr ((hSm.sg (c := 62) (by decide)).mp q74))
            have hn2 : ¬ (zkn (zT B s) s i) = 2 := fun z => by rw [z] at hk; exact absurd hk (by decide)
            refine z_aload_n C dX10_sign_77 rfl ?_
            refine z_bipush (v := 46) C dX10_sign_78 (by decide) ?_
            refine zs_callVq C dX10_sign_80 zm_X10_317 zyX10_settle (m_settle46 n _ _ b W P hQ.2.2.2.2 hwo (by omega)) zc_10 rfl zk_41 (by decide) (by decide) rfl rfl (Nat.le_of_ble_eq_true rfl) (by decide) (by decide) (fun v80 iv80 lw80 hq80 => ?_)
            obtain ⟨rfl, rfl, hf1, hM1⟩ := hq80
            have hQ1 := hQ.st hf1 hM1
            have hT1 := hT.st hf1
            have hSm1 := hT1.2.1
            have hP1 := hT1.2.2 hn2
            refine z_aload_n C dX10_sign_83 rfl ?_
            refine z_getI C dX10_sign_84 zf_X10_292 zk_41 (by decide) ?_
            refine z_if_ne (tgt := 94) C dX10_sign_87 (by decide) (fun q87 => ?_) (fun q87 => ?_)
            · obtain ⟨w, W2, hW1⟩ : ∃ w W2, (zsett zq46 W P).1 = w :: W2 := by
                match hh : (zsett zq46 W P).1 with
                | [] => exact absurd (by rw [hQ1.2.2.2.2.1, hh]; rfl) q87
                | w :: W2 => exact ⟨w, W2, rfl⟩
              have hMw := hQ1.2.2.2.2
              rw [hW1] at hMw
              have h49 : _ = nI (W2.length + 1) := hMw.1
              have hl2 : W2.length + 1 = (zsett zq46 W P).1.length := by rw [hW1]; rfl
              have hwb : 40 ≤ w ∧ w ≤ 48 := hwo w ((zsett_inv (p := zq46) (by decide) W P hwo (by have := hJ.1.2.2.1; exact this)).2.2.2.2.2 w (by rw [hW1]; simp))
              refine z_aload_n C dX10_sign_94 rfl ?_
              refine zs_getR C dX10_sign_95 zf_X10_110 zk_41 (by decide) (zr_41_48 n) ?_
              refine z_aload_n C dX10_sign_98 rfl ?_
              refine z_getI C dX10_sign_99 zf_X10_292 zk_41 (by decide) ?_
              rw [h49]
              refine z_iconst (v := 1) C dX10_sign_102 (by decide) ?_
              refine z_isub C dX10_sign_103 ?_
              rw [nI_prd (by omega)]
              refine z_iald C dX10_sign_104 zk_73 (by decide) ?_ ?_
              · exact vp_in_nI (by omega) (by decide)
              refine z_eqi (show _ = nI w by rw [nI_clamp (by omega)]; exact hMw.top) ?_
              refine z_istore_n (lv' := [some (.ref 41), some (.int _)]) C dX10_sign_105 (by decide) rfl ?_
              refine z_iload_n C dX10_sign_106 rfl ?_
              refine z_bipush (v := 43) C dX10_sign_107 (by decide) ?_
              refine zt_icmp_lt (tgt := 123) C dX10_sign_109 (nI_toInt (by omega)) (show (43 : Int32).toInt = 43 by decide) (by decide) (fun q109 => ?_) (fun q109 => ?_)
              · have hcm : zcmT (zsett zq46 W P).1 = false := by rw [hW1]; exact decide_eq_false_iff_not.mpr (by omega)
                refine z_aload_n C dX10_sign_123 rfl ?_
                refine z_getI C dX10_sign_124 zf_X10_250 zk_41 (by decide) ?_
                refine zt_if_le (tgt := 132) C dX10_sign_127 rfl (by decide) (fun q127 => ?_) (fun q127 => ?_)
                · refine z_aload_n C dX10_sign_132 rfl ?_
                  refine z_aload_n C dX10_sign_133 rfl ?_
                  refine z_getI C dX10_sign_134 zf_X10_238 zk_41 (by decide) ?_
                  refine z_bipush (v := 61) C dX10_sign_137 (by decide) ?_
                  refine z_icmp_ne (tgt := 147) C dX10_sign_139 (by decide) (fun q139 => ?_) (fun q139 => ?_)
                  · refine z_aload_n C dX10_sign_147 rfl ?_
                    refine z_getI C dX10_sign_148 zf_X10_238 zk_41 (by decide) ?_
                    refine z_bipush (v := 60) C dX10_sign_151 (by decide) ?_
                    refine z_icmp_ne (tgt := 161) C dX10_sign_153 (by decide) (fun q153 => ?_) (fun q153 => ?_)
                    · refine z_bipush (v := 45) C dX10_sign_161 (by decide) ?_
                      refine zs_callVv C dX10_sign_163 zm_X10_335 zyX10_hold (m_hold n _ _ (zsett zq46 W P).1.length hQ1.2.2.2.2.1 (by omega) (nI 45)) zc_10 rfl zk_41 (by decide) (by decide) rfl rfl (Nat.le_of_ble_eq_true rfl) (by decide) (by decide) ?_
                      have hQ2 := hQ1.st (zfs.hold (nI 45) _ _ _) (hQ1.2.2.2.2.hold 45 (by decide))
                      refine z_aload_n C dX10_sign_166 rfl ?_
                      refine zs_callVq C dX10_sign_167 zm_X10_332 zyX10_next (m_nx n _ _ hS hQ2 (hP1)) zc_10 rfl zk_41 (by decide) (by decide) rfl rfl (Nat.le_of_ble_eq_true rfl) (by decide) (by decide) (fun v167 iv167 lw167 hq167 => ?_)
                      obtain ⟨rfl, hQ3, hT3⟩ := hq167
                      refine z_iconst (v := 1) C dX10_sign_170 (by decide) ?_
                      refine zs_qiret C E dX10_sign_171 rfl ?_
                      rw [zsig_c (w := 45) (Or.inr (Or.inr ⟨(hSm.sg (c := 62) (by decide)).mp q74, rfl⟩)) hcm]
                      exact ⟨rfl, hQ3, hT3⟩
                    · exact absurd ((hSm.sg (c := 60) (by decide)).mpr ((hSm1.sg (c := 60) (by decide)).mp q153)) q65
                  · exact absurd ((hSm.sg (c := 61) (by decide)).mpr ((hSm1.sg (c := 61) (by decide)).mp q139)) q56
                · exact absurd (by rw [hQ1.2.1]; decide) q127
              · refine z_iload_n C dX10_sign_112 rfl ?_
                refine z_bipush (v := 45) C dX10_sign_113 (by decide) ?_
                refine zt_icmp_gt (tgt := 123) C dX10_sign_115 (nI_toInt (by omega)) (show (45 : Int32).toInt = 45 by decide) (by decide) (fun q115 => ?_) (fun q115 => ?_)
                · have hcm : zcmT (zsett zq46 W P).1 = false := by rw [hW1]; exact decide_eq_false_iff_not.mpr (by omega)
                  refine z_aload_n C dX10_sign_123 rfl ?_
                  refine z_getI C dX10_sign_124 zf_X10_250 zk_41 (by decide) ?_
                  refine zt_if_le (tgt := 132) C dX10_sign_127 rfl (by decide) (fun q127 => ?_) (fun q127 => ?_)
                  · refine z_aload_n C dX10_sign_132 rfl ?_
                    refine z_aload_n C dX10_sign_133 rfl ?_
                    refine z_getI C dX10_sign_134 zf_X10_238 zk_41 (by decide) ?_
                    refine z_bipush (v := 61) C dX10_sign_137 (by decide) ?_
                    refine z_icmp_ne (tgt := 147) C dX10_sign_139 (by decide) (fun q139 => ?_) (fun q139 => ?_)
                    · refine z_aload_n C dX10_sign_147 rfl ?_
                      refine z_getI C dX10_sign_148 zf_X10_238 zk_41 (by decide) ?_
                      refine z_bipush (v := 60) C dX10_sign_151 (by decide) ?_
                      refine z_icmp_ne (tgt := 161) C dX10_sign_153 (by decide) (fun q153 => ?_) (fun q153 => ?_)
                      · refine z_bipush (v := 45) C dX10_sign_161 (by decide) ?_
                        refine zs_callVv C dX10_sign_163 zm_X10_335 zyX10_hold (m_hold n _ _ (zsett zq46 W P).1.length hQ1.2.2.2.2.1 (by omega) (nI 45)) zc_10 rfl zk_41 (by decide) (by decide) rfl rfl (Nat.le_of_ble_eq_true rfl) (by decide) (by decide) ?_
                        have hQ2 := hQ1.st (zfs.hold (nI 45) _ _ _) (hQ1.2.2.2.2.hold 45 (by decide))
                        refine z_aload_n C dX10_sign_166 rfl ?_
                        refine zs_callVq C dX10_sign_167 zm_X10_332 zyX10_next (m_nx n _ _ hS hQ2 (hP1)) zc_10 rfl zk_41 (by decide) (by decide) rfl rfl (Nat.le_of_ble_eq_true rfl) (by decide) (by decide) (fun v167 iv167 lw167 hq167 => ?_)
                        obtain ⟨rfl, hQ3, hT3⟩ := hq167
                        refine z_iconst (v := 1) C dX10_sign_170 (by decide) ?_
                        refine zs_qiret C E dX10_sign_171 rfl ?_
                        rw [zsig_c (w := 45) (Or.inr (Or.inr ⟨(hSm.sg (c := 62) (by decide)).mp q74, rfl⟩)) hcm]
                        exact ⟨rfl, hQ3, hT3⟩
                      · exact absurd ((hSm.sg (c := 60) (by decide)).mpr ((hSm1.sg (c := 60) (by decide)).mp q153)) q65
                    · exact absurd ((hSm.sg (c := 61) (by decide)).mpr ((hSm1.sg (c := 61) (by decide)).mp q139)) q56
                  · exact absurd (by rw [hQ1.2.1]; decide) q127
                · refine z_aload_n C dX10_sign_118 rfl ?_
                  refine z_iconst (v := 2) C dX10_sign_119 (by decide) ?_
                  refine zs_callVv C dX10_sign_120 zm_X10_323 zyX10_wrong (m_wrong n _ _ hQ1.2.1 _) zc_10 rfl zk_41 (by decide) (by decide) rfl rfl (Nat.le_of_ble_eq_true rfl) (by decide) (by decide) ?_
                  have hF := hQ1.wr2 hT1 (wh := 2) (by decide) hn2
                  have hFp := hF.pos
                  refine z_aload_n C dX10_sign_123 rfl ?_
                  refine z_getI C dX10_sign_124 zf_X10_250 zk_41 (by decide) ?_
                  refine zt_if_le (tgt := 132) C dX10_sign_127 rfl (by decide) (fun q127 => ?_) (fun q127 => ?_)
                  · exact absurd hFp (by show ¬ 0 < _; omega)
                  · refine z_iconst (v := 2) C dX10_sign_130 (by decide) ?_
                    refine zs_qiret C E dX10_sign_131 rfl ?_
                    rw [zsig_x hk (by rw [hW1]; exact decide_eq_true_iff.mpr (by omega))]
                    exact ⟨⟨_, rfl⟩, hF⟩
            · have hW1 : (zsett zq46 W P).1 = [] := by
                have h := nI_inj4 (b := 0) (by omega) (by decide) (hQ1.2.2.2.2.1.symm.trans q87)
                exact List.eq_nil_of_length_eq_zero h
              refine z_iconst (v := (-1)) C dX10_sign_90 (by decide) ?_
              refine z_goto (tgt := 105) C dX10_sign_91 (by decide) ?_
              skip
              refine z_istore_n (lv' := [some (.ref 41), some (.int _)]) C dX10_sign_105 (by decide) rfl ?_
              refine z_iload_n C dX10_sign_106 rfl ?_
              refine z_bipush (v := 43) C dX10_sign_107 (by decide) ?_
              refine zt_icmp_lt (tgt := 123) C dX10_sign_109 (show ((-1) : Int32).toInt = (-1) by decide) (show (43 : Int32).toInt = 43 by decide) (by decide) (fun q109 => ?_) (fun q109 => ?_)
              · have hcm : zcmT (zsett zq46 W P).1 = false := by rw [hW1]; rfl
                refine z_aload_n C dX10_sign_123 rfl ?_
                refine z_getI C dX10_sign_124 zf_X10_250 zk_41 (by decide) ?_
                refine zt_if_le (tgt := 132) C dX10_sign_127 rfl (by decide) (fun q127 => ?_) (fun q127 => ?_)
                · refine z_aload_n C dX10_sign_132 rfl ?_
                  refine z_aload_n C dX10_sign_133 rfl ?_
                  refine z_getI C dX10_sign_134 zf_X10_238 zk_41 (by decide) ?_
                  refine z_bipush (v := 61) C dX10_sign_137 (by decide) ?_
                  refine z_icmp_ne (tgt := 147) C dX10_sign_139 (by decide) (fun q139 => ?_) (fun q139 => ?_)
                  · refine z_aload_n C dX10_sign_147 rfl ?_
                    refine z_getI C dX10_sign_148 zf_X10_238 zk_41 (by decide) ?_
                    refine z_bipush (v := 60) C dX10_sign_151 (by decide) ?_
                    refine z_icmp_ne (tgt := 161) C dX10_sign_153 (by decide) (fun q153 => ?_) (fun q153 => ?_)
                    · refine z_bipush (v := 45) C dX10_sign_161 (by decide) ?_
                      refine zs_callVv C dX10_sign_163 zm_X10_335 zyX10_hold (m_hold n _ _ (zsett zq46 W P).1.length hQ1.2.2.2.2.1 (by omega) (nI 45)) zc_10 rfl zk_41 (by decide) (by decide) rfl rfl (Nat.le_of_ble_eq_true rfl) (by decide) (by decide) ?_
                      have hQ2 := hQ1.st (zfs.hold (nI 45) _ _ _) (hQ1.2.2.2.2.hold 45 (by decide))
                      refine z_aload_n C dX10_sign_166 rfl ?_
                      refine zs_callVq C dX10_sign_167 zm_X10_332 zyX10_next (m_nx n _ _ hS hQ2 (hP1)) zc_10 rfl zk_41 (by decide) (by decide) rfl rfl (Nat.le_of_ble_eq_true rfl) (by decide) (by decide) (fun v167 iv167 lw167 hq167 => ?_)
                      obtain ⟨rfl, hQ3, hT3⟩ := hq167
                      refine z_iconst (v := 1) C dX10_sign_170 (by decide) ?_
                      refine zs_qiret C E dX10_sign_171 rfl ?_
                      rw [zsig_c (w := 45) (Or.inr (Or.inr ⟨(hSm.sg (c := 62) (by decide)).mp q74, rfl⟩)) hcm]
                      exact ⟨rfl, hQ3, hT3⟩
                    · exact absurd ((hSm.sg (c := 60) (by decide)).mpr ((hSm1.sg (c := 60) (by decide)).mp q153)) q65
                  · exact absurd ((hSm.sg (c := 61) (by decide)).mpr ((hSm1.sg (c := 61) (by decide)).mp q139)) q56
                · exact absurd (by rw [hQ1.2.1]; decide) q127
              · exfalso; omega
    · have hk : (zkn (zT B s) s i) = 43 ∨ (zkn (zT B s) s i) = 45 := Or.inr ((hSm.sg (c := 45) (by decide)).mp q15)
      have hn2 : ¬ (zkn (zT B s) s i) = 2 := fun z => by rw [z] at hk; exact absurd hk (by decide)
      refine z_aload_n C dX10_sign_18 rfl ?_
      refine z_bipush (v := 46) C dX10_sign_19 (by decide) ?_
      refine zs_callVq C dX10_sign_21 zm_X10_317 zyX10_settle (m_settle46 n _ _ b W P hQ.2.2.2.2 hwo (by omega)) zc_10 rfl zk_41 (by decide) (by decide) rfl rfl (Nat.le_of_ble_eq_true rfl) (by decide) (by decide) (fun v21 iv21 lw21 hq21 => ?_)
      obtain ⟨rfl, rfl, hf1, hM1⟩ := hq21
      have hQ1 := hQ.st hf1 hM1
      have hT1 := hT.st hf1
      have hSm1 := hT1.2.1
      have hP1 := hT1.2.2 hn2
      refine z_aload_n C dX10_sign_24 rfl ?_
      refine z_aload_n C dX10_sign_25 rfl ?_
      refine z_getI C dX10_sign_26 zf_X10_238 zk_41 (by decide) ?_
      refine z_bipush (v := 43) C dX10_sign_29 (by decide) ?_
      refine z_icmp_ne (tgt := 39) C dX10_sign_31 (by decide) (fun q31 => ?_) (fun q31 => ?_)
      · refine z_bipush (v := 47) C dX10_sign_39 (by decide) ?_
        refine zs_callVv C dX10_sign_41 zm_X10_335 zyX10_hold (m_hold n _ _ (zsett zq46 W P).1.length hQ1.2.2.2.2.1 (by omega) (nI 47)) zc_10 rfl zk_41 (by decide) (by decide) rfl rfl (Nat.le_of_ble_eq_true rfl) (by decide) (by decide) ?_
        have hQ2 := hQ1.st (zfs.hold (nI 47) _ _ _) (hQ1.2.2.2.2.hold 47 (by decide))
        refine z_aload_n C dX10_sign_44 rfl ?_
        refine zs_callVq C dX10_sign_45 zm_X10_332 zyX10_next (m_nx n _ _ hS hQ2 (hP1)) zc_10 rfl zk_41 (by decide) (by decide) rfl rfl (Nat.le_of_ble_eq_true rfl) (by decide) (by decide) (fun v45 iv45 lw45 hq45 => ?_)
        obtain ⟨rfl, hQ3, hT3⟩ := hq45
        refine z_iconst (v := 1) C dX10_sign_48 (by decide) ?_
        refine zs_qiret C E dX10_sign_49 rfl ?_
        rw [zsig_p (w := 47) (Or.inr ⟨(hSm.sg (c := 45) (by decide)).mp q15, rfl⟩)]
        exact ⟨rfl, hQ3, hT3⟩
      · exact absurd ((hSm.sg (c := 43) (by decide)).mpr ((hSm1.sg (c := 43) (by decide)).mp q31)) q6
