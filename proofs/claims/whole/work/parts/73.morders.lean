set_option maxHeartbeats 1000000 in
set_option maxRecDepth 4000 in
theorem lm_o264 (n : Nat) {iv0 : zI} {B : Nat → Int32} {s : Nat} (hS : zSt iv0 B s) (O : zFa ⊕ zLi) (pre : zLi) (i v : Nat) (iv : zI) (lw : zG) (hh : zOh iv0 B s pre i v iv lw) (hM : (zfl pre).length ≤ 400) (hT : pre.length ≤ 10) (hO : O = .inr pre) {X : zX} (C : zC X cX10_orders 2 RX10 (some .int) "orders" 5 0 0) (E : zEnd X (91 + 3 * n) 0 0 (zQ n (fun vr iv2 lw2 => zMo iv0 (zpl (zT B s) s) O vr iv2))) : zJs X n 2 264 [some (.ref 41), none] [] iv lw := by
  refine z_aload_n C dX10_orders_264 rfl ?_
  refine z_getI C dX10_orders_265 zf_X10_250 zk_41 (by decide) ?_
  refine zt_if_le (tgt := 273) C dX10_orders_268 rfl (by decide) (fun q268 => ?_) (fun q268 => ?_)
  · refine z_aload_n C dX10_orders_273 rfl ?_
    refine zs_getR C dX10_orders_274 zf_X10_98 zk_41 (by decide) (zr_41_33 n) ?_
    refine z_aload_n C dX10_orders_277 rfl ?_
    refine z_getI C dX10_orders_278 zf_X10_342 zk_41 (by decide) ?_
    rw [hh.2.2.2.2.2.1.1]
    refine z_aload_n C dX10_orders_281 rfl ?_
    refine z_getI C dX10_orders_282 zf_X10_289 zk_41 (by decide) ?_
    rw [hh.2.2.2.2.1]
    refine z_iast C dX10_orders_285 zk_70 (by decide) ?_ ?_
    · exact vp_in_nI (by omega) (by decide)
    rw [nI_clamp (show pre.length < 2 ^ 31 by omega)]
    refine z_iconst (v := 0) C dX10_orders_286 (by decide) ?_
    refine z_istore_n (lv' := [some (.ref 41), some (.int _)]) C dX10_orders_287 (by decide) rfl ?_
    refine lm_o1 n lw (zu iv 70 pre.length (nI (zfl pre).length)) (zfl pre).length pre.length hh.2.2.2.2.1 hM hh.2.2.2.2.2.1.1 hT _ (fun cur hc => ?_) (zC_le (by decide) C) E (zfl pre).length 0 _ (by omega) ⟨fun _ _ => rfl, fun j hj => absurd hj (by omega), fun j hj => absurd hj (by omega), fun j hj => absurd hj (by omega)⟩
    obtain ⟨h1, h2, h3, h4⟩ := hc
    obtain ⟨g1, g2, g3, g4, g5, ⟨g6, g7, g8⟩, g9⟩ := hh
    have e41 : ∀ j, j ≠ 30 → zu cur 41 30 (nI pre.length) 41 j = iv 41 j := fun j hj => by rw [zu_s, pk_un hj, h1 41 (by decide)]; rfl
    rw [hO]
    refine ⟨fun q a1 a2 => ?_, fun j a0 a1 a2 a3 => by rw [e41 j a0]; exact g1.2.1 j a1 a2 a3, ?_, rfl, by rw [e41 40 (by decide)]; exact g2, by rw [e41 41 (by decide)]; exact g3, zu_ss _ _ _ _, fun j hj => ?_, fun l hl => ?_, fun l hl => ?_⟩
    · rw [zu_n _ _ _ a1, h1 q (by omega), zu_n _ _ _ (by omega)]; exact g1.1 q a1 (by omega)
    · rw [zu_n _ _ _ (by decide), h1 72 (by decide)]; exact g1.2.2.1
    · rw [zu_n (c := 64) _ _ _ (by decide), zu_n (c := 65) _ _ _ (by decide), (h2 j hj).1, (h2 j hj).2]; exact g7 j hj
    · rw [zu_n (c := 67) _ _ _ (by decide), h3 l hl]; exact (g8 l hl).2
    · rw [zu_n (c := 66) _ _ _ (by decide), h4 l (by omega), zu_s]
      by_cases c : l = pre.length
      · subst c
        rw [pk_us, List.take_of_length_le (Nat.le_refl _)]
      · rw [pk_un c]; exact (g8 l (by omega)).1
  · exact absurd (by rw [hh.2.1]; decide) q268

set_option maxHeartbeats 1000000 in
set_option maxRecDepth 4000 in
theorem lm_o111a (n : Nat) {iv0 : zI} {B : Nat → Int32} {s : Nat} (hS : zSt iv0 B s) (O : zFa ⊕ zLi) (pre : zLi) (i v n0 : Nat) (iv : zI) (lw : zG) (hOf : zOf iv0 iv) (h40 : iv 41 40 = 0) (h41 : iv 41 41 = -1) (h37 : iv 41 37 = nI v) (h36 : iv 41 36 = nI (zfl pre).length) (hT : zMt B s (i + 1) iv lw) (hJ : zJv B s (zfl pre).length v n0 (0, i + 1, [], [], v)) (m : Nat) (cf : zCf) (f : zFa) (hr : zrch (zkn (zT B s) s) m (0, i + 1, [], [], v) cf) (hns : ¬ zstop (zkn (zT B s) s) cf) (hst : zst (zkn (zT B s) s) cf = .inl f) (hO : O = .inl f) {X : zX} (C : zC X cX10_orders 2 RX10 (some .int) "orders" 5 0 0) (E : zEnd X (91 + 3 * n) 0 0 (zQ n (fun vr iv2 lw2 => zMo iv0 (zpl (zT B s) s) O vr iv2))) : zJs X n 2 111 [some (.ref 41), none] [] iv lw := by
  refine z_aload_n C dX10_orders_111 rfl ?_
  refine zs_callVq C dX10_orders_112 zm_X10_345 zyX10_readE (m_readE n _ _ (hOf.st hS) (i + 1) v h40 h41 h37 h36 hT hJ cf m hr (Or.inr ⟨f, hst⟩)) zc_10 rfl zk_41 (by decide) (by decide) rfl rfl (Nat.le_of_ble_eq_true rfl) (by decide) (by decide) (fun v112 iv112 lw112 hq112 => ?_)
  obtain ⟨rfl, hE⟩ := hq112
  obtain ⟨f1, -, hf1, hF⟩ := hE.resolve_left (fun z => hns z.1)
  have ef : f1 = f := by rw [hst] at hf1; cases hf1; rfl
  subst ef
  refine z_aload_n C dX10_orders_115 rfl ?_
  refine z_getI C dX10_orders_116 zf_X10_250 zk_41 (by decide) ?_
  refine zt_if_le (tgt := 124) C dX10_orders_119 rfl (by decide) (fun q119 => ?_) (fun q119 => ?_)
  · exact absurd hF.pos (by omega)
  · refine z_iconst (v := (-1)) C dX10_orders_122 (by decide) ?_
    refine zs_qiret C E dX10_orders_123 rfl ?_
    rw [hO]
    exact (hOf.fe hF.1).mo hF.2.1 hF.2.2.1

set_option maxHeartbeats 1000000 in
set_option maxRecDepth 4000 in
theorem lm_o111b (n : Nat) {iv0 : zI} {B : Nat → Int32} {s : Nat} (hS : zSt iv0 B s) (O : zFa ⊕ zLi) (pre : zLi) (i v n0 : Nat) (iv : zI) (lw : zG) (hOf : zOf iv0 iv) (h40 : iv 41 40 = 0) (h41 : iv 41 41 = -1) (h37 : iv 41 37 = nI v) (h36 : iv 41 36 = nI (zfl pre).length) (hT : zMt B s (i + 1) iv lw) (hJ : zJv B s (zfl pre).length v n0 (0, i + 1, [], [], v)) (m : Nat) (hl : pre.length < 10) (h35i : iv 41 35 = nI pre.length) (j : Nat) (t : List Nat) (P0 : List Int32) (v2 : Nat) (hr : zrch (zkn (zT B s) s) m (0, i + 1, [], [], v) (2, j, t, P0, v2)) (hsp : zstop (zkn (zT B s) s) (2, j, t, P0, v2)) (hO1 : ¬ zordk (zkn (zT B s) s (j + 1)) → O = .inl (zbad (zkn (zT B s) s (j + 1)) (j + 1))) (hO2 : zordk (zkn (zT B s) s (j + 1)) → ¬ zkn (zT B s) s (j + 2) = 59 → O = .inl (zbad (zkn (zT B s) s (j + 2)) (j + 2))) {X : zX} (C : zC X cX10_orders 2 RX10 (some .int) "orders" 5 0 0) (E : zEnd X (91 + 3 * n) 0 0 (zQ n (fun vr iv2 lw2 => zMo iv0 (zpl (zT B s) s) O vr iv2))) (k : ∀ (iv8 : zI) (lw8 : zG), zOf iv0 iv8 → iv8 41 40 = 0 → iv8 41 41 = -1 → iv8 41 37 = nI v2 → iv8 41 36 = nI ((zfl pre).length + (zflu t P0).length) → (∀ x, x < (zfl pre).length → iv8 68 x = iv 68 x ∧ iv8 69 x = iv 69 x) → (∀ x, x < (zflu t P0).length → iv8 68 ((zfl pre).length + x) = zsc ((zflu t P0).reverse.getD x 0) ∧ (1000 ≤ ((zflu t P0).reverse.getD x 0).toInt → iv8 69 ((zfl pre).length + x) = (zflu t P0).reverse.getD x 0 - 1000)) → iv8 70 = iv 70 → iv8 71 = upd (iv 71) pre.length (zdc (zkn (zT B s) s (j + 1))) → iv8 41 35 = nI (pre.length + 1) → zMt B s (j + 3) iv8 lw8 → zordk (zkn (zT B s) s (j + 1)) → zkn (zT B s) s (j + 2) = 59 → zJs X n 2 47 [some (.ref 41), none] [] iv8 lw8) : zJs X n 2 111 [some (.ref 41), none] [] iv lw := by
  refine z_aload_n C dX10_orders_111 rfl ?_
  refine zs_callVq C dX10_orders_112 zm_X10_345 zyX10_readE (m_readE n _ _ (hOf.st hS) (i + 1) v h40 h41 h37 h36 hT hJ (2, j, t, P0, v2) m hr (Or.inl hsp)) zc_10 rfl zk_41 (by decide) (by decide) rfl rfl (Nat.le_of_ble_eq_true rfl) (by decide) (by decide) (fun v112 iv112 lw112 hq112 => ?_)
  obtain ⟨rfl, hE⟩ := hq112
  obtain ⟨-, hQ3, hT3⟩ := hE.resolve_right (fun ⟨_, z, _⟩ => z hsp)
  have hQ3 : zMq iv (zfl pre).length [] (zflu t P0) v2 iv112 := hQ3
  have hT3 : zMt B s j iv112 lw112 := hT3
  refine z_aload_n C dX10_orders_115 rfl ?_
  refine z_getI C dX10_orders_116 zf_X10_250 zk_41 (by decide) ?_
  refine zt_if_le (tgt := 124) C dX10_orders_119 rfl (by decide) (fun q119 => ?_) (fun q119 => ?_)
  · refine z_aload_n C dX10_orders_124 rfl ?_
    refine zs_callVq C dX10_orders_125 zm_X10_332 zyX10_next (m_nx n _ _ (i := j + 1) (hOf.st hS) hQ3 (hT3.2.2 (fun z => by rw [hsp.2.1] at z; exact absurd z (by decide)))) zc_10 rfl zk_41 (by decide) (by decide) rfl rfl (Nat.le_of_ble_eq_true rfl) (by decide) (by decide) (fun v125 iv125 lw125 hq125 => ?_)
    obtain ⟨rfl, hQ4, hT4⟩ := hq125
    have hSm := hT4.2.1
    have hOf4 := hOf.fe hQ4.1
    have h35 : iv125 41 35 = nI pre.length := (hQ4.1.2.1 35 (by decide) (by decide) (by decide) (by decide) (by decide) (by decide) (by decide) (by decide) (by decide) (by decide)).trans h35i
    refine z_aload_n C dX10_orders_128 rfl ?_
    refine z_ldc2 C dX10_orders_129 zk_X10_257 ?_
    refine zs_callVi C dX10_orders_132 zm_X10_302 zyX10_isWord (m_isWord _ _ _ _) zc_10 rfl zk_41 (by decide) (by decide) rfl rfl (Nat.le_of_ble_eq_true rfl) (by decide) (by decide) ?_
    refine zb_if_ne (tgt := 158) C dX10_orders_135 (by decide) (fun q135 => ?_) (fun q135 => ?_)
    · refine z_iconst (v := 1) C dX10_orders_158 (by decide) ?_
      refine z_goto (tgt := 163) C dX10_orders_159 (by decide) ?_
      refine z_istore_n (lv' := [some (.ref 41), some (.int _)]) C dX10_orders_163 (by decide) rfl ?_
      refine z_iload_n C dX10_orders_164 rfl ?_
      refine z_if_ne (tgt := 173) C dX10_orders_165 (by decide) (fun q165 => ?_) (fun q165 => ?_)
      · refine z_aload_n C dX10_orders_173 rfl ?_
        refine z_getI C dX10_orders_174 zf_X10_250 zk_41 (by decide) ?_
        refine zt_if_le (tgt := 182) C dX10_orders_177 rfl (by decide) (fun q177 => ?_) (fun q177 => ?_)
        · have hk1 : (zkn (zT B s) s (j + 1)) = 202 := hSm.w2.mp q135
          have hord : zordk (zkn (zT B s) s (j + 1)) := Or.inl hk1
          refine z_aload_n C dX10_orders_182 rfl ?_
          refine zs_getR C dX10_orders_183 zf_X10_101 zk_41 (by decide) (zr_41_34 n) ?_
          refine z_aload_n C dX10_orders_186 rfl ?_
          refine z_getI C dX10_orders_187 zf_X10_342 zk_41 (by decide) ?_
          rw [h35]
          refine z_aload_n C dX10_orders_190 rfl ?_
          refine z_ldc2 C dX10_orders_191 zk_X10_257 ?_
          refine zs_callVi C dX10_orders_194 zm_X10_302 zyX10_isWord (m_isWord _ _ _ _) zc_10 rfl zk_41 (by decide) (by decide) rfl rfl (Nat.le_of_ble_eq_true rfl) (by decide) (by decide) ?_
          refine zb_if_eq (tgt := 204) C dX10_orders_197 (by decide) (fun q197 => ?_) (fun q197 => ?_)
          · exact absurd q135 q197
          · refine z_iconst (v := 0) C dX10_orders_200 (by decide) ?_
            refine z_goto (tgt := 219) C dX10_orders_201 (by decide) ?_
            refine z_iast C dX10_orders_219 zk_71 (by decide) ?_ ?_
            · exact vp_in_nI (by omega) (by decide)
            rw [nI_clamp (show pre.length < 2 ^ 31 by omega)]
            refine z_eqv (iv1 := zu iv125 71 pre.length (zdc (zkn (zT B s) s (j + 1)))) (by rw [show zdc (zkn (zT B s) s (j + 1)) = 0 by rw [hk1]; rfl]) ?_
            have hOf5 := hOf4.up 71 pre.length (zdc (zkn (zT B s) s (j + 1))) (Or.inr rfl)
            refine z_aload_n C dX10_orders_220 rfl ?_
            refine zs_callVq C dX10_orders_221 zm_X10_332 zyX10_next (m_nxt n _ _ B s (j + 2) (hOf5.st hS).1 hS.2.1 (hOf5.st hS).2.2 (hT4.2.2 (fun z => by rcases hord with e | e | e <;> rw [e] at z <;> exact absurd z (by decide)))) zc_10 rfl zk_41 (by decide) (by decide) rfl rfl (Nat.le_of_ble_eq_true rfl) (by decide) (by decide) (fun v221 iv221 lw221 hq221 => ?_)
            obtain ⟨rfl, hx6⟩ := hq221
            have hSm6 := hx6.2.2.2.1
            have h406 : iv221 41 40 = 0 := (hx6.2.1 40 (by decide) (by decide) (by decide) (by decide)).trans hQ4.2.1
            have hOf6 := hOf5.mx hx6
            refine z_aload_n C dX10_orders_224 rfl ?_
            refine z_getI C dX10_orders_225 zf_X10_238 zk_41 (by decide) ?_
            refine z_bipush (v := 59) C dX10_orders_228 (by decide) ?_
            refine z_icmp_eq (tgt := 238) C dX10_orders_230 (by decide) (fun q230 => ?_) (fun q230 => ?_)
            · refine z_aload_n C dX10_orders_238 rfl ?_
              refine z_getI C dX10_orders_239 zf_X10_250 zk_41 (by decide) ?_
              refine zt_if_le (tgt := 247) C dX10_orders_242 rfl (by decide) (fun q242 => ?_) (fun q242 => ?_)
              · have h59 : (zkn (zT B s) s (j + 2)) = 59 := (hSm6.sg (c := 59) (by decide)).mp q230
                refine z_aload_n C dX10_orders_247 rfl ?_
                refine zs_callVq C dX10_orders_248 zm_X10_332 zyX10_next (m_nxt n _ _ B s (j + 3) (hOf6.st hS).1 hS.2.1 (hOf6.st hS).2.2 (hx6.2.2.2.2 (fun z => by rw [h59] at z; exact absurd z (by decide)))) zc_10 rfl zk_41 (by decide) (by decide) rfl rfl (Nat.le_of_ble_eq_true rfl) (by decide) (by decide) (fun v248 iv248 lw248 hq248 => ?_)
                obtain ⟨rfl, hx7⟩ := hq248
                have h357 : iv248 41 35 = nI pre.length := (hx7.2.1 35 (by decide) (by decide) (by decide) (by decide)).trans ((hx6.2.1 35 (by decide) (by decide) (by decide) (by decide)).trans h35)
                refine z_aload_n C dX10_orders_251 rfl ?_
                refine z_dup C dX10_orders_252 rfl ?_
                refine z_getI C dX10_orders_253 zf_X10_342 zk_41 (by decide) ?_
                rw [h357]
                refine z_iconst (v := 1) C dX10_orders_256 (by decide) ?_
                refine z_iadd C dX10_orders_257 ?_
                rw [nI_1]
                refine z_putI C dX10_orders_258 zf_X10_342 zk_41 (by decide) ?_
                refine z_goto (tgt := 47) C dX10_orders_261 (by decide) ?_
                have e35 := zu_ss iv248 41 35 (nI (pre.length + 1))
                have e41 : ∀ j, j ≠ 35 → j ≠ 42 → j ≠ 44 → j ≠ 45 → j ≠ 46 → zu iv248 41 35 (nI (pre.length + 1)) 41 j = iv125 41 j := fun j a0 a1 a2 a3 a4 => by
                  rw [zu_s, pk_un a0, hx7.2.1 j a1 a2 a3 a4, hx6.2.1 j a1 a2 a3 a4]
                  rfl
                have ec : ∀ c, c ≠ 41 → c ≠ 71 → zu iv248 41 35 (nI (pre.length + 1)) c = iv125 c := fun c a1 a2 => by rw [zu_n _ _ _ a1, hx7.1 c a1, hx6.1 c a1, zu_n _ _ _ a2]
                refine z_sub (zdp.sub (by repeat (first | exact True.intro | refine And.intro rfl ?_))) (k _ _ ((hOf6.mx hx7).u41 35 _ (Or.inl rfl)) ((e41 40 (by decide) (by decide) (by decide) (by decide) (by decide)).trans hQ4.2.1) ((e41 41 (by decide) (by decide) (by decide) (by decide) (by decide)).trans hQ4.2.2.1) ((e41 37 (by decide) (by decide) (by decide) (by decide) (by decide)).trans hQ4.2.2.2.1) ((e41 36 (by decide) (by decide) (by decide) (by decide) (by decide)).trans hQ4.2.2.2.2.2.2.2.1) (fun x hx => ?_) (fun x hx => ?_) ?_ ?_ e35 hx7.2.2 hord h59)
                · rw [ec 68 (by decide) (by decide), ec 69 (by decide) (by decide)]; exact hQ4.1.2.2 x hx
                · rw [ec 68 (by decide) (by decide), ec 69 (by decide) (by decide)]; exact hQ4.2.2.2.2.2.2.2.2 x hx
                · rw [ec 70 (by decide) (by decide)]; exact hQ4.1.1 70 (by decide) (by decide) (by decide) (by decide)
                · rw [zu_n _ _ _ (by decide), hx7.1 71 (by decide), hx6.1 71 (by decide), zu_s, hQ4.1.1 71 (by decide) (by decide) (by decide) (by decide)]
              · exact absurd (by rw [h406]; decide) q242
            · refine z_aload_n C dX10_orders_233 rfl ?_
              refine z_iconst (v := 2) C dX10_orders_234 (by decide) ?_
              refine zs_callVv C dX10_orders_235 zm_X10_323 zyX10_wrong (m_wrong n _ _ h406 _) zc_10 rfl zk_41 (by decide) (by decide) rfl rfl (Nat.le_of_ble_eq_true rfl) (by decide) (by decide) ?_
              refine z_aload_n C dX10_orders_238 rfl ?_
              refine z_getI C dX10_orders_239 zf_X10_250 zk_41 (by decide) ?_
              refine zt_if_le (tgt := 247) C dX10_orders_242 rfl (by decide) (fun q242 => ?_) (fun q242 => ?_)
              · exact absurd q242 (Int.not_le.mpr zwrp)
              · refine z_iconst (v := (-1)) C dX10_orders_245 (by decide) ?_
                refine zs_qiret C E dX10_orders_246 rfl ?_
                rw [hO2 hord (fun z => q230 ((hSm6.sg (c := 59) (by decide)).mpr z))]
                exact hOf6.wr hx6.2.2
        · exact absurd (by rw [hQ4.2.1]; decide) q177
      · exact absurd q165 (by decide)
    · refine z_aload_n C dX10_orders_138 rfl ?_
      refine z_ldc2 C dX10_orders_139 zk_X10_259 ?_
      refine zs_callVi C dX10_orders_142 zm_X10_302 zyX10_isWord (m_isWord _ _ _ _) zc_10 rfl zk_41 (by decide) (by decide) rfl rfl (Nat.le_of_ble_eq_true rfl) (by decide) (by decide) ?_
      refine zb_if_ne (tgt := 158) C dX10_orders_145 (by decide) (fun q145 => ?_) (fun q145 => ?_)
      · refine z_iconst (v := 1) C dX10_orders_158 (by decide) ?_
        refine z_goto (tgt := 163) C dX10_orders_159 (by decide) ?_
        refine z_istore_n (lv' := [some (.ref 41), some (.int _)]) C dX10_orders_163 (by decide) rfl ?_
        refine z_iload_n C dX10_orders_164 rfl ?_
        refine z_if_ne (tgt := 173) C dX10_orders_165 (by decide) (fun q165 => ?_) (fun q165 => ?_)
        · refine z_aload_n C dX10_orders_173 rfl ?_
          refine z_getI C dX10_orders_174 zf_X10_250 zk_41 (by decide) ?_
          refine zt_if_le (tgt := 182) C dX10_orders_177 rfl (by decide) (fun q177 => ?_) (fun q177 => ?_)
          · have hk1 : (zkn (zT B s) s (j + 1)) = 203 := hSm.w3.mp q145
            have hord : zordk (zkn (zT B s) s (j + 1)) := Or.inr (Or.inl hk1)
            refine z_aload_n C dX10_orders_182 rfl ?_
            refine zs_getR C dX10_orders_183 zf_X10_101 zk_41 (by decide) (zr_41_34 n) ?_
            refine z_aload_n C dX10_orders_186 rfl ?_
            refine z_getI C dX10_orders_187 zf_X10_342 zk_41 (by decide) ?_
            rw [h35]
            refine z_aload_n C dX10_orders_190 rfl ?_
            refine z_ldc2 C dX10_orders_191 zk_X10_257 ?_
            refine zs_callVi C dX10_orders_194 zm_X10_302 zyX10_isWord (m_isWord _ _ _ _) zc_10 rfl zk_41 (by decide) (by decide) rfl rfl (Nat.le_of_ble_eq_true rfl) (by decide) (by decide) ?_
            refine zb_if_eq (tgt := 204) C dX10_orders_197 (by decide) (fun q197 => ?_) (fun q197 => ?_)
            · refine z_aload_n C dX10_orders_204 rfl ?_
              refine z_ldc2 C dX10_orders_205 zk_X10_259 ?_
              refine zs_callVi C dX10_orders_208 zm_X10_302 zyX10_isWord (m_isWord _ _ _ _) zc_10 rfl zk_41 (by decide) (by decide) rfl rfl (Nat.le_of_ble_eq_true rfl) (by decide) (by decide) ?_
              refine zb_if_eq (tgt := 218) C dX10_orders_211 (by decide) (fun q211 => ?_) (fun q211 => ?_)
              · exact absurd q145 q211
              · refine z_iconst (v := 1) C dX10_orders_214 (by decide) ?_
                refine z_goto (tgt := 219) C dX10_orders_215 (by decide) ?_
                refine z_iast C dX10_orders_219 zk_71 (by decide) ?_ ?_
                · exact vp_in_nI (by omega) (by decide)
                rw [nI_clamp (show pre.length < 2 ^ 31 by omega)]
                refine z_eqv (iv1 := zu iv125 71 pre.length (zdc (zkn (zT B s) s (j + 1)))) (by rw [show zdc (zkn (zT B s) s (j + 1)) = 1 by rw [hk1]; rfl]) ?_
                have hOf5 := hOf4.up 71 pre.length (zdc (zkn (zT B s) s (j + 1))) (Or.inr rfl)
                refine z_aload_n C dX10_orders_220 rfl ?_
                refine zs_callVq C dX10_orders_221 zm_X10_332 zyX10_next (m_nxt n _ _ B s (j + 2) (hOf5.st hS).1 hS.2.1 (hOf5.st hS).2.2 (hT4.2.2 (fun z => by rcases hord with e | e | e <;> rw [e] at z <;> exact absurd z (by decide)))) zc_10 rfl zk_41 (by decide) (by decide) rfl rfl (Nat.le_of_ble_eq_true rfl) (by decide) (by decide) (fun v221 iv221 lw221 hq221 => ?_)
                obtain ⟨rfl, hx6⟩ := hq221
                have hSm6 := hx6.2.2.2.1
                have h406 : iv221 41 40 = 0 := (hx6.2.1 40 (by decide) (by decide) (by decide) (by decide)).trans hQ4.2.1
                have hOf6 := hOf5.mx hx6
                refine z_aload_n C dX10_orders_224 rfl ?_
                refine z_getI C dX10_orders_225 zf_X10_238 zk_41 (by decide) ?_
                refine z_bipush (v := 59) C dX10_orders_228 (by decide) ?_
                refine z_icmp_eq (tgt := 238) C dX10_orders_230 (by decide) (fun q230 => ?_) (fun q230 => ?_)
                · refine z_aload_n C dX10_orders_238 rfl ?_
                  refine z_getI C dX10_orders_239 zf_X10_250 zk_41 (by decide) ?_
                  refine zt_if_le (tgt := 247) C dX10_orders_242 rfl (by decide) (fun q242 => ?_) (fun q242 => ?_)
                  · have h59 : (zkn (zT B s) s (j + 2)) = 59 := (hSm6.sg (c := 59) (by decide)).mp q230
                    refine z_aload_n C dX10_orders_247 rfl ?_
                    refine zs_callVq C dX10_orders_248 zm_X10_332 zyX10_next (m_nxt n _ _ B s (j + 3) (hOf6.st hS).1 hS.2.1 (hOf6.st hS).2.2 (hx6.2.2.2.2 (fun z => by rw [h59] at z; exact absurd z (by decide)))) zc_10 rfl zk_41 (by decide) (by decide) rfl rfl (Nat.le_of_ble_eq_true rfl) (by decide) (by decide) (fun v248 iv248 lw248 hq248 => ?_)
                    obtain ⟨rfl, hx7⟩ := hq248
                    have h357 : iv248 41 35 = nI pre.length := (hx7.2.1 35 (by decide) (by decide) (by decide) (by decide)).trans ((hx6.2.1 35 (by decide) (by decide) (by decide) (by decide)).trans h35)
                    refine z_aload_n C dX10_orders_251 rfl ?_
                    refine z_dup C dX10_orders_252 rfl ?_
                    refine z_getI C dX10_orders_253 zf_X10_342 zk_41 (by decide) ?_
                    rw [h357]
                    refine z_iconst (v := 1) C dX10_orders_256 (by decide) ?_
                    refine z_iadd C dX10_orders_257 ?_
                    rw [nI_1]
                    refine z_putI C dX10_orders_258 zf_X10_342 zk_41 (by decide) ?_
                    refine z_goto (tgt := 47) C dX10_orders_261 (by decide) ?_
                    have e35 := zu_ss iv248 41 35 (nI (pre.length + 1))
                    have e41 : ∀ j, j ≠ 35 → j ≠ 42 → j ≠ 44 → j ≠ 45 → j ≠ 46 → zu iv248 41 35 (nI (pre.length + 1)) 41 j = iv125 41 j := fun j a0 a1 a2 a3 a4 => by
                      rw [zu_s, pk_un a0, hx7.2.1 j a1 a2 a3 a4, hx6.2.1 j a1 a2 a3 a4]
                      rfl
                    have ec : ∀ c, c ≠ 41 → c ≠ 71 → zu iv248 41 35 (nI (pre.length + 1)) c = iv125 c := fun c a1 a2 => by rw [zu_n _ _ _ a1, hx7.1 c a1, hx6.1 c a1, zu_n _ _ _ a2]
                    refine z_sub (zdp.sub (by repeat (first | exact True.intro | refine And.intro rfl ?_))) (k _ _ ((hOf6.mx hx7).u41 35 _ (Or.inl rfl)) ((e41 40 (by decide) (by decide) (by decide) (by decide) (by decide)).trans hQ4.2.1) ((e41 41 (by decide) (by decide) (by decide) (by decide) (by decide)).trans hQ4.2.2.1) ((e41 37 (by decide) (by decide) (by decide) (by decide) (by decide)).trans hQ4.2.2.2.1) ((e41 36 (by decide) (by decide) (by decide) (by decide) (by decide)).trans hQ4.2.2.2.2.2.2.2.1) (fun x hx => ?_) (fun x hx => ?_) ?_ ?_ e35 hx7.2.2 hord h59)
                    · rw [ec 68 (by decide) (by decide), ec 69 (by decide) (by decide)]; exact hQ4.1.2.2 x hx
                    · rw [ec 68 (by decide) (by decide), ec 69 (by decide) (by decide)]; exact hQ4.2.2.2.2.2.2.2.2 x hx
                    · rw [ec 70 (by decide) (by decide)]; exact hQ4.1.1 70 (by decide) (by decide) (by decide) (by decide)
                    · rw [zu_n _ _ _ (by decide), hx7.1 71 (by decide), hx6.1 71 (by decide), zu_s, hQ4.1.1 71 (by decide) (by decide) (by decide) (by decide)]
                  · exact absurd (by rw [h406]; decide) q242
                · refine z_aload_n C dX10_orders_233 rfl ?_
                  refine z_iconst (v := 2) C dX10_orders_234 (by decide) ?_
                  refine zs_callVv C dX10_orders_235 zm_X10_323 zyX10_wrong (m_wrong n _ _ h406 _) zc_10 rfl zk_41 (by decide) (by decide) rfl rfl (Nat.le_of_ble_eq_true rfl) (by decide) (by decide) ?_
                  refine z_aload_n C dX10_orders_238 rfl ?_
                  refine z_getI C dX10_orders_239 zf_X10_250 zk_41 (by decide) ?_
                  refine zt_if_le (tgt := 247) C dX10_orders_242 rfl (by decide) (fun q242 => ?_) (fun q242 => ?_)
                  · exact absurd q242 (Int.not_le.mpr zwrp)
                  · refine z_iconst (v := (-1)) C dX10_orders_245 (by decide) ?_
                    refine zs_qiret C E dX10_orders_246 rfl ?_
                    rw [hO2 hord (fun z => q230 ((hSm6.sg (c := 59) (by decide)).mpr z))]
                    exact hOf6.wr hx6.2.2
            · exact absurd q197 q135
          · exact absurd (by rw [hQ4.2.1]; decide) q177
        · exact absurd q165 (by decide)
      · refine z_aload_n C dX10_orders_148 rfl ?_
        refine z_ldc2 C dX10_orders_149 zk_X10_261 ?_
        refine zs_callVi C dX10_orders_152 zm_X10_302 zyX10_isWord (m_isWord _ _ _ _) zc_10 rfl zk_41 (by decide) (by decide) rfl rfl (Nat.le_of_ble_eq_true rfl) (by decide) (by decide) ?_
        refine zb_if_eq (tgt := 162) C dX10_orders_155 (by decide) (fun q155 => ?_) (fun q155 => ?_)
        · refine z_iconst (v := 0) C dX10_orders_162 (by decide) ?_
          refine z_istore_n (lv' := [some (.ref 41), some (.int _)]) C dX10_orders_163 (by decide) rfl ?_
          refine z_iload_n C dX10_orders_164 rfl ?_
          refine z_if_ne (tgt := 173) C dX10_orders_165 (by decide) (fun q165 => ?_) (fun q165 => ?_)
          · exact absurd q165 (by decide)
          · refine z_aload_n C dX10_orders_168 rfl ?_
            refine z_iconst (v := 2) C dX10_orders_169 (by decide) ?_
            refine zs_callVv C dX10_orders_170 zm_X10_323 zyX10_wrong (m_wrong n _ _ hQ4.2.1 _) zc_10 rfl zk_41 (by decide) (by decide) rfl rfl (Nat.le_of_ble_eq_true rfl) (by decide) (by decide) ?_
            refine z_aload_n C dX10_orders_173 rfl ?_
            refine z_getI C dX10_orders_174 zf_X10_250 zk_41 (by decide) ?_
            refine zt_if_le (tgt := 182) C dX10_orders_177 rfl (by decide) (fun q177 => ?_) (fun q177 => ?_)
            · exact absurd q177 (Int.not_le.mpr zwrp)
            · refine z_iconst (v := (-1)) C dX10_orders_180 (by decide) ?_
              refine zs_qiret C E dX10_orders_181 rfl ?_
              rw [hO1 (fun z => by
                rcases z with e | e | e
                · exact q135 (hSm.w2.mpr e)
                · exact q145 (hSm.w3.mpr e)
                · exact q155 (hSm.w4.mpr e))]
              exact hOf4.wr hT4
        · refine z_iconst (v := 1) C dX10_orders_158 (by decide) ?_
          refine z_goto (tgt := 163) C dX10_orders_159 (by decide) ?_
          refine z_istore_n (lv' := [some (.ref 41), some (.int _)]) C dX10_orders_163 (by decide) rfl ?_
          refine z_iload_n C dX10_orders_164 rfl ?_
          refine z_if_ne (tgt := 173) C dX10_orders_165 (by decide) (fun q165 => ?_) (fun q165 => ?_)
          · refine z_aload_n C dX10_orders_173 rfl ?_
            refine z_getI C dX10_orders_174 zf_X10_250 zk_41 (by decide) ?_
            refine zt_if_le (tgt := 182) C dX10_orders_177 rfl (by decide) (fun q177 => ?_) (fun q177 => ?_)
            · have hk1 : (zkn (zT B s) s (j + 1)) = 204 := hSm.w4.mp q155
              have hord : zordk (zkn (zT B s) s (j + 1)) := Or.inr (Or.inr hk1)
              refine z_aload_n C dX10_orders_182 rfl ?_
              refine zs_getR C dX10_orders_183 zf_X10_101 zk_41 (by decide) (zr_41_34 n) ?_
              refine z_aload_n C dX10_orders_186 rfl ?_
              refine z_getI C dX10_orders_187 zf_X10_342 zk_41 (by decide) ?_
              rw [h35]
              refine z_aload_n C dX10_orders_190 rfl ?_
              refine z_ldc2 C dX10_orders_191 zk_X10_257 ?_
              refine zs_callVi C dX10_orders_194 zm_X10_302 zyX10_isWord (m_isWord _ _ _ _) zc_10 rfl zk_41 (by decide) (by decide) rfl rfl (Nat.le_of_ble_eq_true rfl) (by decide) (by decide) ?_
              refine zb_if_eq (tgt := 204) C dX10_orders_197 (by decide) (fun q197 => ?_) (fun q197 => ?_)
              · refine z_aload_n C dX10_orders_204 rfl ?_
                refine z_ldc2 C dX10_orders_205 zk_X10_259 ?_
                refine zs_callVi C dX10_orders_208 zm_X10_302 zyX10_isWord (m_isWord _ _ _ _) zc_10 rfl zk_41 (by decide) (by decide) rfl rfl (Nat.le_of_ble_eq_true rfl) (by decide) (by decide) ?_
                refine zb_if_eq (tgt := 218) C dX10_orders_211 (by decide) (fun q211 => ?_) (fun q211 => ?_)
                · refine z_iconst (v := 2) C dX10_orders_218 (by decide) ?_
                  refine z_iast C dX10_orders_219 zk_71 (by decide) ?_ ?_
                  · exact vp_in_nI (by omega) (by decide)
                  rw [nI_clamp (show pre.length < 2 ^ 31 by omega)]
                  refine z_eqv (iv1 := zu iv125 71 pre.length (zdc (zkn (zT B s) s (j + 1)))) (by rw [show zdc (zkn (zT B s) s (j + 1)) = 2 by rw [hk1]; rfl]) ?_
                  have hOf5 := hOf4.up 71 pre.length (zdc (zkn (zT B s) s (j + 1))) (Or.inr rfl)
                  refine z_aload_n C dX10_orders_220 rfl ?_
                  refine zs_callVq C dX10_orders_221 zm_X10_332 zyX10_next (m_nxt n _ _ B s (j + 2) (hOf5.st hS).1 hS.2.1 (hOf5.st hS).2.2 (hT4.2.2 (fun z => by rcases hord with e | e | e <;> rw [e] at z <;> exact absurd z (by decide)))) zc_10 rfl zk_41 (by decide) (by decide) rfl rfl (Nat.le_of_ble_eq_true rfl) (by decide) (by decide) (fun v221 iv221 lw221 hq221 => ?_)
                  obtain ⟨rfl, hx6⟩ := hq221
                  have hSm6 := hx6.2.2.2.1
                  have h406 : iv221 41 40 = 0 := (hx6.2.1 40 (by decide) (by decide) (by decide) (by decide)).trans hQ4.2.1
                  have hOf6 := hOf5.mx hx6
                  refine z_aload_n C dX10_orders_224 rfl ?_
                  refine z_getI C dX10_orders_225 zf_X10_238 zk_41 (by decide) ?_
                  refine z_bipush (v := 59) C dX10_orders_228 (by decide) ?_
                  refine z_icmp_eq (tgt := 238) C dX10_orders_230 (by decide) (fun q230 => ?_) (fun q230 => ?_)
                  · refine z_aload_n C dX10_orders_238 rfl ?_
                    refine z_getI C dX10_orders_239 zf_X10_250 zk_41 (by decide) ?_
                    refine zt_if_le (tgt := 247) C dX10_orders_242 rfl (by decide) (fun q242 => ?_) (fun q242 => ?_)
                    · have h59 : (zkn (zT B s) s (j + 2)) = 59 := (hSm6.sg (c := 59) (by decide)).mp q230
                      refine z_aload_n C dX10_orders_247 rfl ?_
                      refine zs_callVq C dX10_orders_248 zm_X10_332 zyX10_next (m_nxt n _ _ B s (j + 3) (hOf6.st hS).1 hS.2.1 (hOf6.st hS).2.2 (hx6.2.2.2.2 (fun z => by rw [h59] at z; exact absurd z (by decide)))) zc_10 rfl zk_41 (by decide) (by decide) rfl rfl (Nat.le_of_ble_eq_true rfl) (by decide) (by decide) (fun v248 iv248 lw248 hq248 => ?_)
                      obtain ⟨rfl, hx7⟩ := hq248
                      have h357 : iv248 41 35 = nI pre.length := (hx7.2.1 35 (by decide) (by decide) (by decide) (by decide)).trans ((hx6.2.1 35 (by decide) (by decide) (by decide) (by decide)).trans h35)
                      refine z_aload_n C dX10_orders_251 rfl ?_
                      refine z_dup C dX10_orders_252 rfl ?_
                      refine z_getI C dX10_orders_253 zf_X10_342 zk_41 (by decide) ?_
                      rw [h357]
                      refine z_iconst (v := 1) C dX10_orders_256 (by decide) ?_
                      refine z_iadd C dX10_orders_257 ?_
                      rw [nI_1]
                      refine z_putI C dX10_orders_258 zf_X10_342 zk_41 (by decide) ?_
                      refine z_goto (tgt := 47) C dX10_orders_261 (by decide) ?_
                      have e35 := zu_ss iv248 41 35 (nI (pre.length + 1))
                      have e41 : ∀ j, j ≠ 35 → j ≠ 42 → j ≠ 44 → j ≠ 45 → j ≠ 46 → zu iv248 41 35 (nI (pre.length + 1)) 41 j = iv125 41 j := fun j a0 a1 a2 a3 a4 => by
                        rw [zu_s, pk_un a0, hx7.2.1 j a1 a2 a3 a4, hx6.2.1 j a1 a2 a3 a4]
                        rfl
                      have ec : ∀ c, c ≠ 41 → c ≠ 71 → zu iv248 41 35 (nI (pre.length + 1)) c = iv125 c := fun c a1 a2 => by rw [zu_n _ _ _ a1, hx7.1 c a1, hx6.1 c a1, zu_n _ _ _ a2]
                      refine z_sub (zdp.sub (by repeat (first | exact True.intro | refine And.intro rfl ?_))) (k _ _ ((hOf6.mx hx7).u41 35 _ (Or.inl rfl)) ((e41 40 (by decide) (by decide) (by decide) (by decide) (by decide)).trans hQ4.2.1) ((e41 41 (by decide) (by decide) (by decide) (by decide) (by decide)).trans hQ4.2.2.1) ((e41 37 (by decide) (by decide) (by decide) (by decide) (by decide)).trans hQ4.2.2.2.1) ((e41 36 (by decide) (by decide) (by decide) (by decide) (by decide)).trans hQ4.2.2.2.2.2.2.2.1) (fun x hx => ?_) (fun x hx => ?_) ?_ ?_ e35 hx7.2.2 hord h59)
                      · rw [ec 68 (by decide) (by decide), ec 69 (by decide) (by decide)]; exact hQ4.1.2.2 x hx
                      · rw [ec 68 (by decide) (by decide), ec 69 (by decide) (by decide)]; exact hQ4.2.2.2.2.2.2.2.2 x hx
                      · rw [ec 70 (by decide) (by decide)]; exact hQ4.1.1 70 (by decide) (by decide) (by decide) (by decide)
                      · rw [zu_n _ _ _ (by decide), hx7.1 71 (by decide), hx6.1 71 (by decide), zu_s, hQ4.1.1 71 (by decide) (by decide) (by decide) (by decide)]
                    · exact absurd (by rw [h406]; decide) q242
                  · refine z_aload_n C dX10_orders_233 rfl ?_
                    refine z_iconst (v := 2) C dX10_orders_234 (by decide) ?_
                    refine zs_callVv C dX10_orders_235 zm_X10_323 zyX10_wrong (m_wrong n _ _ h406 _) zc_10 rfl zk_41 (by decide) (by decide) rfl rfl (Nat.le_of_ble_eq_true rfl) (by decide) (by decide) ?_
                    refine z_aload_n C dX10_orders_238 rfl ?_
                    refine z_getI C dX10_orders_239 zf_X10_250 zk_41 (by decide) ?_
                    refine zt_if_le (tgt := 247) C dX10_orders_242 rfl (by decide) (fun q242 => ?_) (fun q242 => ?_)
                    · exact absurd q242 (Int.not_le.mpr zwrp)
                    · refine z_iconst (v := (-1)) C dX10_orders_245 (by decide) ?_
                      refine zs_qiret C E dX10_orders_246 rfl ?_
                      rw [hO2 hord (fun z => q230 ((hSm6.sg (c := 59) (by decide)).mpr z))]
                      exact hOf6.wr hx6.2.2
                · exact absurd q211 q145
              · exact absurd q197 q135
            · exact absurd (by rw [hQ4.2.1]; decide) q177
          · exact absurd q165 (by decide)
  · exact absurd (by rw [hQ3.2.1]; decide) q119

set_option maxHeartbeats 1000000 in
set_option maxRecDepth 4000 in
theorem lm_ord (n : Nat) {iv0 : zI} {B : Nat → Int32} {s : Nat} (hS : zSt iv0 B s) (O : zFa ⊕ zLi) {X : zX} (C : zC X cX10_orders 2 RX10 (some .int) "orders" 5 0 0) (E : zEnd X (91 + 3 * n) 0 0 (zQ n (fun vr iv2 lw2 => zMo iv0 (zpl (zT B s) s) O vr iv2))) : ∀ (N : Nat) (pre : zLi) (i v : Nat) (o : zFa ⊕ zLi) (iv : zI) (lw : zG), zLns (zkn (zT B s) s) N pre.length i v o → zHv B s pre i v → zOh iv0 B s pre i v iv lw → O = zcat pre o → zJs X n 2 47 [some (.ref 41), none] [] iv lw := by
  intro N
  induction N with
  | zero =>
    intro pre i v o iv lw hL
    exact absurd hL (fun z => z)
  | succ N ih =>
    intro pre i v o iv lw hL hH hh hO
    have hTT := hh.2.2.2.2.2.2
    have hSm := hTT.2.1
    have hDa := hh.2.2.2.2.2.1
    have hp10 := hH.2.2.2
    refine z_aload_n C dX10_orders_47 rfl ?_
    refine z_getI C dX10_orders_48 zf_X10_250 zk_41 (by decide) ?_
    refine z_if_ne (tgt := 264) C dX10_orders_51 (by decide) (fun q51 => ?_) (fun q51 => ?_)
    · exact absurd hh.2.1 q51
    · refine z_aload_n C dX10_orders_54 rfl ?_
      refine z_getI C dX10_orders_55 zf_X10_238 zk_41 (by decide) ?_
      refine z_if_eq (tgt := 264) C dX10_orders_58 (by decide) (fun q58 => ?_) (fun q58 => ?_)
      · have hk1 : (zkn (zT B s) s i) = 1 := hSm.s0.mp q58
        have ho : o = .inr [] := by
          rcases hL with z | z | z
          · exact z.2
          · exact absurd hk1 z.1
          · rw [hk1] at z; exact absurd z.1 (by decide)
        exact lm_o264 n hS O pre i v iv lw hh (hH.len hS.2.1) hp10 (by rw [hO, ho]; show Sum.inr (pre ++ []) = _; rw [List.append_nil]) C E
      · refine z_aload_n C dX10_orders_61 rfl ?_
        refine z_ldc2 C dX10_orders_62 zk_X10_253 ?_
        refine zs_callVi C dX10_orders_65 zm_X10_302 zyX10_isWord (m_isWord _ _ _ _) zc_10 rfl zk_41 (by decide) (by decide) rfl rfl (Nat.le_of_ble_eq_true rfl) (by decide) (by decide) ?_
        refine zb_if_eq (tgt := 80) C dX10_orders_68 (by decide) (fun q68 => ?_) (fun q68 => ?_)
        · refine z_aload_n C dX10_orders_80 rfl ?_
          refine z_iconst (v := 2) C dX10_orders_81 (by decide) ?_
          refine zs_callVv C dX10_orders_82 zm_X10_323 zyX10_wrong (m_wrong n _ _ hh.2.1 _) zc_10 rfl zk_41 (by decide) (by decide) rfl rfl (Nat.le_of_ble_eq_true rfl) (by decide) (by decide) ?_
          refine z_aload_n C dX10_orders_85 rfl ?_
          refine z_getI C dX10_orders_86 zf_X10_250 zk_41 (by decide) ?_
          refine zt_if_le (tgt := 94) C dX10_orders_89 rfl (by decide) (fun q89 => ?_) (fun q89 => ?_)
          · exact absurd q89 (Int.not_le.mpr zwrp)
          · refine z_iconst (v := (-1)) C dX10_orders_92 (by decide) ?_
            refine zs_qiret C E dX10_orders_93 rfl ?_
            have hw : ¬ (zkn (zT B s) s i) = 200 ∨ pre.length = 10 := Or.inl (fun z => q68 (hSm.w0.mpr z))
            have hn1 : ¬ (zkn (zT B s) s i) = 1 := fun z => q58 (hSm.s0.mpr z)
            have ho : o = .inl (zbad (zkn (zT B s) s i) i) := by
              rcases hL with z | z | z
              · exact absurd z.1 hn1
              · exact z.2.2
              · exact absurd hw (fun q => q.elim (fun q => q z.1) (fun q => by have := z.2.1; omega))
            rw [hO, ho]
            exact hh.1.wr hTT
        · refine z_aload_n C dX10_orders_71 rfl ?_
          refine z_getI C dX10_orders_72 zf_X10_342 zk_41 (by decide) ?_
          refine z_bipush (v := 10) C dX10_orders_75 (by decide) ?_
          refine z_icmp_ne (tgt := 85) C dX10_orders_77 (by decide) (fun q77 => ?_) (fun q77 => ?_)
          · refine z_aload_n C dX10_orders_85 rfl ?_
            refine z_getI C dX10_orders_86 zf_X10_250 zk_41 (by decide) ?_
            refine zt_if_le (tgt := 94) C dX10_orders_89 rfl (by decide) (fun q89 => ?_) (fun q89 => ?_)
            · have hk : (zkn (zT B s) s i) = 200 := hSm.w0.mp q68
              have hl : pre.length < 10 := by
                have : ¬ pre.length = 10 := fun z => q77 (by rw [hDa.1, z]; rfl)
                omega
              have hC := (hL.resolve_left (fun z => by rw [hk] at z; exact absurd z.1 (by decide))).resolve_left (fun z => z.2.1.elim (fun q => q hk) (fun q => by omega))
              refine z_aload_n C dX10_orders_94 rfl ?_
              refine zs_getR C dX10_orders_95 zf_X10_98 zk_41 (by decide) (zr_41_33 n) ?_
              refine z_aload_n C dX10_orders_98 rfl ?_
              refine z_getI C dX10_orders_99 zf_X10_342 zk_41 (by decide) ?_
              rw [hDa.1]
              refine z_aload_n C dX10_orders_102 rfl ?_
              refine z_getI C dX10_orders_103 zf_X10_289 zk_41 (by decide) ?_
              rw [hh.2.2.2.2.1]
              refine z_iast C dX10_orders_106 zk_70 (by decide) ?_ ?_
              · exact vp_in_nI (by omega) (by decide)
              rw [nI_clamp (show pre.length < 2 ^ 31 by omega)]
              have hOf1 := hh.1.up 70 pre.length (nI (zfl pre).length) (Or.inl rfl)
              refine z_aload_n C dX10_orders_107 rfl ?_
              refine zs_callVq C dX10_orders_108 zm_X10_332 zyX10_next (m_nxt n _ _ B s (i + 1) (hOf1.st hS).1 hS.2.1 (hOf1.st hS).2.2 (hTT.2.2 (fun z => by rw [hk] at z; exact absurd z (by decide)))) zc_10 rfl zk_41 (by decide) (by decide) rfl rfl (Nat.le_of_ble_eq_true rfl) (by decide) (by decide) (fun v108 iv108 lw108 hq108 => ?_)
              obtain ⟨rfl, hx⟩ := hq108
              obtain ⟨n0, hJ⟩ := hH.jv hk
              have hOf2 := hOf1.mx hx
              have e41 : ∀ j, j ≠ 42 → j ≠ 44 → j ≠ 45 → j ≠ 46 → iv108 41 j = iv 41 j := fun j a1 a2 a3 a4 => (hx.2.1 j a1 a2 a3 a4).trans rfl
              have e40 := (e41 40 (by decide) (by decide) (by decide) (by decide)).trans hh.2.1
              have e411 := (e41 41 (by decide) (by decide) (by decide) (by decide)).trans hh.2.2.1
              have e37 := (e41 37 (by decide) (by decide) (by decide) (by decide)).trans hh.2.2.2.1
              have e36 := (e41 36 (by decide) (by decide) (by decide) (by decide)).trans hh.2.2.2.2.1
              have e35 := (e41 35 (by decide) (by decide) (by decide) (by decide)).trans hDa.1
              rcases hC.2.2 with ⟨f, hf, ho⟩ | ⟨j, v2, P, o2, hn, hr2, ho⟩
              · rw [ho] at hO
                rcases hf with ⟨c1, ⟨m, hr⟩, hns, hst⟩ | ⟨j, t, P0, v2, ⟨m, hr⟩, hsp, hor⟩
                · exact lm_o111a n hS O pre i v n0 iv108 lw108 hOf2 e40 e411 e37 e36 hx.2.2 hJ m c1 f hr hns hst hO C E
                · refine lm_o111b n hS O pre i v n0 iv108 lw108 hOf2 e40 e411 e37 e36 hx.2.2 hJ m hl e35 j t P0 v2 hr hsp (fun z => ?_) (fun z z2 => ?_) C E (fun iv8 lw8 _ _ _ _ _ _ _ _ _ _ _ z1 z2 => ?_)
                  · rcases hor with q | q
                    · rw [hO, q.2]; rfl
                    · exact absurd q.1 z
                  · rcases hor with q | q
                    · exact absurd z q.1
                    · rw [hO, q.2.2]; rfl
                  · exfalso
                    rcases hor with q | q
                    · exact q.1 z1
                    · exact q.2.1 z2
              · obtain ⟨t, P0, ⟨m, hr⟩, hsp, hP, hor, h59⟩ := hn
                refine lm_o111b n hS O pre i v n0 iv108 lw108 hOf2 e40 e411 e37 e36 hx.2.2 hJ m hl e35 j t P0 v2 hr hsp (fun z => absurd hor z) (fun _ z => absurd h59 z) C E (fun iv8 lw8 f1 f2 f3 f4 f5 f6 f7 f8 f9 f10 f11 z1 z2 => ?_)
                refine ih (pre ++ [(zflu t P0, zkn (zT B s) s (j + 1))]) (j + 3) v2 o2 iv8 lw8 (by rw [List.length_append]; exact hr2) (zHv.nx hl hJ hr hsp z1 z2) ⟨f1, f2, f3, f4, ?_, hDa.app (fun x hx2 => ?_) f7 ?_ ?_ f10, f11⟩ (by rw [hO, ho, hP, zcat_con])
                · rw [f5, zfl_app, zfl_one, List.length_append, List.length_reverse]
                · rw [(f6 x hx2).1, (f6 x hx2).2, hx.1 68 (by decide), hx.1 69 (by decide)]
                  exact ⟨rfl, rfl⟩
                · rw [f8, hx.1 70 (by decide), zu_s]
                · rw [f9, hx.1 71 (by decide)]; rfl
            · exact absurd (by rw [hh.2.1]; decide) q89
          · refine z_aload_n C dX10_orders_80 rfl ?_
            refine z_iconst (v := 2) C dX10_orders_81 (by decide) ?_
            refine zs_callVv C dX10_orders_82 zm_X10_323 zyX10_wrong (m_wrong n _ _ hh.2.1 _) zc_10 rfl zk_41 (by decide) (by decide) rfl rfl (Nat.le_of_ble_eq_true rfl) (by decide) (by decide) ?_
            refine z_aload_n C dX10_orders_85 rfl ?_
            refine z_getI C dX10_orders_86 zf_X10_250 zk_41 (by decide) ?_
            refine zt_if_le (tgt := 94) C dX10_orders_89 rfl (by decide) (fun q89 => ?_) (fun q89 => ?_)
            · exact absurd q89 (Int.not_le.mpr zwrp)
            · refine z_iconst (v := (-1)) C dX10_orders_92 (by decide) ?_
              refine zs_qiret C E dX10_orders_93 rfl ?_
              have hw : ¬ (zkn (zT B s) s i) = 200 ∨ pre.length = 10 := Or.inr (nI_inj4 (b := 10) (by omega) (by decide) (hDa.1.symm.trans q77))
              have hn1 : ¬ (zkn (zT B s) s i) = 1 := fun z => q58 (hSm.s0.mpr z)
              have ho : o = .inl (zbad (zkn (zT B s) s i) i) := by
                rcases hL with z | z | z
                · exact absurd z.1 hn1
                · exact z.2.2
                · exact absurd hw (fun q => q.elim (fun q => q z.1) (fun q => by have := z.2.1; omega))
              rw [hO, ho]
              exact hh.1.wr hTT

def zoe (iv : zI) (s : Nat) : zI := zu (zu (zu (zu (zu (zu (zu (zu iv 41 43 (nI s)) 41 39 0) 41 42 0) 41 40 0) 41 41 (-1)) 41 35 0) 41 36 0) 41 37 0
theorem zoe_n (iv : zI) (s : Nat) {q : Nat} (h : q ≠ 41) : zoe iv s q = iv q := by
  unfold zoe
  simp only [zu_n _ _ _ h]
theorem zoe_j (iv : zI) (s : Nat) {j : Nat} (h1 : j ≠ 43) (h2 : j ≠ 39) (h3 : j ≠ 42) (h4 : j ≠ 40) (h5 : j ≠ 41) (h6 : j ≠ 35) (h7 : j ≠ 36) (h8 : j ≠ 37) : zoe iv s 41 j = iv 41 j := by
  unfold zoe
  simp only [zu_s, pk_un h1, pk_un h2, pk_un h3, pk_un h4, pk_un h5, pk_un h6, pk_un h7, pk_un h8]

set_option maxRecDepth 4000 in
theorem m_orders (n : Nat) (iv : zI) (lw : zG) (B : Nat → Int32) (s : Nat) (hs : iv 41 39 = nI s) (hs8 : s ≤ 800) (hB : zBU B (iv 72)) (N : Nat) (O : zFa ⊕ zLi) (hL : zLns (zkn (zT B s) s) N 0 0 0 O) : zMs yX10_orders cX10_orders 2 (some .int) 5 [.ref 41] n iv lw (fun vr iv2 lw2 => zMo (zoe iv s) (zpl (zT B s) s) O vr iv2) := by
  refine zM.of (by decide) (Nat.le_of_ble_eq_true rfl) (fun X C E => ?_)
  change zJs X n 2 0 [some (.ref 41), none] [] iv lw
  refine z_aload_n C dX10_orders_0 rfl ?_
  refine z_aload_n C dX10_orders_1 rfl ?_
  refine z_getI C dX10_orders_2 zf_X10_212 zk_41 (by decide) ?_
  rw [hs]
  refine z_putI C dX10_orders_5 zf_X10_222 zk_41 (by decide) ?_
  refine z_aload_n C dX10_orders_8 rfl ?_
  refine z_iconst (v := 0) C dX10_orders_9 (by decide) ?_
  refine z_putI C dX10_orders_10 zf_X10_212 zk_41 (by decide) ?_
  refine z_aload_n C dX10_orders_13 rfl ?_
  refine z_iconst (v := 0) C dX10_orders_14 (by decide) ?_
  refine z_putI C dX10_orders_15 zf_X10_219 zk_41 (by decide) ?_
  refine z_aload_n C dX10_orders_18 rfl ?_
  refine z_iconst (v := 0) C dX10_orders_19 (by decide) ?_
  refine z_putI C dX10_orders_20 zf_X10_250 zk_41 (by decide) ?_
  refine z_aload_n C dX10_orders_23 rfl ?_
  refine z_iconst (v := (-1)) C dX10_orders_24 (by decide) ?_
  refine z_putI C dX10_orders_25 zf_X10_107 zk_41 (by decide) ?_
  refine z_aload_n C dX10_orders_28 rfl ?_
  refine z_iconst (v := 0) C dX10_orders_29 (by decide) ?_
  refine z_putI C dX10_orders_30 zf_X10_342 zk_41 (by decide) ?_
  refine z_aload_n C dX10_orders_33 rfl ?_
  refine z_iconst (v := 0) C dX10_orders_34 (by decide) ?_
  refine z_putI C dX10_orders_35 zf_X10_289 zk_41 (by decide) ?_
  refine z_aload_n C dX10_orders_38 rfl ?_
  refine z_iconst (v := 0) C dX10_orders_39 (by decide) ?_
  refine z_putI C dX10_orders_40 zf_X10_329 zk_41 (by decide) ?_
  change zJs X n 2 43 [some (.ref 41), none] [] (zoe iv s) lw
  refine z_aload_n C dX10_orders_43 rfl ?_
  refine zs_callVq C dX10_orders_44 zm_X10_332 zyX10_next (m_nxt n _ _ B s 0 rfl hs8 hB rfl) zc_10 rfl zk_41 (by decide) (by decide) rfl rfl (Nat.le_of_ble_eq_true rfl) (by decide) (by decide) (fun v44 iv44 lw44 hq44 => ?_)
  obtain ⟨rfl, hx⟩ := hq44
  have e41 : ∀ j, j ≠ 42 → j ≠ 44 → j ≠ 45 → j ≠ 46 → iv44 41 j = zoe iv s 41 j := hx.2.1
  exact lm_ord n (iv0 := zoe iv s) ⟨rfl, hs8, hB⟩ O (zC_le (by decide) C) E N [] 0 0 O iv44 lw44 hL ⟨by decide, ⟨0, by decide, Nat.zero_le _⟩, fun j hj => absurd hj (by omega), by decide⟩ ⟨(zOf.rf _).mx hx, e41 40 (by decide) (by decide) (by decide) (by decide), e41 41 (by decide) (by decide) (by decide) (by decide), e41 37 (by decide) (by decide) (by decide) (by decide), e41 36 (by decide) (by decide) (by decide) (by decide), ⟨e41 35 (by decide) (by decide) (by decide) (by decide), fun j hj => absurd hj (by simp [zfl]), fun l hl => absurd hl (by simp)⟩, hx.2.2⟩ (by cases O <;> rfl)
