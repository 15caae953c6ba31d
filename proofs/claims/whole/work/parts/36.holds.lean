/-! the reference's orders -/
def zmjoin (st l r : Int32) : Int32 := if st = 41 then zb (¬ l = 0 ∨ ¬ r = 0) else if st = 42 then zb (¬ l = 0 ∧ ¬ r = 0) else if st = 43 then zb (l = r) else if st = 44 then zb (l.toInt < r.toInt) else if st = 45 then zb (r.toInt < l.toInt) else if st = 46 then l + r else l - r
def zmopd (names : Nat → Int32) (st nu : Int32) : Int32 := if st = 0 then nu else names (st - 20).toNatClampNeg
def zmit (names : Nat → Int32) (st nu : Int32) (s : List Int32) : List Int32 :=
  if st.toInt < 40 then zmopd names st nu :: s
  else if st = 40 then (match s with
    | x :: r => (if x = 0 then 1 else 0) :: r
    | [] => [])
  else (match s with
    | y :: x :: r => zmjoin st x y :: r
    | s => s)
def zmev (names S N : Nat → Int32) : Nat → Nat → List Int32 → List Int32
  | _, 0, s => s
  | i, k + 1, s => zmev names S N (i + 1) k (zmit names (S i) (N i) s)
/-- no pile falls short, none grows over 400 -/
def zmwf (S : Nat → Int32) : Nat → Nat → Nat → Prop
  | _, 0, h => 1 ≤ h
  | i, k + 1, h => ((S i).toInt < 40 ∧ (S i = 0 ∨ (20 ≤ (S i).toInt ∧ (S i).toInt < 30)) ∧ h < 400 ∧ zmwf S (i + 1) k (h + 1)) ∨ (S i = 40 ∧ 1 ≤ h ∧ zmwf S (i + 1) k h) ∨ (40 < (S i).toInt ∧ 2 ≤ h ∧ zmwf S (i + 1) k (h - 1))
theorem zu74 {cur iv : zI} {k : Nat} {v : Int32} (h : ∀ c, c ≠ 74 → cur c = iv c) : ∀ c, c ≠ 74 → zu cur 74 k v c = iv c := fun c hc => by rw [zu_n _ _ _ hc]; exact h c hc
theorem z_drop456 {a b c d e f g : Option Value} : ∀ (k : Nat) (v : Value), [a, b, c, d, none, none, none][k]? = some (some v) → [a, b, c, d, e, f, g][k]? = some (some v) := by
  intro k v hv
  match k, hv with
  | 0, hv => exact hv
  | 1, hv => exact hv
  | 2, hv => exact hv
  | 3, hv => exact hv
  | 4, hv => simp at hv
  | 5, hv => simp at hv
  | 6, hv => simp at hv
  | k + 7, hv => simp at hv

set_option maxHeartbeats 4000000 in
set_option maxRecDepth 4000 in
theorem lm_holds (n : Nat) (iv : zI) (lw : zG) (l f e : Nat) (hl : l < 10) (hf : iv 66 l = nI f) (he : iv 66 (l + 1) = nI e) (he2 : e ≤ 500) (r0 : Int32) {X : zX} (C : zC X cX10_holds 7 RX10 (some .boolean) "holds" 0 0 0) (E : zEnd X (91 + 3 * n) 0 0 (zQ n (fun v iv2 lw2 => v = some (.int r0) ∧ lw2 = lw ∧ ∀ c, c ≠ 74 → iv2 c = iv c))) : ∀ (k : Nat) (i : Nat) (s : List Int32) (cur : zI), i + k = e → (∀ c, c ≠ 74 → cur c = iv c) → zstk (cur 74) s → s.length ≤ 400 → zmwf (iv 64) i k s.length → zb (¬ zbot (zmev (iv 75) (iv 64) (iv 65) i k s) = 0) = r0 → zJs X n 7 9 [some (.ref 41), some (.int (nI l)), some (.int (nI s.length)), some (.int (nI i)), none, none, none] [] cur lw := by
  intro k
  induction k with
  | zero =>
    intro i s cur hk ho hst hsl hw hr
    refine z_iload_n C dX10_holds_9 rfl ?_
    refine z_aload_n C dX10_holds_10 rfl ?_
    refine zs_getR C dX10_holds_11 zf_X10_86 zk_41 (by decide) (zr_41_28 n) ?_
    refine z_iload_n C dX10_holds_14 rfl ?_
    refine z_iconst (v := 1) C dX10_holds_15 (by decide) ?_
    refine z_iadd C dX10_holds_16 ?_
    refine z_iald C dX10_holds_17 zk_66 (by decide) ?_ ?_
    · rw [nI_1]
      exact vp_in_nI (by omega) (by decide)
    refine zt_icmp_ge (tgt := 324) C dX10_holds_18 (nI_toInt (by omega)) (zt_nI (show _ = nI e by rw [nI_1, nI_clamp (by omega), ho 66 (by decide)]; exact he) (by omega)) (by decide) (fun q18 => ?_) (fun q18 => ?_)
    · refine z_aload_n C dX10_holds_324 rfl ?_
      refine zs_getR C dX10_holds_325 zf_X10_113 zk_41 (by decide) (zr_41_51 n) ?_
      refine z_iconst (v := 0) C dX10_holds_328 (by decide) ?_
      refine z_iald C dX10_holds_329 zk_74 (by decide) ?_ ?_
      · exact vp_in_iff.mpr (by decide)
      refine z_if_eq (tgt := 337) C dX10_holds_330 (by decide) (fun q330 => ?_) (fun q330 => ?_)
      · refine z_iconst (v := 0) C dX10_holds_337 (by decide) ?_
        refine zs_qiret C E dX10_holds_338 rfl ?_
        refine ⟨?_, rfl, ho⟩
        have hr2 : zb (¬ zbot s = 0) = r0 := hr
        have hb0 : cur 74 (Int32.toNatClampNeg 0) = zbot s := zstk_b hst (show 1 ≤ s.length from hw)
        rw [hb0] at q330
        rw [← hr2, zb_f (fun z => z q330)]
      · refine z_iconst (v := 1) C dX10_holds_333 (by decide) ?_
        refine z_goto (tgt := 338) C dX10_holds_334 (by decide) ?_
        refine zs_qiret C E dX10_holds_338 rfl ?_
        refine ⟨?_, rfl, ho⟩
        have hr2 : zb (¬ zbot s = 0) = r0 := hr
        have hb0 : cur 74 (Int32.toNatClampNeg 0) = zbot s := zstk_b hst (show 1 ≤ s.length from hw)
        rw [hb0] at q330
        rw [← hr2, zb_t q330]
    · exfalso; omega
  | succ k ih =>
    intro i s cur hk ho hst hsl hw hr
    refine z_iload_n C dX10_holds_9 rfl ?_
    refine z_aload_n C dX10_holds_10 rfl ?_
    refine zs_getR C dX10_holds_11 zf_X10_86 zk_41 (by decide) (zr_41_28 n) ?_
    refine z_iload_n C dX10_holds_14 rfl ?_
    refine z_iconst (v := 1) C dX10_holds_15 (by decide) ?_
    refine z_iadd C dX10_holds_16 ?_
    refine z_iald C dX10_holds_17 zk_66 (by decide) ?_ ?_
    · rw [nI_1]
      exact vp_in_nI (by omega) (by decide)
    refine zt_icmp_ge (tgt := 324) C dX10_holds_18 (nI_toInt (by omega)) (zt_nI (show _ = nI e by rw [nI_1, nI_clamp (by omega), ho 66 (by decide)]; exact he) (by omega)) (by decide) (fun q18 => ?_) (fun q18 => ?_)
    · exfalso; omega
    · refine z_aload_n C dX10_holds_21 rfl ?_
      refine zs_getR C dX10_holds_22 zf_X10_80 zk_41 (by decide) (zr_41_26 n) ?_
      refine z_iload_n C dX10_holds_25 rfl ?_
      refine z_iald C dX10_holds_26 zk_64 (by decide) ?_ ?_
      · exact vp_in_nI (by omega) (by decide)
      refine z_topi (fun kd ekd => ?_)
      refine z_istore (lv' := [some (.ref 41), some (.int _), some (.int _), some (.int _), some (.int kd), none, none]) C dX10_holds_27 (by decide) rfl ?_
      rw [nI_clamp (by omega), ho 64 (by decide)] at ekd
      have hw2 : ((kd).toInt < 40 ∧ (kd = 0 ∨ (20 ≤ (kd).toInt ∧ (kd).toInt < 30)) ∧ s.length < 400 ∧ zmwf (iv 64) (i + 1) k (s.length + 1)) ∨ (kd = 40 ∧ 1 ≤ s.length ∧ zmwf (iv 64) (i + 1) k s.length) ∨ (40 < (kd).toInt ∧ 2 ≤ s.length ∧ zmwf (iv 64) (i + 1) k (s.length - 1)) := by
        have h9 := hw
        rw [zmwf, ← ekd] at h9
        exact h9
      refine z_iload C dX10_holds_29 rfl ?_
      refine z_bipush (v := 40) C dX10_holds_31 (by decide) ?_
      refine zt_icmp_ge (tgt := 72) C dX10_holds_33 rfl (show (40 : Int32).toInt = 40 by decide) (by decide) (fun q33 => ?_) (fun q33 => ?_)
      · refine z_iload C dX10_holds_72 rfl ?_
        refine z_bipush (v := 40) C dX10_holds_74 (by decide) ?_
        refine z_icmp_ne (tgt := 106) C dX10_holds_76 (by decide) (fun q76 => ?_) (fun q76 => ?_)
        · obtain ⟨hw3, hw5, hw6⟩ : 40 < (kd).toInt ∧ 2 ≤ s.length ∧ zmwf (iv 64) (i + 1) k (s.length - 1) := by
            rcases hw2 with h | h | h
            · exfalso; omega
            · exact absurd h.1 q76
            · exact h
          obtain ⟨y, x, r, rfl⟩ : ∃ y x r, s = y :: x :: r := by
            match s, hw5 with
            | [], q => simp at q
            | [x], q => simp at q
            | y :: x :: r, _ => exact ⟨y, x, r, rfl⟩
          have hl1 : nI (y :: x :: r).length + (-1) = nI (r.length + 1) := pk_m1 _
          have hl2 : nI (r.length + 1) - 1 = nI r.length := nI_pred _
          have hx : cur 74 r.length = x := hst.2.1
          have hy : cur 74 (r.length + 1) = y := hst.1
          refine z_iinc (y := (-1)) (lv' := [some (.ref 41), some (.int _), some (.int _), some (.int _), some (.int kd), none, none]) C dX10_holds_106 rfl (by decide) (by decide) rfl ?_
          rw [hl1]
          refine z_aload_n C dX10_holds_109 rfl ?_
          refine zs_getR C dX10_holds_110 zf_X10_113 zk_41 (by decide) (zr_41_51 n) ?_
          refine z_iload_n C dX10_holds_113 rfl ?_
          refine z_iconst (v := 1) C dX10_holds_114 (by decide) ?_
          refine z_isub C dX10_holds_115 ?_
          rw [hl2]
          refine z_iald C dX10_holds_116 zk_74 (by decide) ?_ ?_
          · exact vp_in_nI (by simp at hsl; omega) (by decide)
          refine z_istore (lv' := [some (.ref 41), some (.int _), some (.int _), some (.int _), some (.int kd), some (.int _), none]) C dX10_holds_117 (by decide) rfl ?_
          rw [nI_clamp (show r.length < 2 ^ 31 by simp at hsl; omega), hx]
          refine z_aload_n C dX10_holds_119 rfl ?_
          refine zs_getR C dX10_holds_120 zf_X10_113 zk_41 (by decide) (zr_41_51 n) ?_
          refine z_iload_n C dX10_holds_123 rfl ?_
          refine z_iald C dX10_holds_124 zk_74 (by decide) ?_ ?_
          · exact vp_in_nI (by simp at hsl; omega) (by decide)
          refine z_istore (lv' := [some (.ref 41), some (.int _), some (.int _), some (.int _), some (.int kd), some (.int _), some (.int _)]) C dX10_holds_125 (by decide) rfl ?_
          rw [nI_clamp (show r.length + 1 < 2 ^ 31 by simp at hsl; omega), hy]
          refine z_iload C dX10_holds_127 rfl ?_
          by_cases qs129_41 : kd = 41
          · refine z_tabIn (tgt := 168) C dX10_holds_129 (by rw [qs129_41]; decide) (by rw [qs129_41]; decide) (by rw [qs129_41]; rfl) (by decide) ?_
            refine z_aload_n C dX10_holds_168 rfl ?_
            refine zs_getR C dX10_holds_169 zf_X10_113 zk_41 (by decide) (zr_41_51 n) ?_
            refine z_iload_n C dX10_holds_172 rfl ?_
            refine z_iconst (v := 1) C dX10_holds_173 (by decide) ?_
            refine z_isub C dX10_holds_174 ?_
            rw [hl2]
            refine z_iload C dX10_holds_175 rfl ?_
            refine z_if_ne (tgt := 185) C dX10_holds_177 (by decide) (fun q177 => ?_) (fun q177 => ?_)
            · refine z_iconst (v := 1) C dX10_holds_185 (by decide) ?_
              refine z_goto (tgt := 190) C dX10_holds_186 (by decide) ?_
              refine z_iast C dX10_holds_190 zk_74 (by decide) ?_ ?_
              · exact vp_in_nI (by simp at hsl; omega) (by decide)
              refine z_goto (tgt := 318) C dX10_holds_191 (by decide) ?_
              refine z_iinc (y := 1) (lv' := [some (.ref 41), some (.int _), some (.int _), some (.int _), some (.int kd), some (.int _), some (.int _)]) C dX10_holds_318 rfl (by decide) (by decide) rfl ?_
              refine z_goto (tgt := 9) C dX10_holds_321 (by decide) ?_
              refine z_sub z_drop456 ?_
              rw [nI_1 i]
              rw [nI_clamp (show r.length < 2 ^ 31 by simp at hsl; omega)]
              refine ih (i + 1) (zmjoin kd x y :: r) _ (by omega) (zu74 ho) ?_ (by simp at hsl ⊢; omega) hw6 ?_
              · rw [zu_s]
                have ev : zmjoin kd x y = 1 := by
                  unfold zmjoin
                  rw [if_pos qs129_41]
                  exact zb_t (Or.inl q177)
                rw [ev]
                exact zstk_p _ hst.2.2
              · rw [← hr, zmev, ← ekd]
                have es : zmit (iv 75) kd (iv 65 i) (y :: x :: r) = zmjoin kd x y :: r := by
                  unfold zmit
                  rw [if_neg (show ¬ kd.toInt < 40 by omega), if_neg q76]
                rw [es]
            · refine z_iload C dX10_holds_180 rfl ?_
              refine z_if_eq (tgt := 189) C dX10_holds_182 (by decide) (fun q182 => ?_) (fun q182 => ?_)
              · refine z_iconst (v := 0) C dX10_holds_189 (by decide) ?_
                refine z_iast C dX10_holds_190 zk_74 (by decide) ?_ ?_
                · exact vp_in_nI (by simp at hsl; omega) (by decide)
                refine z_goto (tgt := 318) C dX10_holds_191 (by decide) ?_
                refine z_iinc (y := 1) (lv' := [some (.ref 41), some (.int _), some (.int _), some (.int _), some (.int kd), some (.int _), some (.int _)]) C dX10_holds_318 rfl (by decide) (by decide) rfl ?_
                refine z_goto (tgt := 9) C dX10_holds_321 (by decide) ?_
                refine z_sub z_drop456 ?_
                rw [nI_1 i]
                rw [nI_clamp (show r.length < 2 ^ 31 by simp at hsl; omega)]
                refine ih (i + 1) (zmjoin kd x y :: r) _ (by omega) (zu74 ho) ?_ (by simp at hsl ⊢; omega) hw6 ?_
                · rw [zu_s]
                  have ev : zmjoin kd x y = 0 := by
                    unfold zmjoin
                    rw [if_pos qs129_41]
                    exact zb_f (fun z => by
                      rcases z with z | z
                      · exact z q177
                      · exact z q182)
                  rw [ev]
                  exact zstk_p _ hst.2.2
                · rw [← hr, zmev, ← ekd]
                  have es : zmit (iv 75) kd (iv 65 i) (y :: x :: r) = zmjoin kd x y :: r := by
                    unfold zmit
                    rw [if_neg (show ¬ kd.toInt < 40 by omega), if_neg q76]
                  rw [es]
              · refine z_iconst (v := 1) C dX10_holds_185 (by decide) ?_
                refine z_goto (tgt := 190) C dX10_holds_186 (by decide) ?_
                refine z_iast C dX10_holds_190 zk_74 (by decide) ?_ ?_
                · exact vp_in_nI (by simp at hsl; omega) (by decide)
                refine z_goto (tgt := 318) C dX10_holds_191 (by decide) ?_
                refine z_iinc (y := 1) (lv' := [some (.ref 41), some (.int _), some (.int _), some (.int _), some (.int kd), some (.int _), some (.int _)]) C dX10_holds_318 rfl (by decide) (by decide) rfl ?_
                refine z_goto (tgt := 9) C dX10_holds_321 (by decide) ?_
                refine z_sub z_drop456 ?_
                rw [nI_1 i]
                rw [nI_clamp (show r.length < 2 ^ 31 by simp at hsl; omega)]
                refine ih (i + 1) (zmjoin kd x y :: r) _ (by omega) (zu74 ho) ?_ (by simp at hsl ⊢; omega) hw6 ?_
                · rw [zu_s]
                  have ev : zmjoin kd x y = 1 := by
                    unfold zmjoin
                    rw [if_pos qs129_41]
                    exact zb_t (Or.inr q182)
                  rw [ev]
                  exact zstk_p _ hst.2.2
                · rw [← hr, zmev, ← ekd]
                  have es : zmit (iv 75) kd (iv 65 i) (y :: x :: r) = zmjoin kd x y :: r := by
                    unfold zmit
                    rw [if_neg (show ¬ kd.toInt < 40 by omega), if_neg q76]
                  rw [es]
          by_cases qs129_42 : kd = 42
          · refine z_tabIn (tgt := 194) C dX10_holds_129 (by rw [qs129_42]; decide) (by rw [qs129_42]; decide) (by rw [qs129_42]; rfl) (by decide) ?_
            refine z_aload_n C dX10_holds_194 rfl ?_
            refine zs_getR C dX10_holds_195 zf_X10_113 zk_41 (by decide) (zr_41_51 n) ?_
            refine z_iload_n C dX10_holds_198 rfl ?_
            refine z_iconst (v := 1) C dX10_holds_199 (by decide) ?_
            refine z_isub C dX10_holds_200 ?_
            rw [hl2]
            refine z_iload C dX10_holds_201 rfl ?_
            refine z_if_eq (tgt := 215) C dX10_holds_203 (by decide) (fun q203 => ?_) (fun q203 => ?_)
            · refine z_iconst (v := 0) C dX10_holds_215 (by decide) ?_
              refine z_iast C dX10_holds_216 zk_74 (by decide) ?_ ?_
              · exact vp_in_nI (by simp at hsl; omega) (by decide)
              refine z_goto (tgt := 318) C dX10_holds_217 (by decide) ?_
              refine z_iinc (y := 1) (lv' := [some (.ref 41), some (.int _), some (.int _), some (.int _), some (.int kd), some (.int _), some (.int _)]) C dX10_holds_318 rfl (by decide) (by decide) rfl ?_
              refine z_goto (tgt := 9) C dX10_holds_321 (by decide) ?_
              refine z_sub z_drop456 ?_
              rw [nI_1 i]
              rw [nI_clamp (show r.length < 2 ^ 31 by simp at hsl; omega)]
              refine ih (i + 1) (zmjoin kd x y :: r) _ (by omega) (zu74 ho) ?_ (by simp at hsl ⊢; omega) hw6 ?_
              · rw [zu_s]
                have ev : zmjoin kd x y = 0 := by
                  unfold zmjoin
                  rw [if_neg (by rw [qs129_42]; decide), if_pos qs129_42]
                  exact zb_f (fun z => z.1 q203)
                rw [ev]
                exact zstk_p _ hst.2.2
              · rw [← hr, zmev, ← ekd]
                have es : zmit (iv 75) kd (iv 65 i) (y :: x :: r) = zmjoin kd x y :: r := by
                  unfold zmit
                  rw [if_neg (show ¬ kd.toInt < 40 by omega), if_neg q76]
                rw [es]
            · refine z_iload C dX10_holds_206 rfl ?_
              refine z_if_eq (tgt := 215) C dX10_holds_208 (by decide) (fun q208 => ?_) (fun q208 => ?_)
              · refine z_iconst (v := 0) C dX10_holds_215 (by decide) ?_
                refine z_iast C dX10_holds_216 zk_74 (by decide) ?_ ?_
                · exact vp_in_nI (by simp at hsl; omega) (by decide)
                refine z_goto (tgt := 318) C dX10_holds_217 (by decide) ?_
                refine z_iinc (y := 1) (lv' := [some (.ref 41), some (.int _), some (.int _), some (.int _), some (.int kd), some (.int _), some (.int _)]) C dX10_holds_318 rfl (by decide) (by decide) rfl ?_
                refine z_goto (tgt := 9) C dX10_holds_321 (by decide) ?_
                refine z_sub z_drop456 ?_
                rw [nI_1 i]
                rw [nI_clamp (show r.length < 2 ^ 31 by simp at hsl; omega)]
                refine ih (i + 1) (zmjoin kd x y :: r) _ (by omega) (zu74 ho) ?_ (by simp at hsl ⊢; omega) hw6 ?_
                · rw [zu_s]
                  have ev : zmjoin kd x y = 0 := by
                    unfold zmjoin
                    rw [if_neg (by rw [qs129_42]; decide), if_pos qs129_42]
                    exact zb_f (fun z => z.2 q208)
                  rw [ev]
                  exact zstk_p _ hst.2.2
                · rw [← hr, zmev, ← ekd]
                  have es : zmit (iv 75) kd (iv 65 i) (y :: x :: r) = zmjoin kd x y :: r := by
                    unfold zmit
                    rw [if_neg (show ¬ kd.toInt < 40 by omega), if_neg q76]
                  rw [es]
              · refine z_iconst (v := 1) C dX10_holds_211 (by decide) ?_
                refine z_goto (tgt := 216) C dX10_holds_212 (by decide) ?_
                refine z_iast C dX10_holds_216 zk_74 (by decide) ?_ ?_
                · exact vp_in_nI (by simp at hsl; omega) (by decide)
                refine z_goto (tgt := 318) C dX10_holds_217 (by decide) ?_
                refine z_iinc (y := 1) (lv' := [some (.ref 41), some (.int _), some (.int _), some (.int _), some (.int kd), some (.int _), some (.int _)]) C dX10_holds_318 rfl (by decide) (by decide) rfl ?_
                refine z_goto (tgt := 9) C dX10_holds_321 (by decide) ?_
                refine z_sub z_drop456 ?_
                rw [nI_1 i]
                rw [nI_clamp (show r.length < 2 ^ 31 by simp at hsl; omega)]
                refine ih (i + 1) (zmjoin kd x y :: r) _ (by omega) (zu74 ho) ?_ (by simp at hsl ⊢; omega) hw6 ?_
                · rw [zu_s]
                  have ev : zmjoin kd x y = 1 := by
                    unfold zmjoin
                    rw [if_neg (by rw [qs129_42]; decide), if_pos qs129_42]
                    exact zb_t ⟨q203, q208⟩
                  rw [ev]
                  exact zstk_p _ hst.2.2
                · rw [← hr, zmev, ← ekd]
                  have es : zmit (iv 75) kd (iv 65 i) (y :: x :: r) = zmjoin kd x y :: r := by
                    unfold zmit
                    rw [if_neg (show ¬ kd.toInt < 40 by omega), if_neg q76]
                  rw [es]
          by_cases qs129_43 : kd = 43
          · refine z_tabIn (tgt := 220) C dX10_holds_129 (by rw [qs129_43]; decide) (by rw [qs129_43]; decide) (by rw [qs129_43]; rfl) (by decide) ?_
            refine z_aload_n C dX10_holds_220 rfl ?_
            refine zs_getR C dX10_holds_221 zf_X10_113 zk_41 (by decide) (zr_41_51 n) ?_
            refine z_iload_n C dX10_holds_224 rfl ?_
            refine z_iconst (v := 1) C dX10_holds_225 (by decide) ?_
            refine z_isub C dX10_holds_226 ?_
            rw [hl2]
            refine z_iload C dX10_holds_227 rfl ?_
            refine z_iload C dX10_holds_229 rfl ?_
            refine z_icmp_ne (tgt := 238) C dX10_holds_231 (by decide) (fun q231 => ?_) (fun q231 => ?_)
            · refine z_iconst (v := 0) C dX10_holds_238 (by decide) ?_
              refine z_iast C dX10_holds_239 zk_74 (by decide) ?_ ?_
              · exact vp_in_nI (by simp at hsl; omega) (by decide)
              refine z_goto (tgt := 318) C dX10_holds_240 (by decide) ?_
              refine z_iinc (y := 1) (lv' := [some (.ref 41), some (.int _), some (.int _), some (.int _), some (.int kd), some (.int _), some (.int _)]) C dX10_holds_318 rfl (by decide) (by decide) rfl ?_
              refine z_goto (tgt := 9) C dX10_holds_321 (by decide) ?_
              refine z_sub z_drop456 ?_
              rw [nI_1 i]
              rw [nI_clamp (show r.length < 2 ^ 31 by simp at hsl; omega)]
              refine ih (i + 1) (zmjoin kd x y :: r) _ (by omega) (zu74 ho) ?_ (by simp at hsl ⊢; omega) hw6 ?_
              · rw [zu_s]
                have ev : zmjoin kd x y = 0 := by
                  unfold zmjoin
                  rw [if_neg (by rw [qs129_43]; decide), if_neg (by rw [qs129_43]; decide), if_pos qs129_43]
                  exact zb_f q231
                rw [ev]
                exact zstk_p _ hst.2.2
              · rw [← hr, zmev, ← ekd]
                have es : zmit (iv 75) kd (iv 65 i) (y :: x :: r) = zmjoin kd x y :: r := by
                  unfold zmit
                  rw [if_neg (show ¬ kd.toInt < 40 by omega), if_neg q76]
                rw [es]
            · refine z_iconst (v := 1) C dX10_holds_234 (by decide) ?_
              refine z_goto (tgt := 239) C dX10_holds_235 (by decide) ?_
              refine z_iast C dX10_holds_239 zk_74 (by decide) ?_ ?_
              · exact vp_in_nI (by simp at hsl; omega) (by decide)
              refine z_goto (tgt := 318) C dX10_holds_240 (by decide) ?_
              refine z_iinc (y := 1) (lv' := [some (.ref 41), some (.int _), some (.int _), some (.int _), some (.int kd), some (.int _), some (.int _)]) C dX10_holds_318 rfl (by decide) (by decide) rfl ?_
              refine z_goto (tgt := 9) C dX10_holds_321 (by decide) ?_
              refine z_sub z_drop456 ?_
              rw [nI_1 i]
              rw [nI_clamp (show r.length < 2 ^ 31 by simp at hsl; omega)]
              refine ih (i + 1) (zmjoin kd x y :: r) _ (by omega) (zu74 ho) ?_ (by simp at hsl ⊢; omega) hw6 ?_
              · rw [zu_s]
                have ev : zmjoin kd x y = 1 := by
                  unfold zmjoin
                  rw [if_neg (by rw [qs129_43]; decide), if_neg (by rw [qs129_43]; decide), if_pos qs129_43]
                  exact zb_t q231
                rw [ev]
                exact zstk_p _ hst.2.2
              · rw [← hr, zmev, ← ekd]
                have es : zmit (iv 75) kd (iv 65 i) (y :: x :: r) = zmjoin kd x y :: r := by
                  unfold zmit
                  rw [if_neg (show ¬ kd.toInt < 40 by omega), if_neg q76]
                rw [es]
          by_cases qs129_44 : kd = 44
          · refine z_tabIn (tgt := 243) C dX10_holds_129 (by rw [qs129_44]; decide) (by rw [qs129_44]; decide) (by rw [qs129_44]; rfl) (by decide) ?_
            refine z_aload_n C dX10_holds_243 rfl ?_
            refine zs_getR C dX10_holds_244 zf_X10_113 zk_41 (by decide) (zr_41_51 n) ?_
            refine z_iload_n C dX10_holds_247 rfl ?_
            refine z_iconst (v := 1) C dX10_holds_248 (by decide) ?_
            refine z_isub C dX10_holds_249 ?_
            rw [hl2]
            refine z_iload C dX10_holds_250 rfl ?_
            refine z_iload C dX10_holds_252 rfl ?_
            refine zt_icmp_ge (tgt := 261) C dX10_holds_254 rfl rfl (by decide) (fun q254 => ?_) (fun q254 => ?_)
            · refine z_iconst (v := 0) C dX10_holds_261 (by decide) ?_
              refine z_iast C dX10_holds_262 zk_74 (by decide) ?_ ?_
              · exact vp_in_nI (by simp at hsl; omega) (by decide)
              refine z_goto (tgt := 318) C dX10_holds_263 (by decide) ?_
              refine z_iinc (y := 1) (lv' := [some (.ref 41), some (.int _), some (.int _), some (.int _), some (.int kd), some (.int _), some (.int _)]) C dX10_holds_318 rfl (by decide) (by decide) rfl ?_
              refine z_goto (tgt := 9) C dX10_holds_321 (by decide) ?_
              refine z_sub z_drop456 ?_
              rw [nI_1 i]
              rw [nI_clamp (show r.length < 2 ^ 31 by simp at hsl; omega)]
              refine ih (i + 1) (zmjoin kd x y :: r) _ (by omega) (zu74 ho) ?_ (by simp at hsl ⊢; omega) hw6 ?_
              · rw [zu_s]
                have ev : zmjoin kd x y = 0 := by
                  unfold zmjoin
                  rw [if_neg (by rw [qs129_44]; decide), if_neg (by rw [qs129_44]; decide), if_neg (by rw [qs129_44]; decide), if_pos qs129_44]
                  exact zb_f (by omega)
                rw [ev]
                exact zstk_p _ hst.2.2
              · rw [← hr, zmev, ← ekd]
                have es : zmit (iv 75) kd (iv 65 i) (y :: x :: r) = zmjoin kd x y :: r := by
                  unfold zmit
                  rw [if_neg (show ¬ kd.toInt < 40 by omega), if_neg q76]
                rw [es]
            · refine z_iconst (v := 1) C dX10_holds_257 (by decide) ?_
              refine z_goto (tgt := 262) C dX10_holds_258 (by decide) ?_
              refine z_iast C dX10_holds_262 zk_74 (by decide) ?_ ?_
              · exact vp_in_nI (by simp at hsl; omega) (by decide)
              refine z_goto (tgt := 318) C dX10_holds_263 (by decide) ?_
              refine z_iinc (y := 1) (lv' := [some (.ref 41), some (.int _), some (.int _), some (.int _), some (.int kd), some (.int _), some (.int _)]) C dX10_holds_318 rfl (by decide) (by decide) rfl ?_
              refine z_goto (tgt := 9) C dX10_holds_321 (by decide) ?_
              refine z_sub z_drop456 ?_
              rw [nI_1 i]
              rw [nI_clamp (show r.length < 2 ^ 31 by simp at hsl; omega)]
              refine ih (i + 1) (zmjoin kd x y :: r) _ (by omega) (zu74 ho) ?_ (by simp at hsl ⊢; omega) hw6 ?_
              · rw [zu_s]
                have ev : zmjoin kd x y = 1 := by
                  unfold zmjoin
                  rw [if_neg (by rw [qs129_44]; decide), if_neg (by rw [qs129_44]; decide), if_neg (by rw [qs129_44]; decide), if_pos qs129_44]
                  exact zb_t (by omega)
                rw [ev]
                exact zstk_p _ hst.2.2
              · rw [← hr, zmev, ← ekd]
                have es : zmit (iv 75) kd (iv 65 i) (y :: x :: r) = zmjoin kd x y :: r := by
                  unfold zmit
                  rw [if_neg (show ¬ kd.toInt < 40 by omega), if_neg q76]
                rw [es]
          by_cases qs129_45 : kd = 45
          · refine z_tabIn (tgt := 266) C dX10_holds_129 (by rw [qs129_45]; decide) (by rw [qs129_45]; decide) (by rw [qs129_45]; rfl) (by decide) ?_
            refine z_aload_n C dX10_holds_266 rfl ?_
            refine zs_getR C dX10_holds_267 zf_X10_113 zk_41 (by decide) (zr_41_51 n) ?_
            refine z_iload_n C dX10_holds_270 rfl ?_
            refine z_iconst (v := 1) C dX10_holds_271 (by decide) ?_
            refine z_isub C dX10_holds_272 ?_
            rw [hl2]
            refine z_iload C dX10_holds_273 rfl ?_
            refine z_iload C dX10_holds_275 rfl ?_
            refine zt_icmp_le (tgt := 284) C dX10_holds_277 rfl rfl (by decide) (fun q277 => ?_) (fun q277 => ?_)
            · refine z_iconst (v := 0) C dX10_holds_284 (by decide) ?_
              refine z_iast C dX10_holds_285 zk_74 (by decide) ?_ ?_
              · exact vp_in_nI (by simp at hsl; omega) (by decide)
              refine z_goto (tgt := 318) C dX10_holds_286 (by decide) ?_
              refine z_iinc (y := 1) (lv' := [some (.ref 41), some (.int _), some (.int _), some (.int _), some (.int kd), some (.int _), some (.int _)]) C dX10_holds_318 rfl (by decide) (by decide) rfl ?_
              refine z_goto (tgt := 9) C dX10_holds_321 (by decide) ?_
              refine z_sub z_drop456 ?_
              rw [nI_1 i]
              rw [nI_clamp (show r.length < 2 ^ 31 by simp at hsl; omega)]
              refine ih (i + 1) (zmjoin kd x y :: r) _ (by omega) (zu74 ho) ?_ (by simp at hsl ⊢; omega) hw6 ?_
              · rw [zu_s]
                have ev : zmjoin kd x y = 0 := by
                  unfold zmjoin
                  rw [if_neg (by rw [qs129_45]; decide), if_neg (by rw [qs129_45]; decide), if_neg (by rw [qs129_45]; decide), if_neg (by rw [qs129_45]; decide), if_pos qs129_45]
                  exact zb_f (by omega)
                rw [ev]
                exact zstk_p _ hst.2.2
              · rw [← hr, zmev, ← ekd]
                have es : zmit (iv 75) kd (iv 65 i) (y :: x :: r) = zmjoin kd x y :: r := by
                  unfold zmit
                  rw [if_neg (show ¬ kd.toInt < 40 by omega), if_neg q76]
                rw [es]
            · refine z_iconst (v := 1) C dX10_holds_280 (by decide) ?_
              refine z_goto (tgt := 285) C dX10_holds_281 (by decide) ?_
              refine z_iast C dX10_holds_285 zk_74 (by decide) ?_ ?_
              · exact vp_in_nI (by simp at hsl; omega) (by decide)
              refine z_goto (tgt := 318) C dX10_holds_286 (by decide) ?_
              refine z_iinc (y := 1) (lv' := [some (.ref 41), some (.int _), some (.int _), some (.int _), some (.int kd), some (.int _), some (.int _)]) C dX10_holds_318 rfl (by decide) (by decide) rfl ?_
              refine z_goto (tgt := 9) C dX10_holds_321 (by decide) ?_
              refine z_sub z_drop456 ?_
              rw [nI_1 i]
              rw [nI_clamp (show r.length < 2 ^ 31 by simp at hsl; omega)]
              refine ih (i + 1) (zmjoin kd x y :: r) _ (by omega) (zu74 ho) ?_ (by simp at hsl ⊢; omega) hw6 ?_
              · rw [zu_s]
                have ev : zmjoin kd x y = 1 := by
                  unfold zmjoin
                  rw [if_neg (by rw [qs129_45]; decide), if_neg (by rw [qs129_45]; decide), if_neg (by rw [qs129_45]; decide), if_neg (by rw [qs129_45]; decide), if_pos qs129_45]
                  exact zb_t (by omega)
                rw [ev]
                exact zstk_p _ hst.2.2
              · rw [← hr, zmev, ← ekd]
                have es : zmit (iv 75) kd (iv 65 i) (y :: x :: r) = zmjoin kd x y :: r := by
                  unfold zmit
                  rw [if_neg (show ¬ kd.toInt < 40 by omega), if_neg q76]
                rw [es]
          by_cases qs129_46 : kd = 46
          · refine z_tabIn (tgt := 289) C dX10_holds_129 (by rw [qs129_46]; decide) (by rw [qs129_46]; decide) (by rw [qs129_46]; rfl) (by decide) ?_
            refine z_aload_n C dX10_holds_289 rfl ?_
            refine zs_getR C dX10_holds_290 zf_X10_113 zk_41 (by decide) (zr_41_51 n) ?_
            refine z_iload_n C dX10_holds_293 rfl ?_
            refine z_iconst (v := 1) C dX10_holds_294 (by decide) ?_
            refine z_isub C dX10_holds_295 ?_
            rw [hl2]
            refine z_iload C dX10_holds_296 rfl ?_
            refine z_iload C dX10_holds_298 rfl ?_
            refine z_iadd C dX10_holds_300 ?_
            refine z_iast C dX10_holds_301 zk_74 (by decide) ?_ ?_
            · exact vp_in_nI (by simp at hsl; omega) (by decide)
            refine z_goto (tgt := 318) C dX10_holds_302 (by decide) ?_
            refine z_iinc (y := 1) (lv' := [some (.ref 41), some (.int _), some (.int _), some (.int _), some (.int kd), some (.int _), some (.int _)]) C dX10_holds_318 rfl (by decide) (by decide) rfl ?_
            refine z_goto (tgt := 9) C dX10_holds_321 (by decide) ?_
            refine z_sub z_drop456 ?_
            rw [nI_1 i]
            rw [nI_clamp (show r.length < 2 ^ 31 by simp at hsl; omega)]
            refine ih (i + 1) (zmjoin kd x y :: r) _ (by omega) (zu74 ho) ?_ (by simp at hsl ⊢; omega) hw6 ?_
            · rw [zu_s]
              have ev : zmjoin kd x y = x + y := by
                unfold zmjoin
                rw [if_neg (by rw [qs129_46]; decide), if_neg (by rw [qs129_46]; decide), if_neg (by rw [qs129_46]; decide), if_neg (by rw [qs129_46]; decide), if_neg (by rw [qs129_46]; decide), if_pos qs129_46]
              rw [ev]
              exact zstk_p _ hst.2.2
            · rw [← hr, zmev, ← ekd]
              have es : zmit (iv 75) kd (iv 65 i) (y :: x :: r) = zmjoin kd x y :: r := by
                unfold zmit
                rw [if_neg (show ¬ kd.toInt < 40 by omega), if_neg q76]
              rw [es]
          have qo : (kd : Int32).toInt < 41 ∨ 46 < (kd : Int32).toInt := by
            have h41 : ¬ (kd : Int32).toInt = 41 := fun z => qs129_41 (Int32.toInt_inj.mp z)
            have h42 : ¬ (kd : Int32).toInt = 42 := fun z => qs129_42 (Int32.toInt_inj.mp z)
            have h43 : ¬ (kd : Int32).toInt = 43 := fun z => qs129_43 (Int32.toInt_inj.mp z)
            have h44 : ¬ (kd : Int32).toInt = 44 := fun z => qs129_44 (Int32.toInt_inj.mp z)
            have h45 : ¬ (kd : Int32).toInt = 45 := fun z => qs129_45 (Int32.toInt_inj.mp z)
            have h46 : ¬ (kd : Int32).toInt = 46 := fun z => qs129_46 (Int32.toInt_inj.mp z)
            omega
          refine z_tabOut (tgt := 305) C dX10_holds_129 qo (by decide) ?_
          refine z_aload_n C dX10_holds_305 rfl ?_
          refine zs_getR C dX10_holds_306 zf_X10_113 zk_41 (by decide) (zr_41_51 n) ?_
          refine z_iload_n C dX10_holds_309 rfl ?_
          refine z_iconst (v := 1) C dX10_holds_310 (by decide) ?_
          refine z_isub C dX10_holds_311 ?_
          rw [hl2]
          refine z_iload C dX10_holds_312 rfl ?_
          refine z_iload C dX10_holds_314 rfl ?_
          refine z_isub C dX10_holds_316 ?_
          refine z_iast C dX10_holds_317 zk_74 (by decide) ?_ ?_
          · exact vp_in_nI (by simp at hsl; omega) (by decide)
          refine z_iinc (y := 1) (lv' := [some (.ref 41), some (.int _), some (.int _), some (.int _), some (.int kd), some (.int _), some (.int _)]) C dX10_holds_318 rfl (by decide) (by decide) rfl ?_
          refine z_goto (tgt := 9) C dX10_holds_321 (by decide) ?_
          refine z_sub z_drop456 ?_
          rw [nI_1 i]
          rw [nI_clamp (show r.length < 2 ^ 31 by simp at hsl; omega)]
          refine ih (i + 1) (zmjoin kd x y :: r) _ (by omega) (zu74 ho) ?_ (by simp at hsl ⊢; omega) hw6 ?_
          · rw [zu_s]
            have ev : zmjoin kd x y = x - y := by
              unfold zmjoin
              rw [if_neg qs129_41, if_neg qs129_42, if_neg qs129_43, if_neg qs129_44, if_neg qs129_45, if_neg qs129_46]
            rw [ev]
            exact zstk_p _ hst.2.2
          · rw [← hr, zmev, ← ekd]
            have es : zmit (iv 75) kd (iv 65 i) (y :: x :: r) = zmjoin kd x y :: r := by
              unfold zmit
              rw [if_neg (show ¬ kd.toInt < 40 by omega), if_neg q76]
            rw [es]
        · obtain ⟨x, r, rfl⟩ : ∃ x r, s = x :: r := by
            cases s with
            | nil =>
              exfalso
              rcases hw2 with h | h | h
              · rw [q76] at h; exact absurd h.1 (by decide)
              · simp at h
              · simp at h
            | cons x r => exact ⟨x, r, rfl⟩
          have hl1 : nI (x :: r).length - 1 = nI r.length := nI_pred _
          have hw6 : zmwf (iv 64) (i + 1) k (x :: r).length := by
            rcases hw2 with h | h | h
            · rw [q76] at h; exact absurd h.1 (by decide)
            · exact h.2.2
            · rw [q76] at h; exact absurd h.1 (by decide)
          refine z_aload_n C dX10_holds_79 rfl ?_
          refine zs_getR C dX10_holds_80 zf_X10_113 zk_41 (by decide) (zr_41_51 n) ?_
          refine z_iload_n C dX10_holds_83 rfl ?_
          refine z_iconst (v := 1) C dX10_holds_84 (by decide) ?_
          refine z_isub C dX10_holds_85 ?_
          rw [hl1]
          refine z_aload_n C dX10_holds_86 rfl ?_
          refine zs_getR C dX10_holds_87 zf_X10_113 zk_41 (by decide) (zr_41_51 n) ?_
          refine z_iload_n C dX10_holds_90 rfl ?_
          refine z_iconst (v := 1) C dX10_holds_91 (by decide) ?_
          refine z_isub C dX10_holds_92 ?_
          rw [hl1]
          refine z_iald C dX10_holds_93 zk_74 (by decide) ?_ ?_
          · exact vp_in_nI (by simp at hsl; omega) (by decide)
          refine z_if_ne (tgt := 101) C dX10_holds_94 (by decide) (fun q94 => ?_) (fun q94 => ?_)
          · refine z_iconst (v := 0) C dX10_holds_101 (by decide) ?_
            refine z_iast C dX10_holds_102 zk_74 (by decide) ?_ ?_
            · exact vp_in_nI (by simp at hsl; omega) (by decide)
            refine z_goto (tgt := 318) C dX10_holds_103 (by decide) ?_
            refine z_iinc (y := 1) (lv' := [some (.ref 41), some (.int _), some (.int _), some (.int _), some (.int kd), none, none]) C dX10_holds_318 rfl (by decide) (by decide) rfl ?_
            refine z_goto (tgt := 9) C dX10_holds_321 (by decide) ?_
            refine z_sub z_drop456 ?_
            rw [nI_1 i]
            rw [nI_clamp (show r.length < 2 ^ 31 by simp at hsl; omega)]
            have hx : cur 74 r.length = x := hst.1
            rw [nI_clamp (show r.length < 2 ^ 31 by simp at hsl; omega), hx] at q94
            refine ih (i + 1) (0 :: r) _ (by omega) (zu74 ho) ?_ (by simpa using hsl) hw6 ?_
            · rw [zu_s]; exact zstk_p _ hst.2
            · rw [← hr, zmev, ← ekd]
              have es : zmit (iv 75) kd (iv 65 i) (x :: r) = 0 :: r := by
                unfold zmit
                rw [if_neg (show ¬ kd.toInt < 40 by omega), if_pos q76]
                show (if x = 0 then 1 else 0) :: r = _
                rw [if_neg q94]
              rw [es]
          · refine z_iconst (v := 1) C dX10_holds_97 (by decide) ?_
            refine z_goto (tgt := 102) C dX10_holds_98 (by decide) ?_
            refine z_iast C dX10_holds_102 zk_74 (by decide) ?_ ?_
            · exact vp_in_nI (by simp at hsl; omega) (by decide)
            refine z_goto (tgt := 318) C dX10_holds_103 (by decide) ?_
            refine z_iinc (y := 1) (lv' := [some (.ref 41), some (.int _), some (.int _), some (.int _), some (.int kd), none, none]) C dX10_holds_318 rfl (by decide) (by decide) rfl ?_
            refine z_goto (tgt := 9) C dX10_holds_321 (by decide) ?_
            refine z_sub z_drop456 ?_
            rw [nI_1 i]
            rw [nI_clamp (show r.length < 2 ^ 31 by simp at hsl; omega)]
            have hx : cur 74 r.length = x := hst.1
            rw [nI_clamp (show r.length < 2 ^ 31 by simp at hsl; omega), hx] at q94
            refine ih (i + 1) (1 :: r) _ (by omega) (zu74 ho) ?_ (by simpa using hsl) hw6 ?_
            · rw [zu_s]; exact zstk_p _ hst.2
            · rw [← hr, zmev, ← ekd]
              have es : zmit (iv 75) kd (iv 65 i) (x :: r) = 1 :: r := by
                unfold zmit
                rw [if_neg (show ¬ kd.toInt < 40 by omega), if_pos q76]
                show (if x = 0 then 1 else 0) :: r = _
                rw [if_pos q94]
              rw [es]
      · obtain ⟨hw3, hw4, hw5, hw6⟩ : (kd).toInt < 40 ∧ (kd = 0 ∨ (20 ≤ (kd).toInt ∧ (kd).toInt < 30)) ∧ s.length < 400 ∧ zmwf (iv 64) (i + 1) k (s.length + 1) := by
          rcases hw2 with h | h | h
          · exact h
          · exfalso; apply q33; rw [h.1]; decide
          · exfalso; omega
        refine z_aload_n C dX10_holds_36 rfl ?_
        refine zs_getR C dX10_holds_37 zf_X10_113 zk_41 (by decide) (zr_41_51 n) ?_
        refine z_iload_n C dX10_holds_40 rfl ?_
        refine z_iload C dX10_holds_41 rfl ?_
        refine z_if_ne (tgt := 55) C dX10_holds_43 (by decide) (fun q43 => ?_) (fun q43 => ?_)
        · have hw4 := hw4.resolve_left q43
          refine z_aload_n C dX10_holds_55 rfl ?_
          refine zs_getR C dX10_holds_56 zf_X10_116 zk_41 (by decide) (zr_41_52 n) ?_
          refine z_iload C dX10_holds_59 rfl ?_
          refine z_bipush (v := 20) C dX10_holds_61 (by decide) ?_
          refine z_isub C dX10_holds_63 ?_
          refine z_iald C dX10_holds_64 zk_75 (by decide) ?_ ?_
          · exact vp_in_iff.mpr (by rw [zt_sub (by rw [show (20 : Int32).toInt = 20 by decide]; omega) (by rw [show (20 : Int32).toInt = 20 by decide]; omega), show (20 : Int32).toInt = 20 by decide]; omega)
          refine z_iast C dX10_holds_65 zk_74 (by decide) ?_ ?_
          · exact vp_in_nI (by omega) (by decide)
          refine z_iinc (y := 1) (lv' := [some (.ref 41), some (.int _), some (.int _), some (.int _), some (.int kd), none, none]) C dX10_holds_66 rfl (by decide) (by decide) rfl ?_
          refine z_goto (tgt := 318) C dX10_holds_69 (by decide) ?_
          refine z_iinc (y := 1) (lv' := [some (.ref 41), some (.int _), some (.int _), some (.int _), some (.int kd), none, none]) C dX10_holds_318 rfl (by decide) (by decide) rfl ?_
          refine z_goto (tgt := 9) C dX10_holds_321 (by decide) ?_
          refine z_sub z_drop456 ?_
          rw [nI_1 i]
          rw [nI_clamp (show s.length < 2 ^ 31 by omega), nI_1]
          refine ih (i + 1) (zmopd (iv 75) kd (iv 65 i) :: s) _ (by omega) (zu74 ho) ?_ (by simp; omega) hw6 ?_
          · rw [zu_s]
            have ev : zmopd (iv 75) kd (iv 65 i) = iv 75 (kd - 20).toNatClampNeg := by
              unfold zmopd
              rw [if_neg q43]
            rw [ev]
            rw [ho 75 (by decide)]
            exact zstk_p _ hst
          · rw [← hr, zmev, ← ekd]
            have es : zmit (iv 75) kd (iv 65 i) s = zmopd (iv 75) kd (iv 65 i) :: s := by
              unfold zmit
              rw [if_pos hw3]
            rw [es]
        · refine z_aload_n C dX10_holds_46 rfl ?_
          refine zs_getR C dX10_holds_47 zf_X10_83 zk_41 (by decide) (zr_41_27 n) ?_
          refine z_iload_n C dX10_holds_50 rfl ?_
          refine z_iald C dX10_holds_51 zk_65 (by decide) ?_ ?_
          · exact vp_in_nI (by omega) (by decide)
          refine z_goto (tgt := 65) C dX10_holds_52 (by decide) ?_
          refine z_iast C dX10_holds_65 zk_74 (by decide) ?_ ?_
          · exact vp_in_nI (by omega) (by decide)
          refine z_iinc (y := 1) (lv' := [some (.ref 41), some (.int _), some (.int _), some (.int _), some (.int kd), none, none]) C dX10_holds_66 rfl (by decide) (by decide) rfl ?_
          refine z_goto (tgt := 318) C dX10_holds_69 (by decide) ?_
          refine z_iinc (y := 1) (lv' := [some (.ref 41), some (.int _), some (.int _), some (.int _), some (.int kd), none, none]) C dX10_holds_318 rfl (by decide) (by decide) rfl ?_
          refine z_goto (tgt := 9) C dX10_holds_321 (by decide) ?_
          refine z_sub z_drop456 ?_
          rw [nI_1 i]
          rw [nI_clamp (show s.length < 2 ^ 31 by omega), nI_1]
          refine ih (i + 1) (zmopd (iv 75) kd (iv 65 i) :: s) _ (by omega) (zu74 ho) ?_ (by simp; omega) hw6 ?_
          · rw [zu_s]
            have ev : zmopd (iv 75) kd (iv 65 i) = iv 65 i := by
              unfold zmopd
              rw [if_pos q43]
            rw [ev]
            rw [nI_clamp (by omega), ho 65 (by decide)]
            exact zstk_p _ hst
          · rw [← hr, zmev, ← ekd]
            have es : zmit (iv 75) kd (iv 65 i) s = zmopd (iv 75) kd (iv 65 i) :: s := by
              unfold zmit
              rw [if_pos hw3]
            rw [es]

set_option maxRecDepth 4000 in
theorem m_holds (n : Nat) (iv : zI) (lw : zG) (l f e : Nat) (hl : l < 10) (hf : iv 66 l = nI f) (he : iv 66 (l + 1) = nI e) (he2 : e ≤ 500) (hfe : f ≤ e) (hw : zmwf (iv 64) f (e - f) 0) : zMs yX10_holds cX10_holds 7 (some .boolean) 0 [.ref 41, .int (nI l)] n iv lw (fun v iv2 lw2 => v = some (.int (zb (¬ zbot (zmev (iv 75) (iv 64) (iv 65) f (e - f) []) = 0))) ∧ lw2 = lw ∧ ∀ c, c ≠ 74 → iv2 c = iv c) := by
  refine zM.of (by decide) (Nat.le_of_ble_eq_true rfl) (fun X C E => ?_)
  change zJs X n 7 0 [some (.ref 41), some (.int (nI l)), none, none, none, none, none] [] iv lw
  refine z_iconst (v := 0) C dX10_holds_0 (by decide) ?_
  refine z_istore_n (lv' := [some (.ref 41), some (.int _), some (.int _), none, none, none, none]) C dX10_holds_1 (by decide) rfl ?_
  refine z_aload_n C dX10_holds_2 rfl ?_
  refine zs_getR C dX10_holds_3 zf_X10_86 zk_41 (by decide) (zr_41_28 n) ?_
  refine z_iload_n C dX10_holds_6 rfl ?_
  refine z_iald C dX10_holds_7 zk_66 (by decide) ?_ ?_
  · exact vp_in_nI (by omega) (by decide)
  refine z_istore_n (lv' := [some (.ref 41), some (.int _), some (.int _), some (.int _), none, none, none]) C dX10_holds_8 (by decide) rfl ?_
  rw [nI_clamp (by omega), hf]
  exact lm_holds n iv lw l f e hl hf he he2 _ C E (e - f) f [] iv (by omega) (fun _ _ => rfl) trivial (by simp) hw rfl
