/-! readE -/
def zEo (iv0 : zI) (B : Nat → Int32) (s b : Nat) (c : zCf) (iv : zI) (lw : zG) : Prop := (zstop (zkn (zT B s) s) c ∧ zMq iv0 b [] (zflu c.2.2.1 c.2.2.2.1) c.2.2.2.2 iv ∧ zMt B s c.2.1 iv lw) ∨ ∃ f, ¬ zstop (zkn (zT B s) s) c ∧ zst (zkn (zT B s) s) c = .inl f ∧ zMf iv0 b (zpl (zT B s) s) f iv
theorem zsett_all {W : List Nat} {P : List Int32} (h : ¬ 48 ∈ W) : zsett zq0 W P = ([], zflu W P) := by
  have := zsett_app (p := zq0) (W := []) (fun w hw => by simp at hw) W P (fun w hw => decide_eq_true_iff.mpr (fun z => h (z ▸ hw)))
  rw [List.append_nil] at this
  exact this

set_option maxHeartbeats 1000000 in
set_option maxRecDepth 4000 in
theorem lm_rEf (n : Nat) {iv0 : zI} {B : Nat → Int32} {s b : Nat} (hS : zSt iv0 B s) (cf : zCf) (f : zFa) (hns : ¬ zstop (zkn (zT B s) s) cf) (hst : zst (zkn (zT B s) s) cf = .inl f) (iv : zI) (lw : zG) (hF : zMf iv0 b (zpl (zT B s) s) f iv) (x : Int32) {X : zX} (C : zC X cX10_readE 2 RX10 none "readE" 4 0 0) (E : zEnd X (91 + 3 * n) 0 0 (zQ n (fun vr iv2 lw2 => vr = none ∧ zEo iv0 B s b cf iv2 lw2))) : zJs X n 2 12 [some (.ref 41), some (.int x)] [] iv lw := by
  refine z_aload_n C dX10_readE_12 rfl ?_
  refine z_getI C dX10_readE_13 zf_X10_250 zk_41 (by decide) ?_
  refine z_if_ne (tgt := 63) C dX10_readE_16 (by decide) (fun q16 => ?_) (fun q16 => ?_)
  · refine z_aload_n C dX10_readE_63 rfl ?_
    refine z_getI C dX10_readE_64 zf_X10_250 zk_41 (by decide) ?_
    refine z_if_ne (tgt := 75) C dX10_readE_67 (by decide) (fun q67 => ?_) (fun q67 => ?_)
    · refine zs_qvret C E dX10_readE_75 ?_
      exact ⟨rfl, Or.inr ⟨f, hns, hst, hF⟩⟩
    · exact absurd (by rw [q67]; decide) (Int.not_le.mpr hF.pos)
  · exact absurd (by rw [q16]; decide) (Int.not_le.mpr hF.pos)

set_option maxHeartbeats 1000000 in
set_option maxRecDepth 4000 in
theorem lm_rE1 (n : Nat) {iv0 : zI} {B : Nat → Int32} {s b v0 n0 : Nat} (hS : zSt iv0 B s) (cf : zCf) (now i : Nat) (W : List Nat) (P : List Int32) (v : Nat) (hc1 : zstop (zkn (zT B s) s) (now, i, W, P, v) → cf = (now, i, W, P, v)) (hc2 : ∀ f, ¬ zstop (zkn (zT B s) s) (now, i, W, P, v) → zst (zkn (zT B s) s) (now, i, W, P, v) = .inl f → cf = (now, i, W, P, v)) (iv : zI) (lw : zG) (hJ : zJv B s b v0 n0 (now, i, W, P, v)) (hQ : zMq iv0 b W P v iv) (hT : zMt B s i iv lw) {X : zX} (C : zC X cX10_readE 2 RX10 none "readE" 4 0 0) (E : zEnd X (91 + 3 * n) 0 0 (zQ n (fun vr iv2 lw2 => vr = none ∧ zEo iv0 B s b cf iv2 lw2))) (k : ∀ (c1 : zCf) (iv2 : zI) (lw2 : zG), ¬ zstop (zkn (zT B s) s) (now, i, W, P, v) → zst (zkn (zT B s) s) (now, i, W, P, v) = .inr c1 → zMq iv0 b c1.2.2.1 c1.2.2.2.1 c1.2.2.2.2 iv2 → zMt B s c1.2.1 iv2 lw2 → zJs X n 2 12 [some (.ref 41), some (.int (nI c1.1))] [] iv2 lw2) : zJs X n 2 12 [some (.ref 41), some (.int (nI now))] [] iv lw := by
  have hb := hJ.bd hS.2.1
  have hnow : now < 2 ^ 31 := by have := hJ.2.1; simp only at this; omega
  have hwo : zwo W := hJ.1.2.2.2.2.2.1
  refine z_aload_n C dX10_readE_12 rfl ?_
  refine z_getI C dX10_readE_13 zf_X10_250 zk_41 (by decide) ?_
  refine z_if_ne (tgt := 63) C dX10_readE_16 (by decide) (fun q16 => ?_) (fun q16 => ?_)
  · exact absurd hQ.2.1 q16
  · refine z_iload_n C dX10_readE_19 rfl ?_
    refine z_iconst (v := 2) C dX10_readE_20 (by decide) ?_
    refine z_icmp_ne (tgt := 41) C dX10_readE_21 (by decide) (fun q21 => ?_) (fun q21 => ?_)
    · have h2 : now ≠ 2 := fun z => q21 (by rw [z]; rfl)
      refine z_iload_n C dX10_readE_41 rfl ?_
      refine z_iconst (v := 2) C dX10_readE_42 (by decide) ?_
      refine z_icmp_ne (tgt := 54) C dX10_readE_43 (by decide) (fun q43 => ?_) (fun q43 => ?_)
      · have hns : ¬ zstop (zkn (zT B s) s) (now, i, W, P, v) := znstop_now h2
        refine z_aload_n C dX10_readE_54 rfl ?_
        refine z_iload_n C dX10_readE_55 rfl ?_
        refine zs_callVq C dX10_readE_56 zm_X10_314 zyX10_operand (m_operand n _ _ hS i W P v now hnow hJ hQ hT) zc_10 rfl zk_41 (by decide) (by decide) rfl rfl (Nat.le_of_ble_eq_true rfl) (by decide) (by decide) (fun v56 iv56 lw56 hq56 => ?_)
        generalize hr : zopn (zkn (zT B s) s) now i W P v = r at hq56
        cases r with
        | inl f =>
          obtain ⟨⟨x, hx⟩, hF⟩ := hq56
          subst hx
          refine z_istore_n (lv' := [some (.ref 41), some (.int x)]) C dX10_readE_59 (by decide) rfl ?_
          refine z_goto (tgt := 12) C dX10_readE_60 (by decide) ?_
          have e := hc2 f hns ((zst_n h2).trans hr)
          rw [← e] at hns
          exact lm_rEf n hS cf f hns (by rw [e]; exact (zst_n h2).trans hr) _ _ hF x C E
        | inr c1 =>
          obtain ⟨hx, hQ1, hT1⟩ := hq56
          subst hx
          refine z_istore_n (lv' := [some (.ref 41), some (.int (nI c1.1))]) C dX10_readE_59 (by decide) rfl ?_
          refine z_goto (tgt := 12) C dX10_readE_60 (by decide) ?_
          exact k c1 _ _ hns ((zst_n h2).trans hr) hQ1 hT1
      · exact absurd q43 q21
    · have h2 : now = 2 := nI_inj4 (b := 2) hnow (by decide) q21
      refine z_aload_n C dX10_readE_24 rfl ?_
      refine z_ldc2 C dX10_readE_25 zk_X10_255 ?_
      refine zs_callVi C dX10_readE_28 zm_X10_302 zyX10_isWord (m_isWord _ _ _ _) zc_10 rfl zk_41 (by decide) (by decide) rfl rfl (Nat.le_of_ble_eq_true rfl) (by decide) (by decide) ?_
      refine zb_if_eq (tgt := 41) C dX10_readE_31 (by decide) (fun q31 => ?_) (fun q31 => ?_)
      · refine z_iload_n C dX10_readE_41 rfl ?_
        refine z_iconst (v := 2) C dX10_readE_42 (by decide) ?_
        refine z_icmp_ne (tgt := 54) C dX10_readE_43 (by decide) (fun q43 => ?_) (fun q43 => ?_)
        · exact absurd q21 q43
        · subst h2
          have hns : ¬ zstop (zkn (zT B s) s) (2, i, W, P, v) := fun z => q31 (hT.2.1.w1.mpr z.2.1)
          refine z_aload_n C dX10_readE_46 rfl ?_
          refine zs_callVq C dX10_readE_47 zm_X10_310 zyX10_sign (m_sign n _ _ hS i W P v hJ hQ hT) zc_10 rfl zk_41 (by decide) (by decide) rfl rfl (Nat.le_of_ble_eq_true rfl) (by decide) (by decide) (fun v47 iv47 lw47 hq47 => ?_)
          generalize hr : zsig (zkn (zT B s) s) i W P v = r at hq47
          cases r with
          | inl f =>
            obtain ⟨⟨x, hx⟩, hF⟩ := hq47
            subst hx
            refine z_istore_n (lv' := [some (.ref 41), some (.int x)]) C dX10_readE_50 (by decide) rfl ?_
            refine z_goto (tgt := 12) C dX10_readE_51 (by decide) ?_
            have e := hc2 f hns (zst_2.trans hr)
            rw [← e] at hns
            exact lm_rEf n hS cf f hns (by rw [e]; exact zst_2.trans hr) _ _ hF x C E
          | inr c1 =>
            obtain ⟨hx, hQ1, hT1⟩ := hq47
            subst hx
            refine z_istore_n (lv' := [some (.ref 41), some (.int (nI c1.1))]) C dX10_readE_50 (by decide) rfl ?_
            refine z_goto (tgt := 12) C dX10_readE_51 (by decide) ?_
            exact k c1 _ _ hns (zst_2.trans hr) hQ1 hT1
      · refine z_aload_n C dX10_readE_34 rfl ?_
        refine zs_callVi C dX10_readE_35 zm_X10_306 zyX10_isOpen (m_isOpen n _ _ b W P hQ.2.2.2.2 hwo (by omega)) zc_10 rfl zk_41 (by decide) (by decide) rfl rfl (Nat.le_of_ble_eq_true rfl) (by decide) (by decide) ?_
        refine zb_if_eq (tgt := 63) C dX10_readE_38 (by decide) (fun q38 => ?_) (fun q38 => ?_)
        · subst h2
          have hno := q38
          have hsp : zstop (zkn (zT B s) s) (2, i, W, P, v) := ⟨rfl, hT.2.1.w1.mp q31, hno⟩
          refine z_aload_n C dX10_readE_63 rfl ?_
          refine z_getI C dX10_readE_64 zf_X10_250 zk_41 (by decide) ?_
          refine z_if_ne (tgt := 75) C dX10_readE_67 (by decide) (fun q67 => ?_) (fun q67 => ?_)
          · exact absurd hQ.2.1 q67
          · refine z_aload_n C dX10_readE_70 rfl ?_
            refine z_iconst (v := 0) C dX10_readE_71 (by decide) ?_
            refine zs_callVq C dX10_readE_72 zm_X10_317 zyX10_settle (m_settle0 n _ _ b W P hQ.2.2.2.2 hwo (by omega)) zc_10 rfl zk_41 (by decide) (by decide) rfl rfl (Nat.le_of_ble_eq_true rfl) (by decide) (by decide) (fun v72 iv72 lw72 hq72 => ?_)
            obtain ⟨rfl, rfl, hf1, hM1⟩ := hq72
            rw [zsett_all hno] at hM1
            have hQ1 := hQ.st hf1 hM1
            have hT1 := hT.st hf1
            refine zs_qvret C E dX10_readE_75 ?_
            have e := hc1 hsp
            subst e
            exact ⟨rfl, Or.inl ⟨hsp, hQ1, hT1⟩⟩
        · refine z_iload_n C dX10_readE_41 rfl ?_
          refine z_iconst (v := 2) C dX10_readE_42 (by decide) ?_
          refine z_icmp_ne (tgt := 54) C dX10_readE_43 (by decide) (fun q43 => ?_) (fun q43 => ?_)
          · exact absurd q21 q43
          · subst h2
            have hns : ¬ zstop (zkn (zT B s) s) (2, i, W, P, v) := fun z => z.2.2 q38
            refine z_aload_n C dX10_readE_46 rfl ?_
            refine zs_callVq C dX10_readE_47 zm_X10_310 zyX10_sign (m_sign n _ _ hS i W P v hJ hQ hT) zc_10 rfl zk_41 (by decide) (by decide) rfl rfl (Nat.le_of_ble_eq_true rfl) (by decide) (by decide) (fun v47 iv47 lw47 hq47 => ?_)
            generalize hr : zsig (zkn (zT B s) s) i W P v = r at hq47
            cases r with
            | inl f =>
              obtain ⟨⟨x, hx⟩, hF⟩ := hq47
              subst hx
              refine z_istore_n (lv' := [some (.ref 41), some (.int x)]) C dX10_readE_50 (by decide) rfl ?_
              refine z_goto (tgt := 12) C dX10_readE_51 (by decide) ?_
              have e := hc2 f hns (zst_2.trans hr)
              rw [← e] at hns
              exact lm_rEf n hS cf f hns (by rw [e]; exact zst_2.trans hr) _ _ hF x C E
            | inr c1 =>
              obtain ⟨hx, hQ1, hT1⟩ := hq47
              subst hx
              refine z_istore_n (lv' := [some (.ref 41), some (.int (nI c1.1))]) C dX10_readE_50 (by decide) rfl ?_
              refine z_goto (tgt := 12) C dX10_readE_51 (by decide) ?_
              exact k c1 _ _ hns (zst_2.trans hr) hQ1 hT1
theorem lm_readE (n : Nat) {iv0 : zI} {B : Nat → Int32} {s b v0 n0 : Nat} (hS : zSt iv0 B s) (cf : zCf) (hfin : zstop (zkn (zT B s) s) cf ∨ ∃ f, zst (zkn (zT B s) s) cf = .inl f) {X : zX} (C : zC X cX10_readE 2 RX10 none "readE" 4 0 0) (E : zEnd X (91 + 3 * n) 0 0 (zQ n (fun vr iv2 lw2 => vr = none ∧ zEo iv0 B s b cf iv2 lw2))) : ∀ (m : Nat) (c : zCf) (iv : zI) (lw : zG), zJv B s b v0 n0 c → zMq iv0 b c.2.2.1 c.2.2.2.1 c.2.2.2.2 iv → zMt B s c.2.1 iv lw → zrch (zkn (zT B s) s) m c cf → zJs X n 2 12 [some (.ref 41), some (.int (nI c.1))] [] iv lw := by
  intro m
  induction m with
  | zero =>
    intro c iv lw hJ hQ hT hr
    have hr : c = cf := hr
    obtain ⟨now, i, W, P, v⟩ := c
    refine lm_rE1 n hS cf now i W P v (fun _ => hr.symm) (fun _ _ _ => hr.symm) iv lw hJ hQ hT C E (fun c1 iv2 lw2 hns hs _ _ => ?_)
    exfalso
    rw [hr] at hns hs
    rcases hfin with z | ⟨f, z⟩
    · exact hns z
    · rw [z] at hs; cases hs
  | succ m ih =>
    intro c iv lw hJ hQ hT hr
    obtain ⟨hns, c1, h1, h2⟩ := hr
    obtain ⟨now, i, W, P, v⟩ := c
    refine lm_rE1 n hS cf now i W P v (fun z => absurd z hns) (fun f _ z => by rw [h1] at z; cases z) iv lw hJ hQ hT C E (fun c2 iv2 lw2 _ hs hQ2 hT2 => ?_)
    have e : c2 = c1 := by rw [h1] at hs; cases hs; rfl
    subst e
    exact ih c2 iv2 lw2 (hJ.nx h1).1 hQ2 hT2 h2

set_option maxRecDepth 4000 in
theorem m_readE (n : Nat) (iv : zI) (lw : zG) {B : Nat → Int32} {s b v0 n0 : Nat} (hS : zSt iv B s) (i v : Nat) (h40 : iv 41 40 = 0) (h41 : iv 41 41 = -1) (h37 : iv 41 37 = nI v) (h36 : iv 41 36 = nI b) (hT : zMt B s i iv lw) (hJ : zJv B s b v0 n0 (0, i, [], [], v)) (cf : zCf) (m : Nat) (hr : zrch (zkn (zT B s) s) m (0, i, [], [], v) cf) (hfin : zstop (zkn (zT B s) s) cf ∨ ∃ f, zst (zkn (zT B s) s) cf = .inl f) : zMs yX10_readE cX10_readE 2 none 4 [.ref 41] n iv lw (fun vr iv2 lw2 => vr = none ∧ zEo iv B s b cf iv2 lw2) := by
  refine zM.of (by decide) (Nat.le_of_ble_eq_true rfl) (fun X C E => ?_)
  change zJs X n 2 0 [some (.ref 41), none] [] iv lw
  refine z_aload_n C dX10_readE_0 rfl ?_
  refine z_iconst (v := 0) C dX10_readE_1 (by decide) ?_
  refine z_putI C dX10_readE_2 zf_X10_292 zk_41 (by decide) ?_
  refine z_aload_n C dX10_readE_5 rfl ?_
  refine z_iconst (v := 0) C dX10_readE_6 (by decide) ?_
  refine z_putI C dX10_readE_7 zf_X10_295 zk_41 (by decide) ?_
  refine z_iconst (v := 0) C dX10_readE_10 (by decide) ?_
  refine z_istore_n (lv' := [some (.ref 41), some (.int _)]) C dX10_readE_11 (by decide) rfl ?_
  refine lm_readE n hS cf hfin (zC_le (by decide) C) E m (0, i, [], [], v) _ lw hJ ⟨⟨fun q a1 a2 a3 a4 => by rw [zu_n _ _ _ a1, zu_n _ _ _ a1], fun j a1 a2 a3 a4 a5 a6 a7 a8 a9 a10 => by rw [zu_s, pk_un a10, zu_s, pk_un a9], fun j hj => ⟨rfl, rfl⟩⟩, h40, h41, h37, ?_, ?_, fun j hj => absurd hj (by simp), ?_, fun j hj => absurd hj (by simp)⟩ hT hr
  · rw [zu_s, pk_un (by decide), zu_ss]; rfl
  · rw [zu_ss]; rfl
  · rw [zu_s, pk_un (by decide), zu_s, pk_un (by decide)]; exact h36
