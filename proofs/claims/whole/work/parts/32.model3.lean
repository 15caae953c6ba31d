set_option maxRecDepth 4000 in
theorem lm_toldU (n : Nat) (iv : zI) (lw : zG) (i : Nat) (hi : i < 8) (b a d : Nat) (hf : iv 52 i = nI a) (hU : (iv 52 i).toInt < (iv 53 i).toInt) (hb : a + d = b) (hb2 : b ≤ 8) {X : zX} (C : zC X cX10_toldAt 5 RX10 (some .int) "toldAt" 2 0 0) (E : zEnd X (91 + 3 * n) 0 0 (zQ n (zQi (zacc (iv 54 i) (fun j => iv 42 (a + j) * zpace (iv 50 i) + 2 * iv 43 (a + j) + (if j = 0 then 0 else 2)) d) iv lw))) : ∀ (k : Nat) (j : Nat), j + k = d → zJs X n 5 15 [some (.ref 41), some (.int (nI i)), some (.int (nI b)), some (.int (zacc (iv 54 i) (fun j => iv 42 (a + j) * zpace (iv 50 i) + 2 * iv 43 (a + j) + (if j = 0 then 0 else 2)) j)), some (.int (nI (a + j)))] [] iv lw := by
  intro k
  induction k with
  | zero =>
    intro j hk
    refine z_iload C dX10_toldAt_15 rfl ?_
    refine z_iload_n C dX10_toldAt_17 rfl ?_
    refine z_icmp_eq (tgt := 66) C dX10_toldAt_18 (by decide) (fun q18 => ?_) (fun q18 => ?_)
    · refine z_iload_n C dX10_toldAt_66 rfl ?_
      refine zs_iret C E dX10_toldAt_67 rfl ?_ ?_ ?_
      · rw [show j = d by omega]
      · rfl
      · rfl
    · exfalso; apply q18; rw [show j = d by omega]; exact congrArg nI (by omega)
  | succ k ih =>
    intro j hk
    refine z_iload C dX10_toldAt_15 rfl ?_
    refine z_iload_n C dX10_toldAt_17 rfl ?_
    have ez : znext (iv 52 i) (iv 53 i) (nI (a + j)) = nI (a + j) := if_pos hU
    refine z_icmp_eq (tgt := 66) C dX10_toldAt_18 (by decide) (fun q18 => ?_) (fun q18 => ?_)
    · exfalso; have := (nI_eq (by omega) (by omega)).mp q18; omega
    · refine z_iload_n C dX10_toldAt_21 rfl ?_
      refine z_aload_n C dX10_toldAt_22 rfl ?_
      refine z_iload_n C dX10_toldAt_23 rfl ?_
      refine z_aload_n C dX10_toldAt_24 rfl ?_
      refine z_iload_n C dX10_toldAt_25 rfl ?_
      refine z_iload C dX10_toldAt_26 rfl ?_
      refine zs_callVi C dX10_toldAt_28 zm_X10_195 zyX10_stageFrom (m_stageFrom _ _ _ i hi _) zc_10 rfl zk_41 (by decide) (by decide) rfl rfl (Nat.le_of_ble_eq_true rfl) (by decide) (by decide) ?_
      refine zs_callVi C dX10_toldAt_31 zm_X10_199 zyX10_plainly (m_plainly _ _ _ i hi _ (by rw [ez]; exact vp_in_nI (by omega) (by decide))) zc_10 rfl zk_41 (by decide) (by decide) rfl rfl (Nat.le_of_ble_eq_true rfl) (by decide) (by decide) ?_
      refine z_iload C dX10_toldAt_34 rfl ?_
      refine z_aload_n C dX10_toldAt_36 rfl ?_
      refine zs_getR C dX10_toldAt_37 zf_X10_44 zk_41 (by decide) (zr_41_14 n) ?_
      refine z_iload_n C dX10_toldAt_40 rfl ?_
      refine z_iald C dX10_toldAt_41 zk_52 (by decide) ?_ ?_
      · exact vp_in_nI (by omega) (by decide)
      refine z_icmp_ne (tgt := 49) C dX10_toldAt_42 (by decide) (fun q42 => ?_) (fun q42 => ?_)
      · refine z_iconst (v := 2) C dX10_toldAt_49 (by decide) ?_
        refine z_iadd C dX10_toldAt_50 ?_
        refine z_iadd C dX10_toldAt_51 ?_
        refine z_istore_n (lv' := [some (.ref 41), some (.int _), some (.int _), some (.int _), some (.int _)]) C dX10_toldAt_52 (by decide) rfl ?_
        refine z_iload C dX10_toldAt_53 rfl ?_
        refine z_aload_n C dX10_toldAt_55 rfl ?_
        refine z_iload_n C dX10_toldAt_56 rfl ?_
        refine zs_callVi C dX10_toldAt_57 zm_X10_191 zyX10_wayOf (m_wayOf _ _ _ i hi) zc_10 rfl zk_41 (by decide) (by decide) rfl rfl (Nat.le_of_ble_eq_true rfl) (by decide) (by decide) ?_
        refine z_iadd C dX10_toldAt_60 ?_
        refine z_istore (lv' := [some (.ref 41), some (.int _), some (.int _), some (.int _), some (.int _)]) C dX10_toldAt_61 (by decide) rfl ?_
        refine z_goto (tgt := 15) C dX10_toldAt_63 (by decide) ?_
        rw [show zstep (iv 52 i) (iv 53 i) = 1 from if_pos hU, nI_1 (a + j), show a + j + 1 = a + (j + 1) by omega]
        rw [nI_clamp (show i < 2 ^ 31 by omega)] at q42
        first
          | (have j0 : j = 0 := by
               rw [hf] at q42; have := (nI_eq (by omega) (by omega)).mp q42; omega
             have a3 := ih (j + 1) (by omega)
             rw [show zacc (iv 54 i) (fun j => iv 42 (a + j) * zpace (iv 50 i) + 2 * iv 43 (a + j) + (if j = 0 then 0 else 2)) (j + 1) = zacc (iv 54 i) (fun j => iv 42 (a + j) * zpace (iv 50 i) + 2 * iv 43 (a + j) + (if j = 0 then 0 else 2)) j + (iv 42 (a + j) * zpace (iv 50 i) + 2 * iv 43 (a + j) + 0) by rw [zacc, if_pos j0]] at a3
             rw [ez, nI_clamp (by omega)]
             exact a3)
          | (have j0 : ¬ j = 0 := fun z => q42 (by rw [hf, z]; rfl)
             have a3 := ih (j + 1) (by omega)
             rw [show zacc (iv 54 i) (fun j => iv 42 (a + j) * zpace (iv 50 i) + 2 * iv 43 (a + j) + (if j = 0 then 0 else 2)) (j + 1) = zacc (iv 54 i) (fun j => iv 42 (a + j) * zpace (iv 50 i) + 2 * iv 43 (a + j) + (if j = 0 then 0 else 2)) j + (iv 42 (a + j) * zpace (iv 50 i) + 2 * iv 43 (a + j) + 2) by rw [zacc, if_neg j0]] at a3
             rw [ez, nI_clamp (by omega)]
             exact a3)
      · refine z_iconst (v := 0) C dX10_toldAt_45 (by decide) ?_
        refine z_goto (tgt := 50) C dX10_toldAt_46 (by decide) ?_
        refine z_iadd C dX10_toldAt_50 ?_
        refine z_iadd C dX10_toldAt_51 ?_
        refine z_istore_n (lv' := [some (.ref 41), some (.int _), some (.int _), some (.int _), some (.int _)]) C dX10_toldAt_52 (by decide) rfl ?_
        refine z_iload C dX10_toldAt_53 rfl ?_
        refine z_aload_n C dX10_toldAt_55 rfl ?_
        refine z_iload_n C dX10_toldAt_56 rfl ?_
        refine zs_callVi C dX10_toldAt_57 zm_X10_191 zyX10_wayOf (m_wayOf _ _ _ i hi) zc_10 rfl zk_41 (by decide) (by decide) rfl rfl (Nat.le_of_ble_eq_true rfl) (by decide) (by decide) ?_
        refine z_iadd C dX10_toldAt_60 ?_
        refine z_istore (lv' := [some (.ref 41), some (.int _), some (.int _), some (.int _), some (.int _)]) C dX10_toldAt_61 (by decide) rfl ?_
        refine z_goto (tgt := 15) C dX10_toldAt_63 (by decide) ?_
        rw [show zstep (iv 52 i) (iv 53 i) = 1 from if_pos hU, nI_1 (a + j), show a + j + 1 = a + (j + 1) by omega]
        rw [nI_clamp (show i < 2 ^ 31 by omega)] at q42
        first
          | (have j0 : j = 0 := by
               rw [hf] at q42; have := (nI_eq (by omega) (by omega)).mp q42; omega
             have a3 := ih (j + 1) (by omega)
             rw [show zacc (iv 54 i) (fun j => iv 42 (a + j) * zpace (iv 50 i) + 2 * iv 43 (a + j) + (if j = 0 then 0 else 2)) (j + 1) = zacc (iv 54 i) (fun j => iv 42 (a + j) * zpace (iv 50 i) + 2 * iv 43 (a + j) + (if j = 0 then 0 else 2)) j + (iv 42 (a + j) * zpace (iv 50 i) + 2 * iv 43 (a + j) + 0) by rw [zacc, if_pos j0]] at a3
             rw [ez, nI_clamp (by omega)]
             exact a3)
          | (have j0 : ¬ j = 0 := fun z => q42 (by rw [hf, z]; rfl)
             have a3 := ih (j + 1) (by omega)
             rw [show zacc (iv 54 i) (fun j => iv 42 (a + j) * zpace (iv 50 i) + 2 * iv 43 (a + j) + (if j = 0 then 0 else 2)) (j + 1) = zacc (iv 54 i) (fun j => iv 42 (a + j) * zpace (iv 50 i) + 2 * iv 43 (a + j) + (if j = 0 then 0 else 2)) j + (iv 42 (a + j) * zpace (iv 50 i) + 2 * iv 43 (a + j) + 2) by rw [zacc, if_neg j0]] at a3
             rw [ez, nI_clamp (by omega)]
             exact a3)

set_option maxRecDepth 4000 in
theorem m_toldAtU (n : Nat) (iv : zI) (lw : zG) (i : Nat) (hi : i < 8) (b a d : Nat) (hf : iv 52 i = nI a) (hU : (iv 52 i).toInt < (iv 53 i).toInt) (hb : a + d = b) (hb2 : b ≤ 8) : zMi yX10_toldAt cX10_toldAt 5 (some .int) 2 [.ref 41, .int (nI i), .int (nI b)] n iv lw (zacc (iv 54 i) (fun j => iv 42 (a + j) * zpace (iv 50 i) + 2 * iv 43 (a + j) + (if j = 0 then 0 else 2)) d) iv lw := by
  refine zM.of (by decide) (Nat.le_of_ble_eq_true rfl) (fun X C E => ?_)
  change zJs X n 5 0 [some (.ref 41), some (.int (nI i)), some (.int (nI b)), none, none] [] iv lw
  refine z_aload_n C dX10_toldAt_0 rfl ?_
  refine zs_getR C dX10_toldAt_1 zf_X10_50 zk_41 (by decide) (zr_41_16 n) ?_
  refine z_iload_n C dX10_toldAt_4 rfl ?_
  refine z_iald C dX10_toldAt_5 zk_54 (by decide) ?_ ?_
  · exact vp_in_nI (by omega) (by decide)
  refine z_istore_n (lv' := [some (.ref 41), some (.int _), some (.int _), some (.int _), none]) C dX10_toldAt_6 (by decide) rfl ?_
  refine z_aload_n C dX10_toldAt_7 rfl ?_
  refine zs_getR C dX10_toldAt_8 zf_X10_44 zk_41 (by decide) (zr_41_14 n) ?_
  refine z_iload_n C dX10_toldAt_11 rfl ?_
  refine z_iald C dX10_toldAt_12 zk_52 (by decide) ?_ ?_
  · exact vp_in_nI (by omega) (by decide)
  refine z_istore (lv' := [some (.ref 41), some (.int _), some (.int _), some (.int _), some (.int _)]) C dX10_toldAt_13 (by decide) rfl ?_
  rw [nI_clamp (show i < 2 ^ 31 by omega), hf]
  exact lm_toldU n iv lw i hi b a d hf hU hb hb2 C E d 0 (by omega)

set_option maxRecDepth 4000 in
theorem lm_toldD (n : Nat) (iv : zI) (lw : zG) (i : Nat) (hi : i < 8) (b a d : Nat) (hf : iv 52 i = nI a) (hU : ¬ (iv 52 i).toInt < (iv 53 i).toInt) (hb : b + d = a) (hb2 : a ≤ 8) {X : zX} (C : zC X cX10_toldAt 5 RX10 (some .int) "toldAt" 2 0 0) (E : zEnd X (91 + 3 * n) 0 0 (zQ n (zQi (zacc (iv 54 i) (fun j => iv 42 (a - (j + 1)) * zpace (iv 50 i) + 2 * iv 43 (a - (j + 1)) + (if j = 0 then 0 else 2)) d) iv lw))) : ∀ (k : Nat) (j : Nat), j + k = d → zJs X n 5 15 [some (.ref 41), some (.int (nI i)), some (.int (nI b)), some (.int (zacc (iv 54 i) (fun j => iv 42 (a - (j + 1)) * zpace (iv 50 i) + 2 * iv 43 (a - (j + 1)) + (if j = 0 then 0 else 2)) j)), some (.int (nI (a - j)))] [] iv lw := by
  intro k
  induction k with
  | zero =>
    intro j hk
    refine z_iload C dX10_toldAt_15 rfl ?_
    refine z_iload_n C dX10_toldAt_17 rfl ?_
    refine z_icmp_eq (tgt := 66) C dX10_toldAt_18 (by decide) (fun q18 => ?_) (fun q18 => ?_)
    · refine z_iload_n C dX10_toldAt_66 rfl ?_
      refine zs_iret C E dX10_toldAt_67 rfl ?_ ?_ ?_
      · rw [show j = d by omega]
      · rfl
      · rfl
    · exfalso; apply q18; rw [show j = d by omega]; exact congrArg nI (by omega)
  | succ k ih =>
    intro j hk
    refine z_iload C dX10_toldAt_15 rfl ?_
    refine z_iload_n C dX10_toldAt_17 rfl ?_
    have ez : znext (iv 52 i) (iv 53 i) (nI (a - j)) = nI (a - (j + 1)) := by
      unfold znext
      rw [if_neg hU, show a - j = a - (j + 1) + 1 by omega]
      exact nI_pred _
    refine z_icmp_eq (tgt := 66) C dX10_toldAt_18 (by decide) (fun q18 => ?_) (fun q18 => ?_)
    · exfalso; have := (nI_eq (by omega) (by omega)).mp q18; omega
    · refine z_iload_n C dX10_toldAt_21 rfl ?_
      refine z_aload_n C dX10_toldAt_22 rfl ?_
      refine z_iload_n C dX10_toldAt_23 rfl ?_
      refine z_aload_n C dX10_toldAt_24 rfl ?_
      refine z_iload_n C dX10_toldAt_25 rfl ?_
      refine z_iload C dX10_toldAt_26 rfl ?_
      refine zs_callVi C dX10_toldAt_28 zm_X10_195 zyX10_stageFrom (m_stageFrom _ _ _ i hi _) zc_10 rfl zk_41 (by decide) (by decide) rfl rfl (Nat.le_of_ble_eq_true rfl) (by decide) (by decide) ?_
      refine zs_callVi C dX10_toldAt_31 zm_X10_199 zyX10_plainly (m_plainly _ _ _ i hi _ (by rw [ez]; exact vp_in_nI (by omega) (by decide))) zc_10 rfl zk_41 (by decide) (by decide) rfl rfl (Nat.le_of_ble_eq_true rfl) (by decide) (by decide) ?_
      refine z_iload C dX10_toldAt_34 rfl ?_
      refine z_aload_n C dX10_toldAt_36 rfl ?_
      refine zs_getR C dX10_toldAt_37 zf_X10_44 zk_41 (by decide) (zr_41_14 n) ?_
      refine z_iload_n C dX10_toldAt_40 rfl ?_
      refine z_iald C dX10_toldAt_41 zk_52 (by decide) ?_ ?_
      · exact vp_in_nI (by omega) (by decide)
      refine z_icmp_ne (tgt := 49) C dX10_toldAt_42 (by decide) (fun q42 => ?_) (fun q42 => ?_)
      · refine z_iconst (v := 2) C dX10_toldAt_49 (by decide) ?_
        refine z_iadd C dX10_toldAt_50 ?_
        refine z_iadd C dX10_toldAt_51 ?_
        refine z_istore_n (lv' := [some (.ref 41), some (.int _), some (.int _), some (.int _), some (.int _)]) C dX10_toldAt_52 (by decide) rfl ?_
        refine z_iload C dX10_toldAt_53 rfl ?_
        refine z_aload_n C dX10_toldAt_55 rfl ?_
        refine z_iload_n C dX10_toldAt_56 rfl ?_
        refine zs_callVi C dX10_toldAt_57 zm_X10_191 zyX10_wayOf (m_wayOf _ _ _ i hi) zc_10 rfl zk_41 (by decide) (by decide) rfl rfl (Nat.le_of_ble_eq_true rfl) (by decide) (by decide) ?_
        refine z_iadd C dX10_toldAt_60 ?_
        refine z_istore (lv' := [some (.ref 41), some (.int _), some (.int _), some (.int _), some (.int _)]) C dX10_toldAt_61 (by decide) rfl ?_
        refine z_goto (tgt := 15) C dX10_toldAt_63 (by decide) ?_
        rw [show zstep (iv 52 i) (iv 53 i) = -1 from if_neg hU, show nI (a - j) + (-1) = nI (a - (j + 1)) by rw [show a - j = a - (j + 1) + 1 by omega]; exact pk_m1 _]
        rw [nI_clamp (show i < 2 ^ 31 by omega)] at q42
        first
          | (have j0 : j = 0 := by
               rw [hf] at q42; have := (nI_eq (by omega) (by omega)).mp q42; omega
             have a3 := ih (j + 1) (by omega)
             rw [show zacc (iv 54 i) (fun j => iv 42 (a - (j + 1)) * zpace (iv 50 i) + 2 * iv 43 (a - (j + 1)) + (if j = 0 then 0 else 2)) (j + 1) = zacc (iv 54 i) (fun j => iv 42 (a - (j + 1)) * zpace (iv 50 i) + 2 * iv 43 (a - (j + 1)) + (if j = 0 then 0 else 2)) j + (iv 42 (a - (j + 1)) * zpace (iv 50 i) + 2 * iv 43 (a - (j + 1)) + 0) by rw [zacc, if_pos j0]] at a3
             rw [ez, nI_clamp (by omega)]
             exact a3)
          | (have j0 : ¬ j = 0 := fun z => q42 (by rw [hf, z]; rfl)
             have a3 := ih (j + 1) (by omega)
             rw [show zacc (iv 54 i) (fun j => iv 42 (a - (j + 1)) * zpace (iv 50 i) + 2 * iv 43 (a - (j + 1)) + (if j = 0 then 0 else 2)) (j + 1) = zacc (iv 54 i) (fun j => iv 42 (a - (j + 1)) * zpace (iv 50 i) + 2 * iv 43 (a - (j + 1)) + (if j = 0 then 0 else 2)) j + (iv 42 (a - (j + 1)) * zpace (iv 50 i) + 2 * iv 43 (a - (j + 1)) + 2) by rw [zacc, if_neg j0]] at a3
             rw [ez, nI_clamp (by omega)]
             exact a3)
      · refine z_iconst (v := 0) C dX10_toldAt_45 (by decide) ?_
        refine z_goto (tgt := 50) C dX10_toldAt_46 (by decide) ?_
        refine z_iadd C dX10_toldAt_50 ?_
        refine z_iadd C dX10_toldAt_51 ?_
        refine z_istore_n (lv' := [some (.ref 41), some (.int _), some (.int _), some (.int _), some (.int _)]) C dX10_toldAt_52 (by decide) rfl ?_
        refine z_iload C dX10_toldAt_53 rfl ?_
        refine z_aload_n C dX10_toldAt_55 rfl ?_
        refine z_iload_n C dX10_toldAt_56 rfl ?_
        refine zs_callVi C dX10_toldAt_57 zm_X10_191 zyX10_wayOf (m_wayOf _ _ _ i hi) zc_10 rfl zk_41 (by decide) (by decide) rfl rfl (Nat.le_of_ble_eq_true rfl) (by decide) (by decide) ?_
        refine z_iadd C dX10_toldAt_60 ?_
        refine z_istore (lv' := [some (.ref 41), some (.int _), some (.int _), some (.int _), some (.int _)]) C dX10_toldAt_61 (by decide) rfl ?_
        refine z_goto (tgt := 15) C dX10_toldAt_63 (by decide) ?_
        rw [show zstep (iv 52 i) (iv 53 i) = -1 from if_neg hU, show nI (a - j) + (-1) = nI (a - (j + 1)) by rw [show a - j = a - (j + 1) + 1 by omega]; exact pk_m1 _]
        rw [nI_clamp (show i < 2 ^ 31 by omega)] at q42
        first
          | (have j0 : j = 0 := by
               rw [hf] at q42; have := (nI_eq (by omega) (by omega)).mp q42; omega
             have a3 := ih (j + 1) (by omega)
             rw [show zacc (iv 54 i) (fun j => iv 42 (a - (j + 1)) * zpace (iv 50 i) + 2 * iv 43 (a - (j + 1)) + (if j = 0 then 0 else 2)) (j + 1) = zacc (iv 54 i) (fun j => iv 42 (a - (j + 1)) * zpace (iv 50 i) + 2 * iv 43 (a - (j + 1)) + (if j = 0 then 0 else 2)) j + (iv 42 (a - (j + 1)) * zpace (iv 50 i) + 2 * iv 43 (a - (j + 1)) + 0) by rw [zacc, if_pos j0]] at a3
             rw [ez, nI_clamp (by omega)]
             exact a3)
          | (have j0 : ¬ j = 0 := fun z => q42 (by rw [hf, z]; rfl)
             have a3 := ih (j + 1) (by omega)
             rw [show zacc (iv 54 i) (fun j => iv 42 (a - (j + 1)) * zpace (iv 50 i) + 2 * iv 43 (a - (j + 1)) + (if j = 0 then 0 else 2)) (j + 1) = zacc (iv 54 i) (fun j => iv 42 (a - (j + 1)) * zpace (iv 50 i) + 2 * iv 43 (a - (j + 1)) + (if j = 0 then 0 else 2)) j + (iv 42 (a - (j + 1)) * zpace (iv 50 i) + 2 * iv 43 (a - (j + 1)) + 2) by rw [zacc, if_neg j0]] at a3
             rw [ez, nI_clamp (by omega)]
             exact a3)

set_option maxRecDepth 4000 in
theorem m_toldAtD (n : Nat) (iv : zI) (lw : zG) (i : Nat) (hi : i < 8) (b a d : Nat) (hf : iv 52 i = nI a) (hU : ¬ (iv 52 i).toInt < (iv 53 i).toInt) (hb : b + d = a) (hb2 : a ≤ 8) : zMi yX10_toldAt cX10_toldAt 5 (some .int) 2 [.ref 41, .int (nI i), .int (nI b)] n iv lw (zacc (iv 54 i) (fun j => iv 42 (a - (j + 1)) * zpace (iv 50 i) + 2 * iv 43 (a - (j + 1)) + (if j = 0 then 0 else 2)) d) iv lw := by
  refine zM.of (by decide) (Nat.le_of_ble_eq_true rfl) (fun X C E => ?_)
  change zJs X n 5 0 [some (.ref 41), some (.int (nI i)), some (.int (nI b)), none, none] [] iv lw
  refine z_aload_n C dX10_toldAt_0 rfl ?_
  refine zs_getR C dX10_toldAt_1 zf_X10_50 zk_41 (by decide) (zr_41_16 n) ?_
  refine z_iload_n C dX10_toldAt_4 rfl ?_
  refine z_iald C dX10_toldAt_5 zk_54 (by decide) ?_ ?_
  · exact vp_in_nI (by omega) (by decide)
  refine z_istore_n (lv' := [some (.ref 41), some (.int _), some (.int _), some (.int _), none]) C dX10_toldAt_6 (by decide) rfl ?_
  refine z_aload_n C dX10_toldAt_7 rfl ?_
  refine zs_getR C dX10_toldAt_8 zf_X10_44 zk_41 (by decide) (zr_41_14 n) ?_
  refine z_iload_n C dX10_toldAt_11 rfl ?_
  refine z_iald C dX10_toldAt_12 zk_52 (by decide) ?_ ?_
  · exact vp_in_nI (by omega) (by decide)
  refine z_istore (lv' := [some (.ref 41), some (.int _), some (.int _), some (.int _), some (.int _)]) C dX10_toldAt_13 (by decide) rfl ?_
  rw [nI_clamp (show i < 2 ^ 31 by omega), hf]
  exact lm_toldD n iv lw i hi b a d hf hU hb hb2 C E d 0 (by omega)
