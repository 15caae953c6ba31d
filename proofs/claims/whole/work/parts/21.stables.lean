theorem zt_nI {x : Int32} {t : Nat} (h : x = nI t) (ht : t ≤ 1000000000) : x.toInt = t := by rw [h]; exact nI_toInt (by omega)

set_option maxRecDepth 4000 in
theorem c_thas (n : Nat) (iv : zI) (lw : zG) (te : Int32) : zMi yX7_has cX7_has 2 (some .boolean) 0 [.ref 7, .int te] n iv lw (zb (0 ≤ te.toInt ∧ te.toInt < (iv 7 0).toInt)) iv lw := by
  refine zM.of (by decide) (Nat.le_of_ble_eq_true rfl) (fun X C E => ?_)
  change zJs X n 2 0 [some (.ref 7), some (.int te)] [] iv lw
  refine z_iload_n C dX7_has_0 rfl ?_
  refine zt_if_lt (tgt := 16) C dX7_has_1 rfl (by decide) (fun q1 => ?_) (fun q1 => ?_)
  · refine z_iconst (v := 0) C dX7_has_16 (by decide) ?_
    refine zs_iret C E dX7_has_17 rfl ?_ ?_ ?_
    · exact (zb_f (by omega)).symm
    · rfl
    · rfl
  · refine z_iload_n C dX7_has_4 rfl ?_
    refine z_aload_n C dX7_has_5 rfl ?_
    refine z_getI C dX7_has_6 zf_X7_21 zk_7 (by decide) ?_
    refine zt_icmp_ge (tgt := 16) C dX7_has_9 rfl rfl (by decide) (fun q9 => ?_) (fun q9 => ?_)
    · refine z_iconst (v := 0) C dX7_has_16 (by decide) ?_
      refine zs_iret C E dX7_has_17 rfl ?_ ?_ ?_
      · exact (zb_f (by omega)).symm
      · rfl
      · rfl
    · refine z_iconst (v := 1) C dX7_has_12 (by decide) ?_
      refine z_goto (tgt := 17) C dX7_has_13 (by decide) ?_
      refine zs_iret C E dX7_has_17 rfl ?_ ?_ ?_
      · exact (zb_t (by omega)).symm
      · rfl
      · rfl

set_option maxRecDepth 4000 in
theorem c_tenter (n : Nat) (iv : zI) (lw : zG) (inn st : Int32) (hT : 0 ≤ (iv 7 0).toInt) : zMi yX7_enter cX7_enter 3 (some .int) 0 [.ref 7, .int inn, .int st] n iv lw (if ((iv 7 0).toInt < 20 ∧ 0 ≤ st.toInt ∧ st.toInt ≤ 1000) then iv 7 0 else -1) (if ((iv 7 0).toInt < 20 ∧ 0 ≤ st.toInt ∧ st.toInt ≤ 1000) then zu (zu (zu (zu iv 8 (iv 7 0).toNatClampNeg st) 9 (iv 7 0).toNatClampNeg inn) 10 (iv 7 0).toNatClampNeg (-1)) 7 0 (iv 7 0 + 1) else iv) lw := by
  refine zM.of (by decide) (Nat.le_of_ble_eq_true rfl) (fun X C E => ?_)
  change zJs X n 3 0 [some (.ref 7), some (.int inn), some (.int st)] [] iv lw
  refine z_aload_n C dX7_enter_0 rfl ?_
  refine z_getI C dX7_enter_1 zf_X7_21 zk_7 (by decide) ?_
  refine z_bipush (v := 20) C dX7_enter_4 (by decide) ?_
  refine zt_icmp_ge (tgt := 20) C dX7_enter_6 rfl (show (20 : Int32).toInt = 20 by decide) (by decide) (fun q6 => ?_) (fun q6 => ?_)
  · refine z_iconst (v := (-1)) C dX7_enter_20 (by decide) ?_
    refine zs_iret C E dX7_enter_21 rfl ?_ ?_ ?_
    · exact (if_neg (by omega)).symm
    · exact (if_neg (by omega)).symm
    · rfl
  · refine z_iload_n C dX7_enter_9 rfl ?_
    refine zt_if_lt (tgt := 20) C dX7_enter_10 rfl (by decide) (fun q10 => ?_) (fun q10 => ?_)
    · refine z_iconst (v := (-1)) C dX7_enter_20 (by decide) ?_
      refine zs_iret C E dX7_enter_21 rfl ?_ ?_ ?_
      · exact (if_neg (by omega)).symm
      · exact (if_neg (by omega)).symm
      · rfl
    · refine z_iload_n C dX7_enter_13 rfl ?_
      refine z_sipush (v := 1000) C dX7_enter_14 (by decide) ?_
      refine zt_icmp_le (tgt := 22) C dX7_enter_17 rfl (show (1000 : Int32).toInt = 1000 by decide) (by decide) (fun q17 => ?_) (fun q17 => ?_)
      · refine z_aload_n C dX7_enter_22 rfl ?_
        refine zs_getR C dX7_enter_23 zf_X7_11 zk_7 (by decide) (zr_7_1 n) ?_
        refine z_aload_n C dX7_enter_26 rfl ?_
        refine z_getI C dX7_enter_27 zf_X7_21 zk_7 (by decide) ?_
        refine z_iload_n C dX7_enter_30 rfl ?_
        refine z_iast C dX7_enter_31 zk_8 (by decide) ?_ ?_
        · show vp_in (iv 7 0) 20
          exact vp_in_iff.mpr (by omega)
        refine z_aload_n C dX7_enter_32 rfl ?_
        refine zs_getR C dX7_enter_33 zf_X7_15 zk_7 (by decide) (zr_7_2 n) ?_
        refine z_aload_n C dX7_enter_36 rfl ?_
        refine z_getI C dX7_enter_37 zf_X7_21 zk_7 (by decide) ?_
        refine z_iload_n C dX7_enter_40 rfl ?_
        refine z_iast C dX7_enter_41 zk_9 (by decide) ?_ ?_
        · show vp_in (iv 7 0) 20
          exact vp_in_iff.mpr (by omega)
        refine z_aload_n C dX7_enter_42 rfl ?_
        refine zs_getR C dX7_enter_43 zf_X7_18 zk_7 (by decide) (zr_7_3 n) ?_
        refine z_aload_n C dX7_enter_46 rfl ?_
        refine z_getI C dX7_enter_47 zf_X7_21 zk_7 (by decide) ?_
        refine z_iconst (v := (-1)) C dX7_enter_50 (by decide) ?_
        refine z_iast C dX7_enter_51 zk_10 (by decide) ?_ ?_
        · show vp_in (iv 7 0) 20
          exact vp_in_iff.mpr (by omega)
        refine z_aload_n C dX7_enter_52 rfl ?_
        refine z_dup C dX7_enter_53 rfl ?_
        refine z_getI C dX7_enter_54 zf_X7_21 zk_7 (by decide) ?_
        refine z_iconst (v := 1) C dX7_enter_57 (by decide) ?_
        refine z_iadd C dX7_enter_58 ?_
        refine z_putI C dX7_enter_59 zf_X7_21 zk_7 (by decide) ?_
        refine z_aload_n C dX7_enter_62 rfl ?_
        refine z_getI C dX7_enter_63 zf_X7_21 zk_7 (by decide) ?_
        refine z_iconst (v := 1) C dX7_enter_66 (by decide) ?_
        refine z_isub C dX7_enter_67 ?_
        refine zs_iret C E dX7_enter_68 rfl ?_ ?_ ?_
        · rw [if_pos (by omega)]
          exact zpm _
        · rw [if_pos (by omega)]
          rfl
        · rfl
      · refine z_iconst (v := (-1)) C dX7_enter_20 (by decide) ?_
        refine zs_iret C E dX7_enter_21 rfl ?_ ?_ ?_
        · exact (if_neg (by omega)).symm
        · exact (if_neg (by omega)).symm
        · rfl

/-- what of a team is told -/
def zteam (t : Int) (st inn co : Nat → Int32) (te wh : Int32) : Int32 := if ¬ (0 ≤ te.toInt ∧ te.toInt < t) then -1 else if wh = 0 then st te.toNatClampNeg else if wh = 1 then inn te.toNatClampNeg else if wh = 2 then co te.toNatClampNeg else -1

set_option maxRecDepth 4000 in
theorem c_ttell (n : Nat) (iv : zI) (lw : zG) (te wh : Int32) (hT : (iv 7 0).toInt ≤ 20) : zMi yX7_tell cX7_tell 3 (some .int) 1 [.ref 7, .int te, .int wh] n iv lw (zteam (iv 7 0).toInt (iv 8) (iv 9) (iv 10) te wh) iv lw := by
  refine zM.of (by decide) (Nat.le_of_ble_eq_true rfl) (fun X C E => ?_)
  change zJs X n 3 0 [some (.ref 7), some (.int te), some (.int wh)] [] iv lw
  refine z_aload_n C dX7_tell_0 rfl ?_
  refine z_iload_n C dX7_tell_1 rfl ?_
  refine zs_callVi C dX7_tell_2 zm_X7_25 zyX7_has (c_thas _ _ _ _) zc_7 rfl zk_7 (by decide) (by decide) rfl rfl (Nat.le_of_ble_eq_true rfl) (by decide) (by decide) ?_
  refine zb_if_ne (tgt := 10) C dX7_tell_5 (by decide) (fun q5 => ?_) (fun q5 => ?_)
  · refine z_iload_n C dX7_tell_10 rfl ?_
    by_cases qs11_0 : wh = 0
    · refine z_tabIn (tgt := 36) C dX7_tell_11 (by rw [qs11_0]; decide) (by rw [qs11_0]; decide) (by rw [qs11_0]; rfl) (by decide) ?_
      refine z_aload_n C dX7_tell_36 rfl ?_
      refine zs_getR C dX7_tell_37 zf_X7_11 zk_7 (by decide) (zr_7_1 n) ?_
      refine z_iload_n C dX7_tell_40 rfl ?_
      refine z_iald C dX7_tell_41 zk_8 (by decide) ?_ ?_
      · exact vp_in_iff.mpr (by omega)
      refine zs_iret C E dX7_tell_42 rfl ?_ ?_ ?_
      · unfold zteam
        simp [*]
      · rfl
      · rfl
    by_cases qs11_1 : wh = 1
    · refine z_tabIn (tgt := 43) C dX7_tell_11 (by rw [qs11_1]; decide) (by rw [qs11_1]; decide) (by rw [qs11_1]; rfl) (by decide) ?_
      refine z_aload_n C dX7_tell_43 rfl ?_
      refine zs_getR C dX7_tell_44 zf_X7_15 zk_7 (by decide) (zr_7_2 n) ?_
      refine z_iload_n C dX7_tell_47 rfl ?_
      refine z_iald C dX7_tell_48 zk_9 (by decide) ?_ ?_
      · exact vp_in_iff.mpr (by omega)
      refine zs_iret C E dX7_tell_49 rfl ?_ ?_ ?_
      · unfold zteam
        simp [*]
      · rfl
      · rfl
    by_cases qs11_2 : wh = 2
    · refine z_tabIn (tgt := 50) C dX7_tell_11 (by rw [qs11_2]; decide) (by rw [qs11_2]; decide) (by rw [qs11_2]; rfl) (by decide) ?_
      refine z_aload_n C dX7_tell_50 rfl ?_
      refine zs_getR C dX7_tell_51 zf_X7_18 zk_7 (by decide) (zr_7_3 n) ?_
      refine z_iload_n C dX7_tell_54 rfl ?_
      refine z_iald C dX7_tell_55 zk_10 (by decide) ?_ ?_
      · exact vp_in_iff.mpr (by omega)
      refine zs_iret C E dX7_tell_56 rfl ?_ ?_ ?_
      · unfold zteam
        simp [*]
      · rfl
      · rfl
    have qo : (wh : Int32).toInt < 0 ∨ 2 < (wh : Int32).toInt := by
      have h0 : ¬ (wh : Int32).toInt = 0 := fun z => qs11_0 (Int32.toInt_inj.mp z)
      have h1 : ¬ (wh : Int32).toInt = 1 := fun z => qs11_1 (Int32.toInt_inj.mp z)
      have h2 : ¬ (wh : Int32).toInt = 2 := fun z => qs11_2 (Int32.toInt_inj.mp z)
      omega
    refine z_tabOut (tgt := 57) C dX7_tell_11 qo (by decide) ?_
    refine z_iconst (v := (-1)) C dX7_tell_57 (by decide) ?_
    refine zs_iret C E dX7_tell_58 rfl ?_ ?_ ?_
    · unfold zteam
      simp [*]
    · rfl
    · rfl
  · refine z_iconst (v := (-1)) C dX7_tell_8 (by decide) ?_
    refine zs_iret C E dX7_tell_9 rfl ?_ ?_ ?_
    · unfold zteam
      simp [*]
    · rfl
    · rfl

set_option maxRecDepth 4000 in
theorem c_strengthOf (n : Nat) (iv : zI) (lw : zG) (te : Int32) (hT : (iv 7 0).toInt ≤ 20) : zMi yX7_strengthOf cX7_strengthOf 2 (some .int) 1 [.ref 7, .int te] n iv lw (if 0 ≤ te.toInt ∧ te.toInt < (iv 7 0).toInt then iv 8 te.toNatClampNeg else -1) iv lw := by
  refine zM.of (by decide) (Nat.le_of_ble_eq_true rfl) (fun X C E => ?_)
  change zJs X n 2 0 [some (.ref 7), some (.int te)] [] iv lw
  refine z_aload_n C dX7_strengthOf_0 rfl ?_
  refine z_iload_n C dX7_strengthOf_1 rfl ?_
  refine zs_callVi C dX7_strengthOf_2 zm_X7_25 zyX7_has (c_thas _ _ _ _) zc_7 rfl zk_7 (by decide) (by decide) rfl rfl (Nat.le_of_ble_eq_true rfl) (by decide) (by decide) ?_
  refine zb_if_eq (tgt := 17) C dX7_strengthOf_5 (by decide) (fun q5 => ?_) (fun q5 => ?_)
  · refine z_iconst (v := (-1)) C dX7_strengthOf_17 (by decide) ?_
    refine zs_iret C E dX7_strengthOf_18 rfl ?_ ?_ ?_
    · simp [*]
    · rfl
    · rfl
  · refine z_aload_n C dX7_strengthOf_8 rfl ?_
    refine zs_getR C dX7_strengthOf_9 zf_X7_11 zk_7 (by decide) (zr_7_1 n) ?_
    refine z_iload_n C dX7_strengthOf_12 rfl ?_
    refine z_iald C dX7_strengthOf_13 zk_8 (by decide) ?_ ?_
    · exact vp_in_iff.mpr (by omega)
    refine z_goto (tgt := 18) C dX7_strengthOf_14 (by decide) ?_
    refine zs_iret C E dX7_strengthOf_18 rfl ?_ ?_ ?_
    · simp [*]
    · rfl
    · rfl

/-- the strongest team at an inn among the first m, and its strength -/
def zstr (inn st : Nat → Int32) (a : Int32) : Nat → Int32 × Int32
  | 0 => (-1, -1)
  | m + 1 => if inn m = a ∧ (zstr inn st a m).2.toInt < (st m).toInt then (nI m, st m) else zstr inn st a m

theorem zstr_s (inn st : Nat → Int32) (a : Int32) (m : Nat) : zstr inn st a (m + 1) = if inn m = a ∧ (zstr inn st a m).2.toInt < (st m).toInt then (nI m, st m) else zstr inn st a m := rfl

set_option maxRecDepth 4000 in
theorem lp_strongest (n : Nat) (iv : zI) (lw : zG) (ai : Int32) (t : Nat) (ht : iv 7 0 = nI t) (ht2 : t ≤ 20) {X : zX} (C : zC X cX7_strongest 5 RX7 (some .int) "strongest" 0 0 0) (E : zEnd X (91 + 3 * n) 0 0 (zQ n (zQi (zstr (iv 9) (iv 8) ai t).1 iv lw))) : ∀ (k : Nat) (i : Nat), i + k = t → zJs X n 5 7 [some (.ref 7), some (.int ai), some (.int (zstr (iv 9) (iv 8) ai i).1), some (.int (zstr (iv 9) (iv 8) ai i).2), some (.int (nI i))] [] iv lw := by
  intro k
  induction k with
  | zero =>
    intro i hk
    refine z_iload C dX7_strongest_7 rfl ?_
    refine z_aload_n C dX7_strongest_9 rfl ?_
    refine z_getI C dX7_strongest_10 zf_X7_21 zk_7 (by decide) ?_
    refine zt_icmp_ge (tgt := 55) C dX7_strongest_13 (nI_toInt (by omega)) (zt_nI ht (by omega)) (by decide) (fun q13 => ?_) (fun q13 => ?_)
    · refine z_iload_n C dX7_strongest_55 rfl ?_
      refine zs_iret C E dX7_strongest_56 rfl ?_ ?_ ?_
      · rw [show i = t by omega]
      · rfl
      · rfl
    · exfalso; omega
  | succ k ih =>
    intro i hk
    refine z_iload C dX7_strongest_7 rfl ?_
    refine z_aload_n C dX7_strongest_9 rfl ?_
    refine z_getI C dX7_strongest_10 zf_X7_21 zk_7 (by decide) ?_
    refine zt_icmp_ge (tgt := 55) C dX7_strongest_13 (nI_toInt (by omega)) (zt_nI ht (by omega)) (by decide) (fun q13 => ?_) (fun q13 => ?_)
    · exfalso; omega
    · refine z_aload_n C dX7_strongest_16 rfl ?_
      refine zs_getR C dX7_strongest_17 zf_X7_15 zk_7 (by decide) (zr_7_2 n) ?_
      refine z_iload C dX7_strongest_20 rfl ?_
      refine z_iald C dX7_strongest_22 zk_9 (by decide) ?_ ?_
      · exact vp_in_nI (by omega) (by decide)
      refine z_iload_n C dX7_strongest_23 rfl ?_
      refine z_icmp_ne (tgt := 49) C dX7_strongest_24 (by decide) (fun q24 => ?_) (fun q24 => ?_)
      · rw [nI_clamp (by omega)] at q24
        refine z_iinc (y := 1) (lv' := [some (.ref 7), some (.int ai), some (.int _), some (.int _), some (.int _)]) C dX7_strongest_49 rfl (by decide) (by decide) rfl ?_
        refine z_goto (tgt := 7) C dX7_strongest_52 (by decide) ?_
        have ez := zstr_s (iv 9) (iv 8) ai i
        first
          | (rw [nI_1 i]; have e9 : zstr (iv 9) (iv 8) ai (i + 1) = zstr (iv 9) (iv 8) ai i := by rw [ez]; exact if_neg (fun z => by first | exact q24 z.1 | (have := z.2; omega))
             rw [← e9]; exact ih (i + 1) (by omega))
          | (rw [nI_clamp (by omega), nI_1 i]; have e9 : zstr (iv 9) (iv 8) ai (i + 1) = (nI i, iv 8 i) := by rw [ez]; exact if_pos ⟨q24, by omega⟩
             have e8 := ih (i + 1) (by omega)
             rw [e9] at e8; exact e8)
      · rw [nI_clamp (by omega)] at q24
        refine z_aload_n C dX7_strongest_27 rfl ?_
        refine zs_getR C dX7_strongest_28 zf_X7_11 zk_7 (by decide) (zr_7_1 n) ?_
        refine z_iload C dX7_strongest_31 rfl ?_
        refine z_iald C dX7_strongest_33 zk_8 (by decide) ?_ ?_
        · exact vp_in_nI (by omega) (by decide)
        refine z_iload_n C dX7_strongest_34 rfl ?_
        refine zt_icmp_le (tgt := 49) C dX7_strongest_35 rfl rfl (by decide) (fun q35 => ?_) (fun q35 => ?_)
        · rw [nI_clamp (by omega)] at q35
          refine z_iinc (y := 1) (lv' := [some (.ref 7), some (.int ai), some (.int _), some (.int _), some (.int _)]) C dX7_strongest_49 rfl (by decide) (by decide) rfl ?_
          refine z_goto (tgt := 7) C dX7_strongest_52 (by decide) ?_
          have ez := zstr_s (iv 9) (iv 8) ai i
          first
            | (rw [nI_1 i]; have e9 : zstr (iv 9) (iv 8) ai (i + 1) = zstr (iv 9) (iv 8) ai i := by rw [ez]; exact if_neg (fun z => by first | exact q24 z.1 | (have := z.2; omega))
               rw [← e9]; exact ih (i + 1) (by omega))
            | (rw [nI_clamp (by omega), nI_1 i]; have e9 : zstr (iv 9) (iv 8) ai (i + 1) = (nI i, iv 8 i) := by rw [ez]; exact if_pos ⟨q24, by omega⟩
               have e8 := ih (i + 1) (by omega)
               rw [e9] at e8; exact e8)
        · rw [nI_clamp (by omega)] at q35
          refine z_iload C dX7_strongest_38 rfl ?_
          refine z_istore_n (lv' := [some (.ref 7), some (.int ai), some (.int _), some (.int _), some (.int _)]) C dX7_strongest_40 (by decide) rfl ?_
          refine z_aload_n C dX7_strongest_41 rfl ?_
          refine zs_getR C dX7_strongest_42 zf_X7_11 zk_7 (by decide) (zr_7_1 n) ?_
          refine z_iload C dX7_strongest_45 rfl ?_
          refine z_iald C dX7_strongest_47 zk_8 (by decide) ?_ ?_
          · exact vp_in_nI (by omega) (by decide)
          refine z_istore_n (lv' := [some (.ref 7), some (.int ai), some (.int _), some (.int _), some (.int _)]) C dX7_strongest_48 (by decide) rfl ?_
          refine z_iinc (y := 1) (lv' := [some (.ref 7), some (.int ai), some (.int _), some (.int _), some (.int _)]) C dX7_strongest_49 rfl (by decide) (by decide) rfl ?_
          refine z_goto (tgt := 7) C dX7_strongest_52 (by decide) ?_
          have ez := zstr_s (iv 9) (iv 8) ai i
          first
            | (rw [nI_1 i]; have e9 : zstr (iv 9) (iv 8) ai (i + 1) = zstr (iv 9) (iv 8) ai i := by rw [ez]; exact if_neg (fun z => by first | exact q24 z.1 | (have := z.2; omega))
               rw [← e9]; exact ih (i + 1) (by omega))
            | (rw [nI_clamp (by omega), nI_1 i]; have e9 : zstr (iv 9) (iv 8) ai (i + 1) = (nI i, iv 8 i) := by rw [ez]; exact if_pos ⟨q24, by omega⟩
               have e8 := ih (i + 1) (by omega)
               rw [e9] at e8; exact e8)

set_option maxRecDepth 4000 in
theorem c_strongest (n : Nat) (iv : zI) (lw : zG) (ai : Int32) (t : Nat) (ht : iv 7 0 = nI t) (ht2 : t ≤ 20) : zMi yX7_strongest cX7_strongest 5 (some .int) 0 [.ref 7, .int ai] n iv lw (zstr (iv 9) (iv 8) ai t).1 iv lw := by
  refine zM.of (by decide) (Nat.le_of_ble_eq_true rfl) (fun X C E => ?_)
  change zJs X n 5 0 [some (.ref 7), some (.int ai), none, none, none] [] iv lw
  refine z_iconst (v := (-1)) C dX7_strongest_0 (by decide) ?_
  refine z_istore_n (lv' := [some (.ref 7), some (.int ai), some (.int _), none, none]) C dX7_strongest_1 (by decide) rfl ?_
  refine z_iconst (v := (-1)) C dX7_strongest_2 (by decide) ?_
  refine z_istore_n (lv' := [some (.ref 7), some (.int ai), some (.int _), some (.int _), none]) C dX7_strongest_3 (by decide) rfl ?_
  refine z_iconst (v := 0) C dX7_strongest_4 (by decide) ?_
  refine z_istore (lv' := [some (.ref 7), some (.int ai), some (.int _), some (.int _), some (.int _)]) C dX7_strongest_5 (by decide) rfl ?_
  exact lp_strongest n iv lw ai t ht ht2 C E t 0 (by omega)

set_option maxRecDepth 4000 in
theorem c_harness (n : Nat) (iv : zI) (lw : zG) (te co : Int32) (hT : (iv 7 0).toInt ≤ 20) (hs : 0 ≤ te.toInt ∧ te.toInt < (iv 7 0).toInt) : zMv yX7_harness cX7_harness 3 none 1 [.ref 7, .int te, .int co] n iv lw (zu (zu iv 9 te.toNatClampNeg (-1)) 10 te.toNatClampNeg co) lw := by
  refine zM.of (by decide) (Nat.le_of_ble_eq_true rfl) (fun X C E => ?_)
  change zJs X n 3 0 [some (.ref 7), some (.int te), some (.int co)] [] iv lw
  refine z_aload_n C dX7_harness_0 rfl ?_
  refine z_iload_n C dX7_harness_1 rfl ?_
  refine zs_callVi C dX7_harness_2 zm_X7_25 zyX7_has (c_thas _ _ _ _) zc_7 rfl zk_7 (by decide) (by decide) rfl rfl (Nat.le_of_ble_eq_true rfl) (by decide) (by decide) ?_
  refine zb_if_eq (tgt := 22) C dX7_harness_5 (by decide) (fun q5 => ?_) (fun q5 => ?_)
  · exact absurd hs q5
  · refine z_aload_n C dX7_harness_8 rfl ?_
    refine zs_getR C dX7_harness_9 zf_X7_15 zk_7 (by decide) (zr_7_2 n) ?_
    refine z_iload_n C dX7_harness_12 rfl ?_
    refine z_iconst (v := (-1)) C dX7_harness_13 (by decide) ?_
    refine z_iast C dX7_harness_14 zk_9 (by decide) ?_ ?_
    · exact vp_in_iff.mpr (by omega)
    refine z_aload_n C dX7_harness_15 rfl ?_
    refine zs_getR C dX7_harness_16 zf_X7_18 zk_7 (by decide) (zr_7_3 n) ?_
    refine z_iload_n C dX7_harness_19 rfl ?_
    refine z_iload_n C dX7_harness_20 rfl ?_
    refine z_iast C dX7_harness_21 zk_10 (by decide) ?_ ?_
    · exact vp_in_iff.mpr (by omega)
    refine zs_vret C E dX7_harness_22 ?_ rfl
    rfl

set_option maxRecDepth 4000 in
theorem c_stable (n : Nat) (iv : zI) (lw : zG) (te ai : Int32) (hT : (iv 7 0).toInt ≤ 20) (hs : 0 ≤ te.toInt ∧ te.toInt < (iv 7 0).toInt) : zMv yX7_stable cX7_stable 3 none 1 [.ref 7, .int te, .int ai] n iv lw (zu (zu iv 9 te.toNatClampNeg ai) 10 te.toNatClampNeg (-1)) lw := by
  refine zM.of (by decide) (Nat.le_of_ble_eq_true rfl) (fun X C E => ?_)
  change zJs X n 3 0 [some (.ref 7), some (.int te), some (.int ai)] [] iv lw
  refine z_aload_n C dX7_stable_0 rfl ?_
  refine z_iload_n C dX7_stable_1 rfl ?_
  refine zs_callVi C dX7_stable_2 zm_X7_25 zyX7_has (c_thas _ _ _ _) zc_7 rfl zk_7 (by decide) (by decide) rfl rfl (Nat.le_of_ble_eq_true rfl) (by decide) (by decide) ?_
  refine zb_if_eq (tgt := 22) C dX7_stable_5 (by decide) (fun q5 => ?_) (fun q5 => ?_)
  · exact absurd hs q5
  · refine z_aload_n C dX7_stable_8 rfl ?_
    refine zs_getR C dX7_stable_9 zf_X7_15 zk_7 (by decide) (zr_7_2 n) ?_
    refine z_iload_n C dX7_stable_12 rfl ?_
    refine z_iload_n C dX7_stable_13 rfl ?_
    refine z_iast C dX7_stable_14 zk_9 (by decide) ?_ ?_
    · exact vp_in_iff.mpr (by omega)
    refine z_aload_n C dX7_stable_15 rfl ?_
    refine zs_getR C dX7_stable_16 zf_X7_18 zk_7 (by decide) (zr_7_3 n) ?_
    refine z_iload_n C dX7_stable_19 rfl ?_
    refine z_iconst (v := (-1)) C dX7_stable_20 (by decide) ?_
    refine z_iast C dX7_stable_21 zk_10 (by decide) ?_ ?_
    · exact vp_in_iff.mpr (by omega)
    refine zs_vret C E dX7_stable_22 ?_ rfl
    rfl

set_option maxRecDepth 4000 in
theorem c_tire (n : Nat) (iv : zI) (lw : zG) (te co : Int32) (hT : (iv 7 0).toInt ≤ 20) (hs : 0 ≤ te.toInt ∧ te.toInt < (iv 7 0).toInt) : zMv yX7_tire cX7_tire 3 none 1 [.ref 7, .int te, .int co] n iv lw (zu iv 8 te.toNatClampNeg (if 0 < iv 8 te.toNatClampNeg - co then iv 8 te.toNatClampNeg - co else 0)) lw := by
  refine zM.of (by decide) (Nat.le_of_ble_eq_true rfl) (fun X C E => ?_)
  change zJs X n 3 0 [some (.ref 7), some (.int te), some (.int co)] [] iv lw
  refine z_aload_n C dX7_tire_0 rfl ?_
  refine z_iload_n C dX7_tire_1 rfl ?_
  refine zs_callVi C dX7_tire_2 zm_X7_25 zyX7_has (c_thas _ _ _ _) zc_7 rfl zk_7 (by decide) (by decide) rfl rfl (Nat.le_of_ble_eq_true rfl) (by decide) (by decide) ?_
  refine zb_if_eq (tgt := 26) C dX7_tire_5 (by decide) (fun q5 => ?_) (fun q5 => ?_)
  · exact absurd hs q5
  · refine z_aload_n C dX7_tire_8 rfl ?_
    refine zs_getR C dX7_tire_9 zf_X7_11 zk_7 (by decide) (zr_7_1 n) ?_
    refine z_iload_n C dX7_tire_12 rfl ?_
    refine z_iconst (v := 0) C dX7_tire_13 (by decide) ?_
    refine z_aload_n C dX7_tire_14 rfl ?_
    refine zs_getR C dX7_tire_15 zf_X7_11 zk_7 (by decide) (zr_7_1 n) ?_
    refine z_iload_n C dX7_tire_18 rfl ?_
    refine z_iald C dX7_tire_19 zk_8 (by decide) ?_ ?_
    · exact vp_in_iff.mpr (by omega)
    refine z_iload_n C dX7_tire_20 rfl ?_
    refine z_isub C dX7_tire_21 ?_
    refine z_mmax C dX7_tire_22 zm_X7_29 (by decide) (Nat.le_of_ble_eq_true rfl) (by decide) (by decide) ?_
    refine z_iast C dX7_tire_25 zk_8 (by decide) ?_ ?_
    · exact vp_in_iff.mpr (by omega)
    refine zs_vret C E dX7_tire_26 ?_ rfl
    rfl

/-- one team rests -/
def zrs (iv : zI) (k : Nat) : zI :=
  if ¬ iv 9 k = -1 ∧ (iv 8 k).toInt < 1000 then
    (if ¬ iv 6 (iv 9 k).toNatClampNeg = 0 then zu (zu iv 6 (iv 9 k).toNatClampNeg (iv 6 (iv 9 k).toNatClampNeg - 1)) 8 k (if iv 8 k + 3 < 1000 then iv 8 k + 3 else 1000)
     else zu iv 8 k (if iv 8 k + 1 < 1000 then iv 8 k + 1 else 1000))
  else iv
def zrest (iv : zI) : Nat → zI
  | 0 => iv
  | m + 1 => zrs (zrest iv m) m
theorem zrs_o (iv : zI) (k : Nat) {c : Nat} (h6 : c ≠ 6) (h8 : c ≠ 8) : zrs iv k c = iv c := by
  unfold zrs
  split
  · split
    · rw [zu_n _ _ _ h8, zu_n _ _ _ h6]
    · rw [zu_n _ _ _ h8]
  · rfl
theorem zrest_o (iv : zI) {c : Nat} (h6 : c ≠ 6) (h8 : c ≠ 8) : ∀ m, zrest iv m c = iv c
  | 0 => rfl
  | m + 1 => by rw [zrest, zrs_o _ _ h6 h8, zrest_o iv h6 h8 m]

theorem z_sub {X : zX} {N0 nL pc : Nat} {lv lv2 : zLs} {st : List Value} {N : Nat} {kd : zD} {iv : zI} {rf : zF} {lw : zG} {cells slots : Nat} (h : ∀ (i : Nat) (v : Value), lv2[i]? = some (some v) → lv[i]? = some (some v)) (k : zJ X N0 nL pc lv2 st N kd iv rf lw cells slots) : zJ X N0 nL pc lv st N kd iv rf lw cells slots := by
  obtain ⟨p, l, e, R, s, m, args, below, meth, c, D, cA, A, ad0, Q⟩ := X
  intro ad locs H ls g1 g2 g3 g4 g5 g6 hP hD hS hl
  exact k ad locs H ls g1 g2 g3 g4 (fun i v hv => g5 i v (h i v hv)) g6 hP hD hS ⟨hl.1, hl.2.1, fun i v hv => hl.2.2 i v (h i v hv)⟩
theorem z_forget3 {X : zX} {N0 nL pc : Nat} {a b c : Option Value} {d : Value} {st : List Value} {N : Nat} {kd : zD} {iv : zI} {rf : zF} {lw : zG} {cells slots : Nat} (k : zJ X N0 nL pc [a, b, c, none] st N kd iv rf lw cells slots) : zJ X N0 nL pc [a, b, c, some d] st N kd iv rf lw cells slots :=
  z_sub (fun i v h => by
    match i, h with
    | 0, h => exact h
    | 1, h => exact h
    | 2, h => exact h
    | 3, h => simp at h
    | i + 4, h => simp at h) k

set_option maxRecDepth 4000 in
theorem lp_rest (n : Nat) (iv : zI) (lw : zG) (hI : 2 ≤ (iv 1 0).toInt ∧ (iv 1 0).toInt ≤ 8) (t : Nat) (ht : iv 7 0 = nI t) (ht2 : t ≤ 20) (hN : ∀ k, k < t → iv 9 k = -1 ∨ (0 ≤ (iv 9 k).toInt ∧ (iv 9 k).toInt < (iv 1 0).toInt)) {X : zX} (C : zC X cX7_rest 4 RX7 none "rest" 2 0 0) (E : zEnd X (91 + 3 * n) 0 0 (zQ n (zQv (zrest iv t) lw))) : ∀ (k : Nat) (i : Nat), i + k = t → zJs X n 4 2 [some (.ref 7), some (.ref 1), some (.int (nI i)), none] [] (zrest iv i) lw := by
  intro k
  induction k with
  | zero =>
    intro i hk
    have e7 : zrest iv i 7 0 = nI t := by rw [zrest_o iv (by decide) (by decide)]; exact ht
    have e9 : zrest iv i 9 = iv 9 := zrest_o iv (by decide) (by decide) i
    have e1 : zrest iv i 1 = iv 1 := zrest_o iv (by decide) (by decide) i
    refine z_iload_n C dX7_rest_2 rfl ?_
    refine z_aload_n C dX7_rest_3 rfl ?_
    refine z_getI C dX7_rest_4 zf_X7_21 zk_7 (by decide) ?_
    refine zt_icmp_ge (tgt := 77) C dX7_rest_7 (nI_toInt (by omega)) (zt_nI (by rw [zrest_o iv (by decide) (by decide)]; exact ht) (by omega)) (by decide) (fun q7 => ?_) (fun q7 => ?_)
    · refine zs_vret C E dX7_rest_77 ?_ rfl
      rw [show i = t by omega]
    · exfalso; omega
  | succ k ih =>
    intro i hk
    have e7 : zrest iv i 7 0 = nI t := by rw [zrest_o iv (by decide) (by decide)]; exact ht
    have e9 : zrest iv i 9 = iv 9 := zrest_o iv (by decide) (by decide) i
    have e1 : zrest iv i 1 = iv 1 := zrest_o iv (by decide) (by decide) i
    refine z_iload_n C dX7_rest_2 rfl ?_
    refine z_aload_n C dX7_rest_3 rfl ?_
    refine z_getI C dX7_rest_4 zf_X7_21 zk_7 (by decide) ?_
    refine zt_icmp_ge (tgt := 77) C dX7_rest_7 (nI_toInt (by omega)) (zt_nI (by rw [zrest_o iv (by decide) (by decide)]; exact ht) (by omega)) (by decide) (fun q7 => ?_) (fun q7 => ?_)
    · exfalso; omega
    · refine z_aload_n C dX7_rest_10 rfl ?_
      refine zs_getR C dX7_rest_11 zf_X7_15 zk_7 (by decide) (zr_7_2 n) ?_
      refine z_iload_n C dX7_rest_14 rfl ?_
      refine z_iald C dX7_rest_15 zk_9 (by decide) ?_ ?_
      · exact vp_in_nI (by omega) (by decide)
      refine z_iconst (v := (-1)) C dX7_rest_16 (by decide) ?_
      refine z_icmp_eq (tgt := 71) C dX7_rest_17 (by decide) (fun q17 => ?_) (fun q17 => ?_)
      · rw [nI_clamp (by omega)] at q17
        refine z_iinc (y := 1) (lv' := [some (.ref 7), some (.ref 1), some (.int _), none]) C dX7_rest_71 rfl (by decide) (by decide) rfl ?_
        refine z_goto (tgt := 2) C dX7_rest_74 (by decide) ?_
        have ez : zrest iv (i + 1) = zrs (zrest iv i) i := rfl
        first
          | (rw [nI_1 i]; have e5 : zrest iv (i + 1) = zrest iv i := by rw [ez]; unfold zrs; exact if_neg (fun z => by first | exact z.1 q17 | (have := z.2; omega))
             rw [← e5]; exact ih (i + 1) (by omega))
          | (have e5 : zrest iv (i + 1) = zu (zu (zrest iv i) 6 (zrest iv i 9 i).toNatClampNeg (zrest iv i 6 (zrest iv i 9 i).toNatClampNeg - 1)) 8 i (if zrest iv i 8 i + 3 < 1000 then zrest iv i 8 i + 3 else 1000) := by
               rw [ez]; unfold zrs; rw [if_pos ⟨q17, by omega⟩, if_pos q42]
             have e4 := ih (i + 1) (by omega)
             rw [e5] at e4
             simp only [nI_clamp (show i < 2 ^ 31 by omega), if_pos q42, nI_1 i]
             exact z_forget3 e4)
          | (have e5 : zrest iv (i + 1) = zu (zrest iv i) 8 i (if zrest iv i 8 i + 1 < 1000 then zrest iv i 8 i + 1 else 1000) := by
               rw [ez]; unfold zrs; rw [if_pos ⟨q17, by omega⟩, if_neg q42]
             have e4 := ih (i + 1) (by omega)
             rw [e5] at e4
             simp only [nI_clamp (show i < 2 ^ 31 by omega), if_neg q42, nI_1 i]
             exact z_forget3 e4)
      · rw [nI_clamp (by omega)] at q17
        refine z_aload_n C dX7_rest_20 rfl ?_
        refine zs_getR C dX7_rest_21 zf_X7_11 zk_7 (by decide) (zr_7_1 n) ?_
        refine z_iload_n C dX7_rest_24 rfl ?_
        refine z_iald C dX7_rest_25 zk_8 (by decide) ?_ ?_
        · exact vp_in_nI (by omega) (by decide)
        refine z_sipush (v := 1000) C dX7_rest_26 (by decide) ?_
        refine zt_icmp_ge (tgt := 71) C dX7_rest_29 rfl (show (1000 : Int32).toInt = 1000 by decide) (by decide) (fun q29 => ?_) (fun q29 => ?_)
        · rw [nI_clamp (by omega)] at q29
          refine z_iinc (y := 1) (lv' := [some (.ref 7), some (.ref 1), some (.int _), none]) C dX7_rest_71 rfl (by decide) (by decide) rfl ?_
          refine z_goto (tgt := 2) C dX7_rest_74 (by decide) ?_
          have ez : zrest iv (i + 1) = zrs (zrest iv i) i := rfl
          first
            | (rw [nI_1 i]; have e5 : zrest iv (i + 1) = zrest iv i := by rw [ez]; unfold zrs; exact if_neg (fun z => by first | exact z.1 q17 | (have := z.2; omega))
               rw [← e5]; exact ih (i + 1) (by omega))
            | (have e5 : zrest iv (i + 1) = zu (zu (zrest iv i) 6 (zrest iv i 9 i).toNatClampNeg (zrest iv i 6 (zrest iv i 9 i).toNatClampNeg - 1)) 8 i (if zrest iv i 8 i + 3 < 1000 then zrest iv i 8 i + 3 else 1000) := by
                 rw [ez]; unfold zrs; rw [if_pos ⟨q17, by omega⟩, if_pos q42]
               have e4 := ih (i + 1) (by omega)
               rw [e5] at e4
               simp only [nI_clamp (show i < 2 ^ 31 by omega), if_pos q42, nI_1 i]
               exact z_forget3 e4)
            | (have e5 : zrest iv (i + 1) = zu (zrest iv i) 8 i (if zrest iv i 8 i + 1 < 1000 then zrest iv i 8 i + 1 else 1000) := by
                 rw [ez]; unfold zrs; rw [if_pos ⟨q17, by omega⟩, if_neg q42]
               have e4 := ih (i + 1) (by omega)
               rw [e5] at e4
               simp only [nI_clamp (show i < 2 ^ 31 by omega), if_neg q42, nI_1 i]
               exact z_forget3 e4)
        · rw [nI_clamp (by omega)] at q29
          refine z_aload_n C dX7_rest_32 rfl ?_
          refine z_aload_n C dX7_rest_33 rfl ?_
          refine zs_getR C dX7_rest_34 zf_X7_15 zk_7 (by decide) (zr_7_2 n) ?_
          refine z_iload_n C dX7_rest_37 rfl ?_
          refine z_iald C dX7_rest_38 zk_9 (by decide) ?_ ?_
          · exact vp_in_nI (by omega) (by decide)
          refine zs_callVi C dX7_rest_39 zm_X7_35 zyX2_eat (c_eat _ _ _ _ (by rw [e1]; exact hI) (by rw [nI_clamp (by omega), e9, e1]; exact (hN i (by omega)).resolve_left (by rw [← e9]; exact q17))) zc_2 rfl zk_1 (by decide) (by decide) rfl rfl (Nat.le_of_ble_eq_true rfl) (by decide) (by decide) ?_
          refine zb_if_eq (tgt := 49) C dX7_rest_42 (by decide) (fun q42 => ?_) (fun q42 => ?_)
          · rw [nI_clamp (by omega)] at q42
            refine z_iconst (v := 1) C dX7_rest_49 (by decide) ?_
            refine z_istore_n (lv' := [some (.ref 7), some (.ref 1), some (.int _), some (.int _)]) C dX7_rest_50 (by decide) rfl ?_
            refine z_aload_n C dX7_rest_51 rfl ?_
            refine zs_getR C dX7_rest_52 zf_X7_11 zk_7 (by decide) (zr_7_1 n) ?_
            refine z_iload_n C dX7_rest_55 rfl ?_
            refine z_sipush (v := 1000) C dX7_rest_56 (by decide) ?_
            refine z_aload_n C dX7_rest_59 rfl ?_
            refine zs_getR C dX7_rest_60 zf_X7_11 zk_7 (by decide) (zr_7_1 n) ?_
            refine z_iload_n C dX7_rest_63 rfl ?_
            refine z_iald C dX7_rest_64 zk_8 (by decide) ?_ ?_
            · exact vp_in_nI (by omega) (by decide)
            refine z_iload_n C dX7_rest_65 rfl ?_
            refine z_iadd C dX7_rest_66 ?_
            refine z_mmin C dX7_rest_67 zm_X7_40 (by decide) (Nat.le_of_ble_eq_true rfl) (by decide) (by decide) ?_
            refine z_iast C dX7_rest_70 zk_8 (by decide) ?_ ?_
            · exact vp_in_nI (by omega) (by decide)
            refine z_iinc (y := 1) (lv' := [some (.ref 7), some (.ref 1), some (.int _), some (.int _)]) C dX7_rest_71 rfl (by decide) (by decide) rfl ?_
            refine z_goto (tgt := 2) C dX7_rest_74 (by decide) ?_
            have ez : zrest iv (i + 1) = zrs (zrest iv i) i := rfl
            first
              | (rw [nI_1 i]; have e5 : zrest iv (i + 1) = zrest iv i := by rw [ez]; unfold zrs; exact if_neg (fun z => by first | exact z.1 q17 | (have := z.2; omega))
                 rw [← e5]; exact ih (i + 1) (by omega))
              | (have e5 : zrest iv (i + 1) = zu (zu (zrest iv i) 6 (zrest iv i 9 i).toNatClampNeg (zrest iv i 6 (zrest iv i 9 i).toNatClampNeg - 1)) 8 i (if zrest iv i 8 i + 3 < 1000 then zrest iv i 8 i + 3 else 1000) := by
                   rw [ez]; unfold zrs; rw [if_pos ⟨q17, by omega⟩, if_pos q42]
                 have e4 := ih (i + 1) (by omega)
                 rw [e5] at e4
                 simp only [nI_clamp (show i < 2 ^ 31 by omega), if_pos q42, nI_1 i]
                 exact z_forget3 e4)
              | (have e5 : zrest iv (i + 1) = zu (zrest iv i) 8 i (if zrest iv i 8 i + 1 < 1000 then zrest iv i 8 i + 1 else 1000) := by
                   rw [ez]; unfold zrs; rw [if_pos ⟨q17, by omega⟩, if_neg q42]
                 have e4 := ih (i + 1) (by omega)
                 rw [e5] at e4
                 simp only [nI_clamp (show i < 2 ^ 31 by omega), if_neg q42, nI_1 i]
                 exact z_forget3 e4)
          · rw [nI_clamp (by omega)] at q42
            refine z_iconst (v := 3) C dX7_rest_45 (by decide) ?_
            refine z_goto (tgt := 50) C dX7_rest_46 (by decide) ?_
            refine z_istore_n (lv' := [some (.ref 7), some (.ref 1), some (.int _), some (.int _)]) C dX7_rest_50 (by decide) rfl ?_
            refine z_aload_n C dX7_rest_51 rfl ?_
            refine zs_getR C dX7_rest_52 zf_X7_11 zk_7 (by decide) (zr_7_1 n) ?_
            refine z_iload_n C dX7_rest_55 rfl ?_
            refine z_sipush (v := 1000) C dX7_rest_56 (by decide) ?_
            refine z_aload_n C dX7_rest_59 rfl ?_
            refine zs_getR C dX7_rest_60 zf_X7_11 zk_7 (by decide) (zr_7_1 n) ?_
            refine z_iload_n C dX7_rest_63 rfl ?_
            refine z_iald C dX7_rest_64 zk_8 (by decide) ?_ ?_
            · exact vp_in_nI (by omega) (by decide)
            refine z_iload_n C dX7_rest_65 rfl ?_
            refine z_iadd C dX7_rest_66 ?_
            refine z_mmin C dX7_rest_67 zm_X7_40 (by decide) (Nat.le_of_ble_eq_true rfl) (by decide) (by decide) ?_
            refine z_iast C dX7_rest_70 zk_8 (by decide) ?_ ?_
            · exact vp_in_nI (by omega) (by decide)
            refine z_iinc (y := 1) (lv' := [some (.ref 7), some (.ref 1), some (.int _), some (.int _)]) C dX7_rest_71 rfl (by decide) (by decide) rfl ?_
            refine z_goto (tgt := 2) C dX7_rest_74 (by decide) ?_
            have ez : zrest iv (i + 1) = zrs (zrest iv i) i := rfl
            first
              | (rw [nI_1 i]; have e5 : zrest iv (i + 1) = zrest iv i := by rw [ez]; unfold zrs; exact if_neg (fun z => by first | exact z.1 q17 | (have := z.2; omega))
                 rw [← e5]; exact ih (i + 1) (by omega))
              | (have e5 : zrest iv (i + 1) = zu (zu (zrest iv i) 6 (zrest iv i 9 i).toNatClampNeg (zrest iv i 6 (zrest iv i 9 i).toNatClampNeg - 1)) 8 i (if zrest iv i 8 i + 3 < 1000 then zrest iv i 8 i + 3 else 1000) := by
                   rw [ez]; unfold zrs; rw [if_pos ⟨q17, by omega⟩, if_pos q42]
                 have e4 := ih (i + 1) (by omega)
                 rw [e5] at e4
                 simp only [nI_clamp (show i < 2 ^ 31 by omega), if_pos q42, nI_1 i]
                 exact z_forget3 e4)
              | (have e5 : zrest iv (i + 1) = zu (zrest iv i) 8 i (if zrest iv i 8 i + 1 < 1000 then zrest iv i 8 i + 1 else 1000) := by
                   rw [ez]; unfold zrs; rw [if_pos ⟨q17, by omega⟩, if_neg q42]
                 have e4 := ih (i + 1) (by omega)
                 rw [e5] at e4
                 simp only [nI_clamp (show i < 2 ^ 31 by omega), if_neg q42, nI_1 i]
                 exact z_forget3 e4)

set_option maxRecDepth 4000 in
theorem c_rest (n : Nat) (iv : zI) (lw : zG) (hI : 2 ≤ (iv 1 0).toInt ∧ (iv 1 0).toInt ≤ 8) (t : Nat) (ht : iv 7 0 = nI t) (ht2 : t ≤ 20) (hN : ∀ k, k < t → iv 9 k = -1 ∨ (0 ≤ (iv 9 k).toInt ∧ (iv 9 k).toInt < (iv 1 0).toInt)) : zMv yX7_rest cX7_rest 4 none 2 [.ref 7, .ref 1] n iv lw (zrest iv t) lw := by
  refine zM.of (by decide) (Nat.le_of_ble_eq_true rfl) (fun X C E => ?_)
  change zJs X n 4 0 [some (.ref 7), some (.ref 1), none, none] [] iv lw
  refine z_iconst (v := 0) C dX7_rest_0 (by decide) ?_
  refine z_istore_n (lv' := [some (.ref 7), some (.ref 1), some (.int _), none]) C dX7_rest_1 (by decide) rfl ?_
  exact lp_rest n iv lw hI t ht ht2 hN C E t 0 (by omega)
