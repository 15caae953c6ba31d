/-! the reference's minute -/
def zmrs (iv : zI) (k : Nat) : zI :=
  if ¬ (iv 48 k).toInt < 0 ∧ (iv 47 k).toInt < 1000 then
    (if 0 < (iv 46 (iv 48 k).toNatClampNeg).toInt then zu (zu iv 46 (iv 48 k).toNatClampNeg (iv 46 (iv 48 k).toNatClampNeg - 1)) 47 k (if 1000 < (iv 47 k + 3).toInt then 1000 else iv 47 k + 3)
     else zu iv 47 k (if 1000 < (iv 47 k + 1).toInt then 1000 else iv 47 k + 1))
  else iv
def zmrest (iv : zI) : Nat → zI
  | 0 => iv
  | m + 1 => zmrs (zmrest iv m) m
theorem zmrs_o (iv : zI) (k : Nat) {c : Nat} (h6 : c ≠ 46) (h8 : c ≠ 47) : zmrs iv k c = iv c := by
  unfold zmrs
  split
  · split
    · rw [zu_n _ _ _ h8, zu_n _ _ _ h6]
    · rw [zu_n _ _ _ h8]
  · rfl
theorem zmrest_o (iv : zI) {c : Nat} (h6 : c ≠ 46) (h8 : c ≠ 47) : ∀ m, zmrest iv m c = iv c
  | 0 => rfl
  | m + 1 => by rw [zmrest, zmrs_o _ _ h6 h8, zmrest_o iv h6 h8 m]

theorem z_dropL2 {a b c : Option Value} : ∀ (k : Nat) (v : Value), [a, b, none][k]? = some (some v) → [a, b, c][k]? = some (some v) := by
  intro k v hv
  match k, hv with
  | 0, hv => exact hv
  | 1, hv => exact hv
  | 2, hv => simp at hv
  | k + 3, hv => simp at hv

set_option maxRecDepth 4000 in
theorem lm_rest (n : Nat) (iv : zI) (lw : zG) (t : Nat) (ht : iv 41 7 = nI t) (ht2 : t ≤ 20) (hN : ∀ k, k < t → (iv 48 k).toInt < 8) {X : zX} (C : zC X cX10_rest 3 RX10 none "rest" 0 0 0) (E : zEnd X (91 + 3 * n) 0 0 (zQ n (zQv (zmrest iv t) lw))) : ∀ (k : Nat) (i : Nat), i + k = t → zJs X n 3 2 [some (.ref 41), some (.int (nI i)), none] [] (zmrest iv i) lw := by
  intro k
  induction k with
  | zero =>
    intro i hk
    have e48 : zmrest iv i 48 = iv 48 := zmrest_o iv (by decide) (by decide) i
    refine z_iload_n C dX10_rest_2 rfl ?_
    refine z_aload_n C dX10_rest_3 rfl ?_
    refine z_getI C dX10_rest_4 zf_X10_184 zk_41 (by decide) ?_
    refine zt_icmp_ge (tgt := 107) C dX10_rest_7 (nI_toInt (by omega)) (zt_nI (by rw [zmrest_o iv (by decide) (by decide)]; exact ht) (by omega)) (by decide) (fun q7 => ?_) (fun q7 => ?_)
    · refine zs_vret C E dX10_rest_107 ?_ rfl
      rw [show i = t by omega]
    · exfalso; omega
  | succ k ih =>
    intro i hk
    have e48 : zmrest iv i 48 = iv 48 := zmrest_o iv (by decide) (by decide) i
    refine z_iload_n C dX10_rest_2 rfl ?_
    refine z_aload_n C dX10_rest_3 rfl ?_
    refine z_getI C dX10_rest_4 zf_X10_184 zk_41 (by decide) ?_
    refine zt_icmp_ge (tgt := 107) C dX10_rest_7 (nI_toInt (by omega)) (zt_nI (by rw [zmrest_o iv (by decide) (by decide)]; exact ht) (by omega)) (by decide) (fun q7 => ?_) (fun q7 => ?_)
    · exfalso; omega
    · refine z_aload_n C dX10_rest_10 rfl ?_
      refine zs_getR C dX10_rest_11 zf_X10_32 zk_41 (by decide) (zr_41_9 n) ?_
      refine z_iload_n C dX10_rest_14 rfl ?_
      refine z_iald C dX10_rest_15 zk_48 (by decide) ?_ ?_
      · exact vp_in_nI (by omega) (by decide)
      refine zt_if_lt (tgt := 101) C dX10_rest_16 rfl (by decide) (fun q16 => ?_) (fun q16 => ?_)
      · refine z_iinc (y := 1) (lv' := [some (.ref 41), some (.int _), none]) C dX10_rest_101 rfl (by decide) (by decide) rfl ?_
        refine z_goto (tgt := 2) C dX10_rest_104 (by decide) ?_
        refine z_sub z_dropL2 ?_
        rw [nI_clamp (by omega)] at q16
        rw [nI_1 i]
        have e5 : zmrest iv (i + 1) = zmrest iv i := by
          show zmrs (zmrest iv i) i = _
          unfold zmrs
          exact if_neg (fun z => z.1 q16)
        rw [← e5]
        exact ih (i + 1) (by omega)
      · refine z_aload_n C dX10_rest_19 rfl ?_
        refine zs_getR C dX10_rest_20 zf_X10_29 zk_41 (by decide) (zr_41_8 n) ?_
        refine z_iload_n C dX10_rest_23 rfl ?_
        refine z_iald C dX10_rest_24 zk_47 (by decide) ?_ ?_
        · exact vp_in_nI (by omega) (by decide)
        refine z_sipush (v := 1000) C dX10_rest_25 (by decide) ?_
        refine zt_icmp_lt (tgt := 34) C dX10_rest_28 rfl (show (1000 : Int32).toInt = 1000 by decide) (by decide) (fun q28 => ?_) (fun q28 => ?_)
        · simp only [nI_clamp (show i < 2 ^ 31 by omega)] at q28
          refine z_iconst (v := 1) C dX10_rest_34 (by decide) ?_
          refine z_istore_n (lv' := [some (.ref 41), some (.int _), some (.int _)]) C dX10_rest_35 (by decide) rfl ?_
          refine z_aload_n C dX10_rest_36 rfl ?_
          refine zs_getR C dX10_rest_37 zf_X10_26 zk_41 (by decide) (zr_41_6 n) ?_
          refine z_aload_n C dX10_rest_40 rfl ?_
          refine zs_getR C dX10_rest_41 zf_X10_32 zk_41 (by decide) (zr_41_9 n) ?_
          refine z_iload_n C dX10_rest_44 rfl ?_
          refine z_iald C dX10_rest_45 zk_48 (by decide) ?_ ?_
          · exact vp_in_nI (by omega) (by decide)
          refine z_iald C dX10_rest_46 zk_46 (by decide) ?_ ?_
          · rw [nI_clamp (by omega), e48]
            exact vp_in_iff.mpr (by have := hN i (by omega); rw [nI_clamp (by omega), e48] at q16; omega)
          refine zt_if_le (tgt := 67) C dX10_rest_47 rfl (by decide) (fun q47 => ?_) (fun q47 => ?_)
          · simp only [nI_clamp (show i < 2 ^ 31 by omega)] at q47
            refine z_aload_n C dX10_rest_67 rfl ?_
            refine zs_getR C dX10_rest_68 zf_X10_29 zk_41 (by decide) (zr_41_8 n) ?_
            refine z_iload_n C dX10_rest_71 rfl ?_
            refine z_aload_n C dX10_rest_72 rfl ?_
            refine zs_getR C dX10_rest_73 zf_X10_29 zk_41 (by decide) (zr_41_8 n) ?_
            refine z_iload_n C dX10_rest_76 rfl ?_
            refine z_iald C dX10_rest_77 zk_47 (by decide) ?_ ?_
            · exact vp_in_nI (by omega) (by decide)
            refine z_iload_n C dX10_rest_78 rfl ?_
            refine z_iadd C dX10_rest_79 ?_
            refine z_sipush (v := 1000) C dX10_rest_80 (by decide) ?_
            refine zt_icmp_le (tgt := 92) C dX10_rest_83 rfl (show (1000 : Int32).toInt = 1000 by decide) (by decide) (fun q83 => ?_) (fun q83 => ?_)
            · simp only [nI_clamp (show i < 2 ^ 31 by omega)] at q83
              refine z_aload_n C dX10_rest_92 rfl ?_
              refine zs_getR C dX10_rest_93 zf_X10_29 zk_41 (by decide) (zr_41_8 n) ?_
              refine z_iload_n C dX10_rest_96 rfl ?_
              refine z_iald C dX10_rest_97 zk_47 (by decide) ?_ ?_
              · exact vp_in_nI (by omega) (by decide)
              refine z_iload_n C dX10_rest_98 rfl ?_
              refine z_iadd C dX10_rest_99 ?_
              refine z_iast C dX10_rest_100 zk_47 (by decide) ?_ ?_
              · exact vp_in_nI (by omega) (by decide)
              refine z_iinc (y := 1) (lv' := [some (.ref 41), some (.int _), some (.int _)]) C dX10_rest_101 rfl (by decide) (by decide) rfl ?_
              refine z_goto (tgt := 2) C dX10_rest_104 (by decide) ?_
              refine z_sub z_dropL2 ?_
              rw [nI_clamp (by omega)] at q16
              rw [nI_1 i]
              have q83x : (zmrest iv i 47 i + 1).toInt ≤ 1000 := q83
              have e5 : zmrest iv (i + 1) = zu (zmrest iv i) 47 i (zmrest iv i 47 i + 1) := by
                show zmrs (zmrest iv i) i = _
                unfold zmrs
                rw [if_pos ⟨by omega, by omega⟩, if_neg (by omega), if_neg (by omega)]
              simp only [nI_clamp (show i < 2 ^ 31 by omega)]
              have a3 := ih (i + 1) (by omega)
              rw [e5] at a3
              exact a3
            · simp only [nI_clamp (show i < 2 ^ 31 by omega)] at q83
              refine z_sipush (v := 1000) C dX10_rest_86 (by decide) ?_
              refine z_goto (tgt := 100) C dX10_rest_89 (by decide) ?_
              refine z_iast C dX10_rest_100 zk_47 (by decide) ?_ ?_
              · exact vp_in_nI (by omega) (by decide)
              refine z_iinc (y := 1) (lv' := [some (.ref 41), some (.int _), some (.int _)]) C dX10_rest_101 rfl (by decide) (by decide) rfl ?_
              refine z_goto (tgt := 2) C dX10_rest_104 (by decide) ?_
              refine z_sub z_dropL2 ?_
              rw [nI_clamp (by omega)] at q16
              rw [nI_1 i]
              have q83x : ¬ (zmrest iv i 47 i + 1).toInt ≤ 1000 := q83
              have e5 : zmrest iv (i + 1) = zu (zmrest iv i) 47 i (1000) := by
                show zmrs (zmrest iv i) i = _
                unfold zmrs
                rw [if_pos ⟨by omega, by omega⟩, if_neg (by omega), if_pos (by omega)]
              simp only [nI_clamp (show i < 2 ^ 31 by omega)]
              have a3 := ih (i + 1) (by omega)
              rw [e5] at a3
              exact a3
          · simp only [nI_clamp (show i < 2 ^ 31 by omega)] at q47
            refine z_aload_n C dX10_rest_50 rfl ?_
            refine zs_getR C dX10_rest_51 zf_X10_26 zk_41 (by decide) (zr_41_6 n) ?_
            refine z_aload_n C dX10_rest_54 rfl ?_
            refine zs_getR C dX10_rest_55 zf_X10_32 zk_41 (by decide) (zr_41_9 n) ?_
            refine z_iload_n C dX10_rest_58 rfl ?_
            refine z_iald C dX10_rest_59 zk_48 (by decide) ?_ ?_
            · exact vp_in_nI (by omega) (by decide)
            refine z_dup2 C dX10_rest_60 rfl rfl ?_
            refine z_iald C dX10_rest_61 zk_46 (by decide) ?_ ?_
            · rw [nI_clamp (by omega), e48]
              exact vp_in_iff.mpr (by have := hN i (by omega); rw [nI_clamp (by omega), e48] at q16; omega)
            refine z_iconst (v := 1) C dX10_rest_62 (by decide) ?_
            refine z_isub C dX10_rest_63 ?_
            refine z_iast C dX10_rest_64 zk_46 (by decide) ?_ ?_
            · rw [nI_clamp (by omega), e48]
              exact vp_in_iff.mpr (by have := hN i (by omega); rw [nI_clamp (by omega), e48] at q16; omega)
            refine z_iconst (v := 3) C dX10_rest_65 (by decide) ?_
            refine z_istore_n (lv' := [some (.ref 41), some (.int _), some (.int _)]) C dX10_rest_66 (by decide) rfl ?_
            refine z_aload_n C dX10_rest_67 rfl ?_
            refine zs_getR C dX10_rest_68 zf_X10_29 zk_41 (by decide) (zr_41_8 n) ?_
            refine z_iload_n C dX10_rest_71 rfl ?_
            refine z_aload_n C dX10_rest_72 rfl ?_
            refine zs_getR C dX10_rest_73 zf_X10_29 zk_41 (by decide) (zr_41_8 n) ?_
            refine z_iload_n C dX10_rest_76 rfl ?_
            refine z_iald C dX10_rest_77 zk_47 (by decide) ?_ ?_
            · exact vp_in_nI (by omega) (by decide)
            refine z_iload_n C dX10_rest_78 rfl ?_
            refine z_iadd C dX10_rest_79 ?_
            refine z_sipush (v := 1000) C dX10_rest_80 (by decide) ?_
            refine zt_icmp_le (tgt := 92) C dX10_rest_83 rfl (show (1000 : Int32).toInt = 1000 by decide) (by decide) (fun q83 => ?_) (fun q83 => ?_)
            · simp only [nI_clamp (show i < 2 ^ 31 by omega)] at q83
              refine z_aload_n C dX10_rest_92 rfl ?_
              refine zs_getR C dX10_rest_93 zf_X10_29 zk_41 (by decide) (zr_41_8 n) ?_
              refine z_iload_n C dX10_rest_96 rfl ?_
              refine z_iald C dX10_rest_97 zk_47 (by decide) ?_ ?_
              · exact vp_in_nI (by omega) (by decide)
              refine z_iload_n C dX10_rest_98 rfl ?_
              refine z_iadd C dX10_rest_99 ?_
              refine z_iast C dX10_rest_100 zk_47 (by decide) ?_ ?_
              · exact vp_in_nI (by omega) (by decide)
              refine z_iinc (y := 1) (lv' := [some (.ref 41), some (.int _), some (.int _)]) C dX10_rest_101 rfl (by decide) (by decide) rfl ?_
              refine z_goto (tgt := 2) C dX10_rest_104 (by decide) ?_
              refine z_sub z_dropL2 ?_
              rw [nI_clamp (by omega)] at q16
              rw [nI_1 i]
              have q83x : (zmrest iv i 47 i + 3).toInt ≤ 1000 := q83
              have e5 : zmrest iv (i + 1) = zu (zu (zmrest iv i) 46 (zmrest iv i 48 i).toNatClampNeg (zmrest iv i 46 (zmrest iv i 48 i).toNatClampNeg - 1)) 47 i (zmrest iv i 47 i + 3) := by
                show zmrs (zmrest iv i) i = _
                unfold zmrs
                rw [if_pos ⟨by omega, by omega⟩, if_pos (by omega), if_neg (by omega)]
              simp only [nI_clamp (show i < 2 ^ 31 by omega)]
              have a3 := ih (i + 1) (by omega)
              rw [e5] at a3
              exact a3
            · simp only [nI_clamp (show i < 2 ^ 31 by omega)] at q83
              refine z_sipush (v := 1000) C dX10_rest_86 (by decide) ?_
              refine z_goto (tgt := 100) C dX10_rest_89 (by decide) ?_
              refine z_iast C dX10_rest_100 zk_47 (by decide) ?_ ?_
              · exact vp_in_nI (by omega) (by decide)
              refine z_iinc (y := 1) (lv' := [some (.ref 41), some (.int _), some (.int _)]) C dX10_rest_101 rfl (by decide) (by decide) rfl ?_
              refine z_goto (tgt := 2) C dX10_rest_104 (by decide) ?_
              refine z_sub z_dropL2 ?_
              rw [nI_clamp (by omega)] at q16
              rw [nI_1 i]
              have q83x : ¬ (zmrest iv i 47 i + 3).toInt ≤ 1000 := q83
              have e5 : zmrest iv (i + 1) = zu (zu (zmrest iv i) 46 (zmrest iv i 48 i).toNatClampNeg (zmrest iv i 46 (zmrest iv i 48 i).toNatClampNeg - 1)) 47 i (1000) := by
                show zmrs (zmrest iv i) i = _
                unfold zmrs
                rw [if_pos ⟨by omega, by omega⟩, if_pos (by omega), if_pos (by omega)]
              simp only [nI_clamp (show i < 2 ^ 31 by omega)]
              have a3 := ih (i + 1) (by omega)
              rw [e5] at a3
              exact a3
        · simp only [nI_clamp (show i < 2 ^ 31 by omega)] at q28
          refine z_goto (tgt := 101) C dX10_rest_31 (by decide) ?_
          refine z_iinc (y := 1) (lv' := [some (.ref 41), some (.int _), none]) C dX10_rest_101 rfl (by decide) (by decide) rfl ?_
          refine z_goto (tgt := 2) C dX10_rest_104 (by decide) ?_
          refine z_sub z_dropL2 ?_
          rw [nI_clamp (by omega)] at q16
          rw [nI_1 i]
          have e5 : zmrest iv (i + 1) = zmrest iv i := by
            show zmrs (zmrest iv i) i = _
            unfold zmrs
            exact if_neg (fun z => by have := z.2; omega)
          rw [← e5]
          exact ih (i + 1) (by omega)

set_option maxRecDepth 4000 in
theorem m_rest (n : Nat) (iv : zI) (lw : zG) (t : Nat) (ht : iv 41 7 = nI t) (ht2 : t ≤ 20) (hN : ∀ k, k < t → (iv 48 k).toInt < 8) : zMv yX10_rest cX10_rest 3 none 0 [.ref 41] n iv lw (zmrest iv t) lw := by
  refine zM.of (by decide) (Nat.le_of_ble_eq_true rfl) (fun X C E => ?_)
  change zJs X n 3 0 [some (.ref 41), none, none] [] iv lw
  refine z_iconst (v := 0) C dX10_rest_0 (by decide) ?_
  refine z_istore_n (lv' := [some (.ref 41), some (.int _), none]) C dX10_rest_1 (by decide) rfl ?_
  exact lm_rest n iv lw t ht ht2 hN C E t 0 (by omega)

/-- the reference's TOLD at place b -/
def zmtold (iv : zI) (i b : Nat) : Int32 := if (iv 52 i).toInt < (iv 53 i).toInt then zacc (iv 54 i) (fun j => iv 42 ((iv 52 i).toNatClampNeg + j) * zpace (iv 50 i) + 2 * iv 43 ((iv 52 i).toNatClampNeg + j) + (if j = 0 then 0 else 2)) (b - (iv 52 i).toNatClampNeg) else zacc (iv 54 i) (fun j => iv 42 ((iv 52 i).toNatClampNeg - (j + 1)) * zpace (iv 50 i) + 2 * iv 43 ((iv 52 i).toNatClampNeg - (j + 1)) + (if j = 0 then 0 else 2)) ((iv 52 i).toNatClampNeg - b)
/-- place w is on coach i's way -/
def zmon (iv : zI) (i : Nat) (w : Int32) : Prop := (0 ≤ (iv 52 i).toInt ∧ (iv 52 i).toInt ≤ 8) ∧ (0 ≤ w.toInt ∧ w.toInt ≤ 8) ∧ ((iv 52 i).toInt < (iv 53 i).toInt → (iv 52 i).toInt ≤ w.toInt) ∧ (¬ (iv 52 i).toInt < (iv 53 i).toInt → w.toInt ≤ (iv 52 i).toInt)
theorem m_toldAt (n : Nat) (iv : zI) (lw : zG) (i : Nat) (hi : i < 8) (w : Int32) (h : zmon iv i w) : zMi yX10_toldAt cX10_toldAt 5 (some .int) 2 [.ref 41, .int (nI i), .int w] n iv lw (zmtold iv i w.toNatClampNeg) iv lw := by
  obtain ⟨h1, h2, h3, h4⟩ := h
  have a1 := zcl_int h1.1
  have a2 := zcl_int h2.1
  have e1 : iv 52 i = nI (iv 52 i).toNatClampNeg := (znI_cl h1.1).symm
  have e2 : w = nI w.toNatClampNeg := (znI_cl h2.1).symm
  generalize hb : w.toNatClampNeg = b at *
  subst e2
  unfold zmtold
  by_cases hU : (iv 52 i).toInt < (iv 53 i).toInt
  · rw [if_pos hU]
    have := h3 hU
    exact m_toldAtU n iv lw i hi b _ _ e1 hU (by omega) (by omega)
  · rw [if_neg hU]
    have := h4 hU
    exact m_toldAtD n iv lw i hi b _ _ e1 hU (by omega) (by omega)

theorem z5_0 (i : Nat) : 5 * nI i = nI (5 * i) := pk_mul 5 i
def zmsg (iv : zI) (i : Nat) : Int32 := znext (iv 52 i) (iv 53 i) (iv 56 i)
def zmco (iv : zI) (i : Nat) : Int32 := 12 * iv 42 (zmsg iv i).toNatClampNeg + 10 * iv 43 (zmsg iv i).toNatClampNeg + 5 * iv 44 (zmsg iv i).toNatClampNeg + iv 51 i
def zmsv (iv : zI) (i : Nat) : Int32 := iv 47 (iv 57 i).toNatClampNeg
def zmwe (iv : zI) (i : Nat) : Int32 := if (zmsv iv i).toInt < (zmco iv i).toInt then (zmco iv i - zmsv iv i + 9) / 10 else 0
def zmmu (iv : zI) (i : Nat) : Int32 := iv 44 (zmsg iv i).toNatClampNeg * iv 42 (zmsg iv i).toNatClampNeg / 4
def zml1 (iv : zI) (i : Nat) : zI := zu iv 47 (iv 57 i).toNatClampNeg (if (zmsv iv i).toInt < (zmco iv i).toInt then 0 else zmsv iv i - zmco iv i)
def zml2 (iv : zI) (i : Nat) : zI := zu (zu (zu (zu (zml1 iv i) 63 (5 * i) (iv 63 (5 * i) + zmmu iv i)) 63 (5 * i + 1) (iv 63 (5 * i + 1) + iv 51 i / 10)) 63 (5 * i + 2) (iv 63 (5 * i + 2) + zmwe iv i)) 63 (5 * i + 3) (iv 63 (5 * i + 3) + iv 60 i)
def zml3 (iv : zI) (i : Nat) : zI := if iv 56 i = iv 52 i then zml2 iv i else zu (zml2 iv i) 63 (5 * i + 4) (iv 63 (5 * i + 4) - 2)
/-- the reference's coach leaves at a minute -/
def zmlv (iv : zI) (i : Nat) (at_ : Int32) : zI := zu (zu (zml3 iv i) 59 i (at_ + (iv 42 (zmsg iv i).toNatClampNeg * zpace (iv 50 i) + 2 * iv 43 (zmsg iv i).toNatClampNeg) + zmmu iv i + iv 51 i / 10 + zmwe iv i)) 58 i at_
theorem zml3_o (iv : zI) (i : Nat) {q : Nat} (h : q ≠ 47) (h2 : q ≠ 63) : zml3 iv i q = iv q := by
  unfold zml3 zml2 zml1
  split
  · rw [zu_n _ _ _ h2, zu_n _ _ _ h2, zu_n _ _ _ h2, zu_n _ _ _ h2, zu_n _ _ _ h]
  · rw [zu_n _ _ _ h2, zu_n _ _ _ h2, zu_n _ _ _ h2, zu_n _ _ _ h2, zu_n _ _ _ h2, zu_n _ _ _ h]

set_option maxHeartbeats 2000000 in
set_option maxRecDepth 4000 in
theorem m_leave (n : Nat) (iv : zI) (lw : zG) (i : Nat) (hi : i < 8) (at_ : Int32) (hs : vp_in (zmsg iv i) 8) (ht : vp_in (iv 57 i) 20) : zMv yX10_leave cX10_leave 9 none 2 [.ref 41, .int (nI i), .int at_] n iv lw (zmlv iv i at_) lw := by
  refine zM.of (by decide) (Nat.le_of_ble_eq_true rfl) (fun X C E => ?_)
  change zJs X n 9 0 [some (.ref 41), some (.int (nI i)), some (.int at_), none, none, none, none, none, none] [] iv lw
  refine z_aload_n C dX10_leave_0 rfl ?_
  refine z_iload_n C dX10_leave_1 rfl ?_
  refine z_aload_n C dX10_leave_2 rfl ?_
  refine zs_getR C dX10_leave_3 zf_X10_56 zk_41 (by decide) (zr_41_18 n) ?_
  refine z_iload_n C dX10_leave_6 rfl ?_
  refine z_iald C dX10_leave_7 zk_56 (by decide) ?_ ?_
  · exact vp_in_nI (by omega) (by decide)
  refine zs_callVi C dX10_leave_8 zm_X10_195 zyX10_stageFrom (m_stageFrom _ _ _ i hi _) zc_10 rfl zk_41 (by decide) (by decide) rfl rfl (Nat.le_of_ble_eq_true rfl) (by decide) (by decide) ?_
  rw [nI_clamp (by omega)]
  show zJs X n 9 11 _ (.int (zmsg iv i) :: []) iv lw
  refine z_istore_n (lv' := [some (.ref 41), some (.int _), some (.int at_), some (.int _), none, none, none, none, none]) C dX10_leave_11 (by decide) rfl ?_
  refine z_bipush (v := 12) C dX10_leave_12 (by decide) ?_
  refine z_aload_n C dX10_leave_14 rfl ?_
  refine zs_getR C dX10_leave_15 zf_X10_13 zk_41 (by decide) (zr_41_2 n) ?_
  refine z_iload_n C dX10_leave_18 rfl ?_
  refine z_iald C dX10_leave_19 zk_42 (by decide) ?_ ?_
  · exact hs
  refine z_imul C dX10_leave_20 ?_
  refine z_bipush (v := 10) C dX10_leave_21 (by decide) ?_
  refine z_aload_n C dX10_leave_23 rfl ?_
  refine zs_getR C dX10_leave_24 zf_X10_17 zk_41 (by decide) (zr_41_3 n) ?_
  refine z_iload_n C dX10_leave_27 rfl ?_
  refine z_iald C dX10_leave_28 zk_43 (by decide) ?_ ?_
  · exact hs
  refine z_imul C dX10_leave_29 ?_
  refine z_iadd C dX10_leave_30 ?_
  refine z_iconst (v := 5) C dX10_leave_31 (by decide) ?_
  refine z_aload_n C dX10_leave_32 rfl ?_
  refine zs_getR C dX10_leave_33 zf_X10_20 zk_41 (by decide) (zr_41_4 n) ?_
  refine z_iload_n C dX10_leave_36 rfl ?_
  refine z_iald C dX10_leave_37 zk_44 (by decide) ?_ ?_
  · exact hs
  refine z_imul C dX10_leave_38 ?_
  refine z_iadd C dX10_leave_39 ?_
  refine z_aload_n C dX10_leave_40 rfl ?_
  refine zs_getR C dX10_leave_41 zf_X10_41 zk_41 (by decide) (zr_41_13 n) ?_
  refine z_iload_n C dX10_leave_44 rfl ?_
  refine z_iald C dX10_leave_45 zk_51 (by decide) ?_ ?_
  · exact vp_in_nI (by omega) (by decide)
  refine z_iadd C dX10_leave_46 ?_
  rw [nI_clamp (by omega)]
  show zJs X n 9 47 _ (.int (zmco iv i) :: []) iv lw
  refine z_istore (lv' := [some (.ref 41), some (.int _), some (.int at_), some (.int _), some (.int _), none, none, none, none]) C dX10_leave_47 (by decide) rfl ?_
  refine z_aload_n C dX10_leave_49 rfl ?_
  refine zs_getR C dX10_leave_50 zf_X10_29 zk_41 (by decide) (zr_41_8 n) ?_
  refine z_aload_n C dX10_leave_53 rfl ?_
  refine zs_getR C dX10_leave_54 zf_X10_59 zk_41 (by decide) (zr_41_19 n) ?_
  refine z_iload_n C dX10_leave_57 rfl ?_
  refine z_iald C dX10_leave_58 zk_57 (by decide) ?_ ?_
  · exact vp_in_nI (by omega) (by decide)
  refine z_iald C dX10_leave_59 zk_47 (by decide) ?_ ?_
  · rw [nI_clamp (by omega)]
    exact ht
  simp only [nI_clamp (show i < 2 ^ 31 by omega)]
  show zJs X n 9 60 _ (.int (zmsv iv i) :: []) iv lw
  refine z_istore (lv' := [some (.ref 41), some (.int _), some (.int at_), some (.int _), some (.int _), some (.int _), none, none, none]) C dX10_leave_60 (by decide) rfl ?_
  refine z_aload_n C dX10_leave_62 rfl ?_
  refine zs_getR C dX10_leave_63 zf_X10_20 zk_41 (by decide) (zr_41_4 n) ?_
  refine z_iload_n C dX10_leave_66 rfl ?_
  refine z_iald C dX10_leave_67 zk_44 (by decide) ?_ ?_
  · exact hs
  refine z_aload_n C dX10_leave_68 rfl ?_
  refine zs_getR C dX10_leave_69 zf_X10_13 zk_41 (by decide) (zr_41_2 n) ?_
  refine z_iload_n C dX10_leave_72 rfl ?_
  refine z_iald C dX10_leave_73 zk_42 (by decide) ?_ ?_
  · exact hs
  refine z_imul C dX10_leave_74 ?_
  refine z_iconst (v := 4) C dX10_leave_75 (by decide) ?_
  refine z_idiv C dX10_leave_76 (by decide) ?_
  show zJs X n 9 77 _ (.int (zmmu iv i) :: []) iv lw
  refine z_istore (lv' := [some (.ref 41), some (.int _), some (.int at_), some (.int _), some (.int _), some (.int _), some (.int _), none, none]) C dX10_leave_77 (by decide) rfl ?_
  refine z_aload_n C dX10_leave_79 rfl ?_
  refine zs_getR C dX10_leave_80 zf_X10_41 zk_41 (by decide) (zr_41_13 n) ?_
  refine z_iload_n C dX10_leave_83 rfl ?_
  refine z_iald C dX10_leave_84 zk_51 (by decide) ?_ ?_
  · exact vp_in_nI (by omega) (by decide)
  refine z_bipush (v := 10) C dX10_leave_85 (by decide) ?_
  refine z_idiv C dX10_leave_87 (by decide) ?_
  simp only [nI_clamp (show i < 2 ^ 31 by omega)]
  refine z_istore (lv' := [some (.ref 41), some (.int _), some (.int at_), some (.int _), some (.int _), some (.int _), some (.int _), some (.int _), none]) C dX10_leave_88 (by decide) rfl ?_
  refine z_iload C dX10_leave_90 rfl ?_
  refine z_iload C dX10_leave_92 rfl ?_
  refine zt_icmp_ge (tgt := 111) C dX10_leave_94 rfl rfl (by decide) (fun q94 => ?_) (fun q94 => ?_)
  · refine z_iconst (v := 0) C dX10_leave_111 (by decide) ?_
    refine z_eqi (show (0 : Int32) = zmwe iv i from (if_neg (by omega)).symm) ?_
    refine z_istore (lv' := [some (.ref 41), some (.int _), some (.int at_), some (.int _), some (.int _), some (.int _), some (.int _), some (.int _), some (.int _)]) C dX10_leave_112 (by decide) rfl ?_
    refine z_aload_n C dX10_leave_114 rfl ?_
    refine zs_getR C dX10_leave_115 zf_X10_29 zk_41 (by decide) (zr_41_8 n) ?_
    refine z_aload_n C dX10_leave_118 rfl ?_
    refine zs_getR C dX10_leave_119 zf_X10_59 zk_41 (by decide) (zr_41_19 n) ?_
    refine z_iload_n C dX10_leave_122 rfl ?_
    refine z_iald C dX10_leave_123 zk_57 (by decide) ?_ ?_
    · exact vp_in_nI (by omega) (by decide)
    refine z_iload C dX10_leave_124 rfl ?_
    refine z_iload C dX10_leave_126 rfl ?_
    refine zt_icmp_ge (tgt := 135) C dX10_leave_128 rfl rfl (by decide) (fun q128 => ?_) (fun q128 => ?_)
    · refine z_iload C dX10_leave_135 rfl ?_
      refine z_iload C dX10_leave_137 rfl ?_
      refine z_isub C dX10_leave_139 ?_
      refine z_iast C dX10_leave_140 zk_47 (by decide) ?_ ?_
      · rw [nI_clamp (by omega)]
        exact ht
      simp only [nI_clamp (show i < 2 ^ 31 by omega)]
      refine z_eqv (iv1 := zml1 iv i) (show zu iv 47 (iv 57 i).toNatClampNeg (zmsv iv i - zmco iv i) = _ by unfold zml1; rw [if_neg (by omega)]) ?_
      refine z_aload_n C dX10_leave_141 rfl ?_
      refine zs_getR C dX10_leave_142 zf_X10_77 zk_41 (by decide) (zr_41_25 n) ?_
      refine z_iconst (v := 5) C dX10_leave_145 (by decide) ?_
      refine z_iload_n C dX10_leave_146 rfl ?_
      refine z_imul C dX10_leave_147 ?_
      rw [z5_0 i]
      refine z_dup2 C dX10_leave_148 rfl rfl ?_
      refine z_iald C dX10_leave_149 zk_63 (by decide) ?_ ?_
      · exact vp_in_nI (by omega) (by decide)
      refine z_iload C dX10_leave_150 rfl ?_
      refine z_iadd C dX10_leave_152 ?_
      refine z_iast C dX10_leave_153 zk_63 (by decide) ?_ ?_
      · exact vp_in_nI (by omega) (by decide)
      refine z_aload_n C dX10_leave_154 rfl ?_
      refine zs_getR C dX10_leave_155 zf_X10_77 zk_41 (by decide) (zr_41_25 n) ?_
      refine z_iconst (v := 5) C dX10_leave_158 (by decide) ?_
      refine z_iload_n C dX10_leave_159 rfl ?_
      refine z_imul C dX10_leave_160 ?_
      refine z_iconst (v := 1) C dX10_leave_161 (by decide) ?_
      refine z_iadd C dX10_leave_162 ?_
      rw [z5_0 i, nI_1]
      refine z_dup2 C dX10_leave_163 rfl rfl ?_
      refine z_iald C dX10_leave_164 zk_63 (by decide) ?_ ?_
      · exact vp_in_nI (by omega) (by decide)
      refine z_iload C dX10_leave_165 rfl ?_
      refine z_iadd C dX10_leave_167 ?_
      refine z_iast C dX10_leave_168 zk_63 (by decide) ?_ ?_
      · exact vp_in_nI (by omega) (by decide)
      refine z_aload_n C dX10_leave_169 rfl ?_
      refine zs_getR C dX10_leave_170 zf_X10_77 zk_41 (by decide) (zr_41_25 n) ?_
      refine z_iconst (v := 5) C dX10_leave_173 (by decide) ?_
      refine z_iload_n C dX10_leave_174 rfl ?_
      refine z_imul C dX10_leave_175 ?_
      refine z_iconst (v := 2) C dX10_leave_176 (by decide) ?_
      refine z_iadd C dX10_leave_177 ?_
      rw [z5_0 i, show nI (5 * i) + 2 = nI (5 * i + 2) from nI_add _ 2]
      refine z_dup2 C dX10_leave_178 rfl rfl ?_
      refine z_iald C dX10_leave_179 zk_63 (by decide) ?_ ?_
      · exact vp_in_nI (by omega) (by decide)
      refine z_iload C dX10_leave_180 rfl ?_
      refine z_iadd C dX10_leave_182 ?_
      refine z_iast C dX10_leave_183 zk_63 (by decide) ?_ ?_
      · exact vp_in_nI (by omega) (by decide)
      refine z_aload_n C dX10_leave_184 rfl ?_
      refine zs_getR C dX10_leave_185 zf_X10_77 zk_41 (by decide) (zr_41_25 n) ?_
      refine z_iconst (v := 5) C dX10_leave_188 (by decide) ?_
      refine z_iload_n C dX10_leave_189 rfl ?_
      refine z_imul C dX10_leave_190 ?_
      refine z_iconst (v := 3) C dX10_leave_191 (by decide) ?_
      refine z_iadd C dX10_leave_192 ?_
      rw [z5_0 i, show nI (5 * i) + 3 = nI (5 * i + 3) from nI_add _ 3]
      refine z_dup2 C dX10_leave_193 rfl rfl ?_
      refine z_iald C dX10_leave_194 zk_63 (by decide) ?_ ?_
      · exact vp_in_nI (by omega) (by decide)
      refine z_aload_n C dX10_leave_195 rfl ?_
      refine zs_getR C dX10_leave_196 zf_X10_68 zk_41 (by decide) (zr_41_22 n) ?_
      refine z_iload_n C dX10_leave_199 rfl ?_
      refine z_iald C dX10_leave_200 zk_60 (by decide) ?_ ?_
      · exact vp_in_nI (by omega) (by decide)
      refine z_iadd C dX10_leave_201 ?_
      refine z_iast C dX10_leave_202 zk_63 (by decide) ?_ ?_
      · exact vp_in_nI (by omega) (by decide)
      refine z_eqv (iv1 := zml2 iv i) ?_ ?_
      · have k0 : (nI (5 * i)).toNatClampNeg = 5 * i := nI_clamp (by omega)
        have k1 : (nI (5 * i + 1)).toNatClampNeg = 5 * i + 1 := nI_clamp (by omega)
        have k2 : (nI (5 * i + 2)).toNatClampNeg = 5 * i + 2 := nI_clamp (by omega)
        have k3 : (nI (5 * i + 3)).toNatClampNeg = 5 * i + 3 := nI_clamp (by omega)
        rw [k0, k1, k2, k3, nI_clamp (show i < 2 ^ 31 by omega)]
        unfold zml2
        simp only [zu_s]
        rw [show ∀ (f : Nat → Int32) (x : Int32), upd f (5 * i) x (5 * i + 1) = f (5 * i + 1) from fun f x => pk_un (by omega)]
        rw [show ∀ (f : Nat → Int32) (x y : Int32), upd (upd f (5 * i) x) (5 * i + 1) y (5 * i + 2) = f (5 * i + 2) from fun f x y => by rw [pk_un (by omega), pk_un (by omega)]]
        rw [show ∀ (f : Nat → Int32) (x y z : Int32), upd (upd (upd f (5 * i) x) (5 * i + 1) y) (5 * i + 2) z (5 * i + 3) = f (5 * i + 3) from fun f x y z => by rw [pk_un (by omega), pk_un (by omega), pk_un (by omega)]]
        rfl
      refine z_aload_n C dX10_leave_203 rfl ?_
      refine zs_getR C dX10_leave_204 zf_X10_56 zk_41 (by decide) (zr_41_18 n) ?_
      refine z_iload_n C dX10_leave_207 rfl ?_
      refine z_iald C dX10_leave_208 zk_56 (by decide) ?_ ?_
      · exact vp_in_nI (by omega) (by decide)
      refine z_aload_n C dX10_leave_209 rfl ?_
      refine zs_getR C dX10_leave_210 zf_X10_44 zk_41 (by decide) (zr_41_14 n) ?_
      refine z_iload_n C dX10_leave_213 rfl ?_
      refine z_iald C dX10_leave_214 zk_52 (by decide) ?_ ?_
      · exact vp_in_nI (by omega) (by decide)
      refine z_icmp_eq (tgt := 232) C dX10_leave_215 (by decide) (fun q215 => ?_) (fun q215 => ?_)
      · simp only [nI_clamp (show i < 2 ^ 31 by omega)] at q215
        have q215 : iv 56 i = iv 52 i := q215
        refine z_eqv (iv1 := zml3 iv i) (show zml2 iv i = zml3 iv i by unfold zml3; rw [if_pos q215]) ?_
        refine z_aload_n C dX10_leave_232 rfl ?_
        refine zs_getR C dX10_leave_233 zf_X10_65 zk_41 (by decide) (zr_41_21 n) ?_
        refine z_iload_n C dX10_leave_236 rfl ?_
        refine z_iload_n C dX10_leave_237 rfl ?_
        refine z_aload_n C dX10_leave_238 rfl ?_
        refine z_iload_n C dX10_leave_239 rfl ?_
        refine z_iload_n C dX10_leave_240 rfl ?_
        refine zs_callVi C dX10_leave_241 zm_X10_199 zyX10_plainly (m_plainly n (zml3 iv i) _ i hi (zmsg iv i) hs) zc_10 rfl zk_41 (by decide) (by decide) rfl rfl (Nat.le_of_ble_eq_true rfl) (by decide) (by decide) ?_
        refine z_eqi (show _ = iv 42 (zmsg iv i).toNatClampNeg * zpace (iv 50 i) + 2 * iv 43 (zmsg iv i).toNatClampNeg by rw [zml3_o iv i (show 42 ≠ 47 by decide) (by decide), zml3_o iv i (show 43 ≠ 47 by decide) (by decide), zml3_o iv i (show 50 ≠ 47 by decide) (by decide)]) ?_
        refine z_iadd C dX10_leave_244 ?_
        refine z_iload C dX10_leave_245 rfl ?_
        refine z_iadd C dX10_leave_247 ?_
        refine z_iload C dX10_leave_248 rfl ?_
        refine z_iadd C dX10_leave_250 ?_
        refine z_iload C dX10_leave_251 rfl ?_
        refine z_iadd C dX10_leave_253 ?_
        refine z_iast C dX10_leave_254 zk_59 (by decide) ?_ ?_
        · exact vp_in_nI (by omega) (by decide)
        refine z_aload_n C dX10_leave_255 rfl ?_
        refine zs_getR C dX10_leave_256 zf_X10_62 zk_41 (by decide) (zr_41_20 n) ?_
        refine z_iload_n C dX10_leave_259 rfl ?_
        refine z_iload_n C dX10_leave_260 rfl ?_
        refine z_iast C dX10_leave_261 zk_58 (by decide) ?_ ?_
        · exact vp_in_nI (by omega) (by decide)
        refine zs_vret C E dX10_leave_262 ?_ rfl
        rw [nI_clamp (show i < 2 ^ 31 by omega)]
        rfl
      · simp only [nI_clamp (show i < 2 ^ 31 by omega)] at q215
        have q215 : ¬ iv 56 i = iv 52 i := q215
        refine z_aload_n C dX10_leave_218 rfl ?_
        refine zs_getR C dX10_leave_219 zf_X10_77 zk_41 (by decide) (zr_41_25 n) ?_
        refine z_iconst (v := 5) C dX10_leave_222 (by decide) ?_
        refine z_iload_n C dX10_leave_223 rfl ?_
        refine z_imul C dX10_leave_224 ?_
        refine z_iconst (v := 4) C dX10_leave_225 (by decide) ?_
        refine z_iadd C dX10_leave_226 ?_
        rw [z5_0 i, show nI (5 * i) + 4 = nI (5 * i + 4) from nI_add _ 4]
        refine z_dup2 C dX10_leave_227 rfl rfl ?_
        refine z_iald C dX10_leave_228 zk_63 (by decide) ?_ ?_
        · exact vp_in_nI (by omega) (by decide)
        refine z_iconst (v := 2) C dX10_leave_229 (by decide) ?_
        refine z_isub C dX10_leave_230 ?_
        refine z_iast C dX10_leave_231 zk_63 (by decide) ?_ ?_
        · exact vp_in_nI (by omega) (by decide)
        rw [nI_clamp (show 5 * i + 4 < 2 ^ 31 by omega)]
        refine z_eqv (iv1 := zml3 iv i) ?_ ?_
        · unfold zml3
          rw [if_neg q215]
          unfold zml2
          simp only [zu_s]
          rw [show ∀ (f : Nat → Int32) (x y z w : Int32), upd (upd (upd (upd f (5 * i) x) (5 * i + 1) y) (5 * i + 2) z) (5 * i + 3) w (5 * i + 4) = f (5 * i + 4) from fun f x y z w => by rw [pk_un (by omega), pk_un (by omega), pk_un (by omega), pk_un (by omega)]]
          rfl
        refine z_aload_n C dX10_leave_232 rfl ?_
        refine zs_getR C dX10_leave_233 zf_X10_65 zk_41 (by decide) (zr_41_21 n) ?_
        refine z_iload_n C dX10_leave_236 rfl ?_
        refine z_iload_n C dX10_leave_237 rfl ?_
        refine z_aload_n C dX10_leave_238 rfl ?_
        refine z_iload_n C dX10_leave_239 rfl ?_
        refine z_iload_n C dX10_leave_240 rfl ?_
        refine zs_callVi C dX10_leave_241 zm_X10_199 zyX10_plainly (m_plainly n (zml3 iv i) _ i hi (zmsg iv i) hs) zc_10 rfl zk_41 (by decide) (by decide) rfl rfl (Nat.le_of_ble_eq_true rfl) (by decide) (by decide) ?_
        refine z_eqi (show _ = iv 42 (zmsg iv i).toNatClampNeg * zpace (iv 50 i) + 2 * iv 43 (zmsg iv i).toNatClampNeg by rw [zml3_o iv i (show 42 ≠ 47 by decide) (by decide), zml3_o iv i (show 43 ≠ 47 by decide) (by decide), zml3_o iv i (show 50 ≠ 47 by decide) (by decide)]) ?_
        refine z_iadd C dX10_leave_244 ?_
        refine z_iload C dX10_leave_245 rfl ?_
        refine z_iadd C dX10_leave_247 ?_
        refine z_iload C dX10_leave_248 rfl ?_
        refine z_iadd C dX10_leave_250 ?_
        refine z_iload C dX10_leave_251 rfl ?_
        refine z_iadd C dX10_leave_253 ?_
        refine z_iast C dX10_leave_254 zk_59 (by decide) ?_ ?_
        · exact vp_in_nI (by omega) (by decide)
        refine z_aload_n C dX10_leave_255 rfl ?_
        refine zs_getR C dX10_leave_256 zf_X10_62 zk_41 (by decide) (zr_41_20 n) ?_
        refine z_iload_n C dX10_leave_259 rfl ?_
        refine z_iload_n C dX10_leave_260 rfl ?_
        refine z_iast C dX10_leave_261 zk_58 (by decide) ?_ ?_
        · exact vp_in_nI (by omega) (by decide)
        refine zs_vret C E dX10_leave_262 ?_ rfl
        rw [nI_clamp (show i < 2 ^ 31 by omega)]
        rfl
    · exfalso; omega
  · refine z_iload C dX10_leave_97 rfl ?_
    refine z_iload C dX10_leave_99 rfl ?_
    refine z_isub C dX10_leave_101 ?_
    refine z_bipush (v := 9) C dX10_leave_102 (by decide) ?_
    refine z_iadd C dX10_leave_104 ?_
    refine z_bipush (v := 10) C dX10_leave_105 (by decide) ?_
    refine z_idiv C dX10_leave_107 (by decide) ?_
    refine z_goto (tgt := 112) C dX10_leave_108 (by decide) ?_
    refine z_eqi (show (zmco iv i - zmsv iv i + 9) / 10 = zmwe iv i from (if_pos (by omega)).symm) ?_
    refine z_istore (lv' := [some (.ref 41), some (.int _), some (.int at_), some (.int _), some (.int _), some (.int _), some (.int _), some (.int _), some (.int _)]) C dX10_leave_112 (by decide) rfl ?_
    refine z_aload_n C dX10_leave_114 rfl ?_
    refine zs_getR C dX10_leave_115 zf_X10_29 zk_41 (by decide) (zr_41_8 n) ?_
    refine z_aload_n C dX10_leave_118 rfl ?_
    refine zs_getR C dX10_leave_119 zf_X10_59 zk_41 (by decide) (zr_41_19 n) ?_
    refine z_iload_n C dX10_leave_122 rfl ?_
    refine z_iald C dX10_leave_123 zk_57 (by decide) ?_ ?_
    · exact vp_in_nI (by omega) (by decide)
    refine z_iload C dX10_leave_124 rfl ?_
    refine z_iload C dX10_leave_126 rfl ?_
    refine zt_icmp_ge (tgt := 135) C dX10_leave_128 rfl rfl (by decide) (fun q128 => ?_) (fun q128 => ?_)
    · exfalso; omega
    · refine z_iconst (v := 0) C dX10_leave_131 (by decide) ?_
      refine z_goto (tgt := 140) C dX10_leave_132 (by decide) ?_
      refine z_iast C dX10_leave_140 zk_47 (by decide) ?_ ?_
      · rw [nI_clamp (by omega)]
        exact ht
      simp only [nI_clamp (show i < 2 ^ 31 by omega)]
      refine z_eqv (iv1 := zml1 iv i) (show zu iv 47 (iv 57 i).toNatClampNeg (0) = _ by unfold zml1; rw [if_pos (by omega)]) ?_
      refine z_aload_n C dX10_leave_141 rfl ?_
      refine zs_getR C dX10_leave_142 zf_X10_77 zk_41 (by decide) (zr_41_25 n) ?_
      refine z_iconst (v := 5) C dX10_leave_145 (by decide) ?_
      refine z_iload_n C dX10_leave_146 rfl ?_
      refine z_imul C dX10_leave_147 ?_
      rw [z5_0 i]
      refine z_dup2 C dX10_leave_148 rfl rfl ?_
      refine z_iald C dX10_leave_149 zk_63 (by decide) ?_ ?_
      · exact vp_in_nI (by omega) (by decide)
      refine z_iload C dX10_leave_150 rfl ?_
      refine z_iadd C dX10_leave_152 ?_
      refine z_iast C dX10_leave_153 zk_63 (by decide) ?_ ?_
      · exact vp_in_nI (by omega) (by decide)
      refine z_aload_n C dX10_leave_154 rfl ?_
      refine zs_getR C dX10_leave_155 zf_X10_77 zk_41 (by decide) (zr_41_25 n) ?_
      refine z_iconst (v := 5) C dX10_leave_158 (by decide) ?_
      refine z_iload_n C dX10_leave_159 rfl ?_
      refine z_imul C dX10_leave_160 ?_
      refine z_iconst (v := 1) C dX10_leave_161 (by decide) ?_
      refine z_iadd C dX10_leave_162 ?_
      rw [z5_0 i, nI_1]
      refine z_dup2 C dX10_leave_163 rfl rfl ?_
      refine z_iald C dX10_leave_164 zk_63 (by decide) ?_ ?_
      · exact vp_in_nI (by omega) (by decide)
      refine z_iload C dX10_leave_165 rfl ?_
      refine z_iadd C dX10_leave_167 ?_
      refine z_iast C dX10_leave_168 zk_63 (by decide) ?_ ?_
      · exact vp_in_nI (by omega) (by decide)
      refine z_aload_n C dX10_leave_169 rfl ?_
      refine zs_getR C dX10_leave_170 zf_X10_77 zk_41 (by decide) (zr_41_25 n) ?_
      refine z_iconst (v := 5) C dX10_leave_173 (by decide) ?_
      refine z_iload_n C dX10_leave_174 rfl ?_
      refine z_imul C dX10_leave_175 ?_
      refine z_iconst (v := 2) C dX10_leave_176 (by decide) ?_
      refine z_iadd C dX10_leave_177 ?_
      rw [z5_0 i, show nI (5 * i) + 2 = nI (5 * i + 2) from nI_add _ 2]
      refine z_dup2 C dX10_leave_178 rfl rfl ?_
      refine z_iald C dX10_leave_179 zk_63 (by decide) ?_ ?_
      · exact vp_in_nI (by omega) (by decide)
      refine z_iload C dX10_leave_180 rfl ?_
      refine z_iadd C dX10_leave_182 ?_
      refine z_iast C dX10_leave_183 zk_63 (by decide) ?_ ?_
      · exact vp_in_nI (by omega) (by decide)
      refine z_aload_n C dX10_leave_184 rfl ?_
      refine zs_getR C dX10_leave_185 zf_X10_77 zk_41 (by decide) (zr_41_25 n) ?_
      refine z_iconst (v := 5) C dX10_leave_188 (by decide) ?_
      refine z_iload_n C dX10_leave_189 rfl ?_
      refine z_imul C dX10_leave_190 ?_
      refine z_iconst (v := 3) C dX10_leave_191 (by decide) ?_
      refine z_iadd C dX10_leave_192 ?_
      rw [z5_0 i, show nI (5 * i) + 3 = nI (5 * i + 3) from nI_add _ 3]
      refine z_dup2 C dX10_leave_193 rfl rfl ?_
      refine z_iald C dX10_leave_194 zk_63 (by decide) ?_ ?_
      · exact vp_in_nI (by omega) (by decide)
      refine z_aload_n C dX10_leave_195 rfl ?_
      refine zs_getR C dX10_leave_196 zf_X10_68 zk_41 (by decide) (zr_41_22 n) ?_
      refine z_iload_n C dX10_leave_199 rfl ?_
      refine z_iald C dX10_leave_200 zk_60 (by decide) ?_ ?_
      · exact vp_in_nI (by omega) (by decide)
      refine z_iadd C dX10_leave_201 ?_
      refine z_iast C dX10_leave_202 zk_63 (by decide) ?_ ?_
      · exact vp_in_nI (by omega) (by decide)
      refine z_eqv (iv1 := zml2 iv i) ?_ ?_
      · have k0 : (nI (5 * i)).toNatClampNeg = 5 * i := nI_clamp (by omega)
        have k1 : (nI (5 * i + 1)).toNatClampNeg = 5 * i + 1 := nI_clamp (by omega)
        have k2 : (nI (5 * i + 2)).toNatClampNeg = 5 * i + 2 := nI_clamp (by omega)
        have k3 : (nI (5 * i + 3)).toNatClampNeg = 5 * i + 3 := nI_clamp (by omega)
        rw [k0, k1, k2, k3, nI_clamp (show i < 2 ^ 31 by omega)]
        unfold zml2
        simp only [zu_s]
        rw [show ∀ (f : Nat → Int32) (x : Int32), upd f (5 * i) x (5 * i + 1) = f (5 * i + 1) from fun f x => pk_un (by omega)]
        rw [show ∀ (f : Nat → Int32) (x y : Int32), upd (upd f (5 * i) x) (5 * i + 1) y (5 * i + 2) = f (5 * i + 2) from fun f x y => by rw [pk_un (by omega), pk_un (by omega)]]
        rw [show ∀ (f : Nat → Int32) (x y z : Int32), upd (upd (upd f (5 * i) x) (5 * i + 1) y) (5 * i + 2) z (5 * i + 3) = f (5 * i + 3) from fun f x y z => by rw [pk_un (by omega), pk_un (by omega), pk_un (by omega)]]
        rfl
      refine z_aload_n C dX10_leave_203 rfl ?_
      refine zs_getR C dX10_leave_204 zf_X10_56 zk_41 (by decide) (zr_41_18 n) ?_
      refine z_iload_n C dX10_leave_207 rfl ?_
      refine z_iald C dX10_leave_208 zk_56 (by decide) ?_ ?_
      · exact vp_in_nI (by omega) (by decide)
      refine z_aload_n C dX10_leave_209 rfl ?_
      refine zs_getR C dX10_leave_210 zf_X10_44 zk_41 (by decide) (zr_41_14 n) ?_
      refine z_iload_n C dX10_leave_213 rfl ?_
      refine z_iald C dX10_leave_214 zk_52 (by decide) ?_ ?_
      · exact vp_in_nI (by omega) (by decide)
      refine z_icmp_eq (tgt := 232) C dX10_leave_215 (by decide) (fun q215 => ?_) (fun q215 => ?_)
      · simp only [nI_clamp (show i < 2 ^ 31 by omega)] at q215
        have q215 : iv 56 i = iv 52 i := q215
        refine z_eqv (iv1 := zml3 iv i) (show zml2 iv i = zml3 iv i by unfold zml3; rw [if_pos q215]) ?_
        refine z_aload_n C dX10_leave_232 rfl ?_
        refine zs_getR C dX10_leave_233 zf_X10_65 zk_41 (by decide) (zr_41_21 n) ?_
        refine z_iload_n C dX10_leave_236 rfl ?_
        refine z_iload_n C dX10_leave_237 rfl ?_
        refine z_aload_n C dX10_leave_238 rfl ?_
        refine z_iload_n C dX10_leave_239 rfl ?_
        refine z_iload_n C dX10_leave_240 rfl ?_
        refine zs_callVi C dX10_leave_241 zm_X10_199 zyX10_plainly (m_plainly n (zml3 iv i) _ i hi (zmsg iv i) hs) zc_10 rfl zk_41 (by decide) (by decide) rfl rfl (Nat.le_of_ble_eq_true rfl) (by decide) (by decide) ?_
        refine z_eqi (show _ = iv 42 (zmsg iv i).toNatClampNeg * zpace (iv 50 i) + 2 * iv 43 (zmsg iv i).toNatClampNeg by rw [zml3_o iv i (show 42 ≠ 47 by decide) (by decide), zml3_o iv i (show 43 ≠ 47 by decide) (by decide), zml3_o iv i (show 50 ≠ 47 by decide) (by decide)]) ?_
        refine z_iadd C dX10_leave_244 ?_
        refine z_iload C dX10_leave_245 rfl ?_
        refine z_iadd C dX10_leave_247 ?_
        refine z_iload C dX10_leave_248 rfl ?_
        refine z_iadd C dX10_leave_250 ?_
        refine z_iload C dX10_leave_251 rfl ?_
        refine z_iadd C dX10_leave_253 ?_
        refine z_iast C dX10_leave_254 zk_59 (by decide) ?_ ?_
        · exact vp_in_nI (by omega) (by decide)
        refine z_aload_n C dX10_leave_255 rfl ?_
        refine zs_getR C dX10_leave_256 zf_X10_62 zk_41 (by decide) (zr_41_20 n) ?_
        refine z_iload_n C dX10_leave_259 rfl ?_
        refine z_iload_n C dX10_leave_260 rfl ?_
        refine z_iast C dX10_leave_261 zk_58 (by decide) ?_ ?_
        · exact vp_in_nI (by omega) (by decide)
        refine zs_vret C E dX10_leave_262 ?_ rfl
        rw [nI_clamp (show i < 2 ^ 31 by omega)]
        rfl
      · simp only [nI_clamp (show i < 2 ^ 31 by omega)] at q215
        have q215 : ¬ iv 56 i = iv 52 i := q215
        refine z_aload_n C dX10_leave_218 rfl ?_
        refine zs_getR C dX10_leave_219 zf_X10_77 zk_41 (by decide) (zr_41_25 n) ?_
        refine z_iconst (v := 5) C dX10_leave_222 (by decide) ?_
        refine z_iload_n C dX10_leave_223 rfl ?_
        refine z_imul C dX10_leave_224 ?_
        refine z_iconst (v := 4) C dX10_leave_225 (by decide) ?_
        refine z_iadd C dX10_leave_226 ?_
        rw [z5_0 i, show nI (5 * i) + 4 = nI (5 * i + 4) from nI_add _ 4]
        refine z_dup2 C dX10_leave_227 rfl rfl ?_
        refine z_iald C dX10_leave_228 zk_63 (by decide) ?_ ?_
        · exact vp_in_nI (by omega) (by decide)
        refine z_iconst (v := 2) C dX10_leave_229 (by decide) ?_
        refine z_isub C dX10_leave_230 ?_
        refine z_iast C dX10_leave_231 zk_63 (by decide) ?_ ?_
        · exact vp_in_nI (by omega) (by decide)
        rw [nI_clamp (show 5 * i + 4 < 2 ^ 31 by omega)]
        refine z_eqv (iv1 := zml3 iv i) ?_ ?_
        · unfold zml3
          rw [if_neg q215]
          unfold zml2
          simp only [zu_s]
          rw [show ∀ (f : Nat → Int32) (x y z w : Int32), upd (upd (upd (upd f (5 * i) x) (5 * i + 1) y) (5 * i + 2) z) (5 * i + 3) w (5 * i + 4) = f (5 * i + 4) from fun f x y z w => by rw [pk_un (by omega), pk_un (by omega), pk_un (by omega), pk_un (by omega)]]
          rfl
        refine z_aload_n C dX10_leave_232 rfl ?_
        refine zs_getR C dX10_leave_233 zf_X10_65 zk_41 (by decide) (zr_41_21 n) ?_
        refine z_iload_n C dX10_leave_236 rfl ?_
        refine z_iload_n C dX10_leave_237 rfl ?_
        refine z_aload_n C dX10_leave_238 rfl ?_
        refine z_iload_n C dX10_leave_239 rfl ?_
        refine z_iload_n C dX10_leave_240 rfl ?_
        refine zs_callVi C dX10_leave_241 zm_X10_199 zyX10_plainly (m_plainly n (zml3 iv i) _ i hi (zmsg iv i) hs) zc_10 rfl zk_41 (by decide) (by decide) rfl rfl (Nat.le_of_ble_eq_true rfl) (by decide) (by decide) ?_
        refine z_eqi (show _ = iv 42 (zmsg iv i).toNatClampNeg * zpace (iv 50 i) + 2 * iv 43 (zmsg iv i).toNatClampNeg by rw [zml3_o iv i (show 42 ≠ 47 by decide) (by decide), zml3_o iv i (show 43 ≠ 47 by decide) (by decide), zml3_o iv i (show 50 ≠ 47 by decide) (by decide)]) ?_
        refine z_iadd C dX10_leave_244 ?_
        refine z_iload C dX10_leave_245 rfl ?_
        refine z_iadd C dX10_leave_247 ?_
        refine z_iload C dX10_leave_248 rfl ?_
        refine z_iadd C dX10_leave_250 ?_
        refine z_iload C dX10_leave_251 rfl ?_
        refine z_iadd C dX10_leave_253 ?_
        refine z_iast C dX10_leave_254 zk_59 (by decide) ?_ ?_
        · exact vp_in_nI (by omega) (by decide)
        refine z_aload_n C dX10_leave_255 rfl ?_
        refine zs_getR C dX10_leave_256 zf_X10_62 zk_41 (by decide) (zr_41_20 n) ?_
        refine z_iload_n C dX10_leave_259 rfl ?_
        refine z_iload_n C dX10_leave_260 rfl ?_
        refine z_iast C dX10_leave_261 zk_58 (by decide) ?_ ?_
        · exact vp_in_nI (by omega) (by decide)
        refine zs_vret C E dX10_leave_262 ?_ rfl
        rw [nI_clamp (show i < 2 ^ 31 by omega)]
        rfl
