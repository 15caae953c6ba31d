set_option maxRecDepth 4000 in
theorem r_advance (n : Nat) (iv : zI) (lw : zG) (B : Nat → Int32) (s tk : Nat) (hT : zTk B s tk iv) (i : Nat) (hi : iv 14 2 = nI i) (hi2 : i + 1 < tk) : zMv yX5_advance cX5_advance 1 none 1 [.ref 14] n iv lw (zu (zu iv 14 2 (nI (i + 1))) 14 3 ((zkn (zT B s) s) (i + 1))) lw := by
  refine zM.of (by decide) (Nat.le_of_ble_eq_true rfl) (fun X C E => ?_)
  change zJs X n 1 0 [some (.ref 14)] [] iv lw
  refine z_aload_n C dX5_advance_0 rfl ?_
  refine z_dup C dX5_advance_1 rfl ?_
  refine z_getI C dX5_advance_2 zf_X5_44 zk_14 (by decide) ?_
  refine z_iconst (v := 1) C dX5_advance_5 (by decide) ?_
  refine z_iadd C dX5_advance_6 ?_
  rw [hi, nI_1 i]
  refine z_putI C dX5_advance_7 zf_X5_44 zk_14 (by decide) ?_
  refine z_aload_n C dX5_advance_10 rfl ?_
  refine z_aload_n C dX5_advance_11 rfl ?_
  refine zs_getR C dX5_advance_12 zf_X5_14 zk_14 (by decide) (zr_14_0 n) ?_
  refine z_aload_n C dX5_advance_15 rfl ?_
  refine z_getI C dX5_advance_16 zf_X5_44 zk_14 (by decide) ?_
  rw [zu_ss]
  refine zs_callVi C dX5_advance_19 zm_X5_47 zyX6_kindOf (s_kindOf n (zu iv 14 2 (nI (i + 1))) _ tk hT.2.2.1 hT.1.2 (i + 1) (by have := hT.1.2; omega)) zc_6 rfl zk_15 (by decide) (by decide) rfl rfl (Nat.le_of_ble_eq_true rfl) (by decide) (by decide) ?_
  refine z_eqi (show _ = (zkn (zT B s) s) (i + 1) by rw [if_pos hi2]; exact (hT.2.2.2.1 (i + 1) hi2).1) ?_
  refine z_putI C dX5_advance_22 zf_X5_51 zk_14 (by decide) ?_
  refine zs_vret C E dX5_advance_25 ?_ rfl
  rfl

set_option maxRecDepth 4000 in
theorem r_refuse1 (n : Nat) (iv : zI) (lw : zG) (B : Nat → Int32) (s tk : Nat) (hT : zTk B s tk iv) (i : Nat) (hi : iv 14 2 = nI i) (hi2 : i < tk) (h5 : iv 14 5 = 0) (w : Int32) : zMv yX5_refuse cX5_refuse 2 none 1 [.ref 14, .int w] n iv lw (zu (zu (zu iv 14 5 (if iv 14 3 = 2 then 1 else w)) 14 6 (nI ((zpl (zT B s) s) i))) 14 3 0) lw := by
  refine zM.of (by decide) (Nat.le_of_ble_eq_true rfl) (fun X C E => ?_)
  change zJs X n 2 0 [some (.ref 14), some (.int w)] [] iv lw
  refine z_aload_n C dX5_refuse_0 rfl ?_
  refine z_getI C dX5_refuse_1 zf_X5_37 zk_14 (by decide) ?_
  refine z_if_ne (tgt := 39) C dX5_refuse_4 (by decide) (fun q4 => ?_) (fun q4 => ?_)
  · exact absurd h5 q4
  · refine z_aload_n C dX5_refuse_7 rfl ?_
    refine z_aload_n C dX5_refuse_8 rfl ?_
    refine z_getI C dX5_refuse_9 zf_X5_51 zk_14 (by decide) ?_
    refine z_iconst (v := 2) C dX5_refuse_12 (by decide) ?_
    refine z_icmp_ne (tgt := 20) C dX5_refuse_13 (by decide) (fun q13 => ?_) (fun q13 => ?_)
    · refine z_iload_n C dX5_refuse_20 rfl ?_
      refine z_putI C dX5_refuse_21 zf_X5_37 zk_14 (by decide) ?_
      refine z_aload_n C dX5_refuse_24 rfl ?_
      refine z_aload_n C dX5_refuse_25 rfl ?_
      refine zs_getR C dX5_refuse_26 zf_X5_14 zk_14 (by decide) (zr_14_0 n) ?_
      refine z_aload_n C dX5_refuse_29 rfl ?_
      refine z_getI C dX5_refuse_30 zf_X5_44 zk_14 (by decide) ?_
      rw [show zu iv 14 5 w 14 2 = nI i from hi]
      refine zs_callVi C dX5_refuse_33 zm_X5_93 zyX6_placeOf (s_placeOf n (zu iv 14 5 w) _ tk hT.2.2.1 hT.1.2 i (by have := hT.1.2; omega)) zc_6 rfl zk_15 (by decide) (by decide) rfl rfl (Nat.le_of_ble_eq_true rfl) (by decide) (by decide) ?_
      refine z_eqi (show _ = nI ((zpl (zT B s) s) i) by rw [if_pos hi2]; exact (hT.2.2.2.1 i hi2).2) ?_
      refine z_putI C dX5_refuse_36 zf_X5_27 zk_14 (by decide) ?_
      refine z_aload_n C dX5_refuse_39 rfl ?_
      refine z_iconst (v := 0) C dX5_refuse_40 (by decide) ?_
      refine z_putI C dX5_refuse_41 zf_X5_51 zk_14 (by decide) ?_
      refine zs_vret C E dX5_refuse_44 ?_ rfl
      rw [if_neg q13]
    · refine z_iconst (v := 1) C dX5_refuse_16 (by decide) ?_
      refine z_goto (tgt := 21) C dX5_refuse_17 (by decide) ?_
      refine z_putI C dX5_refuse_21 zf_X5_37 zk_14 (by decide) ?_
      refine z_aload_n C dX5_refuse_24 rfl ?_
      refine z_aload_n C dX5_refuse_25 rfl ?_
      refine zs_getR C dX5_refuse_26 zf_X5_14 zk_14 (by decide) (zr_14_0 n) ?_
      refine z_aload_n C dX5_refuse_29 rfl ?_
      refine z_getI C dX5_refuse_30 zf_X5_44 zk_14 (by decide) ?_
      rw [show zu iv 14 5 1 14 2 = nI i from hi]
      refine zs_callVi C dX5_refuse_33 zm_X5_93 zyX6_placeOf (s_placeOf n (zu iv 14 5 1) _ tk hT.2.2.1 hT.1.2 i (by have := hT.1.2; omega)) zc_6 rfl zk_15 (by decide) (by decide) rfl rfl (Nat.le_of_ble_eq_true rfl) (by decide) (by decide) ?_
      refine z_eqi (show _ = nI ((zpl (zT B s) s) i) by rw [if_pos hi2]; exact (hT.2.2.2.1 i hi2).2) ?_
      refine z_putI C dX5_refuse_36 zf_X5_27 zk_14 (by decide) ?_
      refine z_aload_n C dX5_refuse_39 rfl ?_
      refine z_iconst (v := 0) C dX5_refuse_40 (by decide) ?_
      refine z_putI C dX5_refuse_41 zf_X5_51 zk_14 (by decide) ?_
      refine zs_vret C E dX5_refuse_44 ?_ rfl
      rw [if_pos q13]

set_option maxRecDepth 4000 in
theorem r_refuse0 (n : Nat) (iv : zI) (lw : zG) (h5 : ¬ iv 14 5 = 0) (w : Int32) : zMv yX5_refuse cX5_refuse 2 none 0 [.ref 14, .int w] n iv lw (zu iv 14 3 0) lw := by
  refine zM.of (by decide) (Nat.le_of_ble_eq_true rfl) (fun X C E => ?_)
  change zJs X n 2 0 [some (.ref 14), some (.int w)] [] iv lw
  refine z_aload_n C dX5_refuse_0 rfl ?_
  refine z_getI C dX5_refuse_1 zf_X5_37 zk_14 (by decide) ?_
  refine z_if_ne (tgt := 39) C dX5_refuse_4 (by decide) (fun q4 => ?_) (fun q4 => ?_)
  · refine z_aload_n C dX5_refuse_39 rfl ?_
    refine z_iconst (v := 0) C dX5_refuse_40 (by decide) ?_
    refine z_putI C dX5_refuse_41 zf_X5_51 zk_14 (by decide) ?_
    refine zs_vret C E dX5_refuse_44 ?_ rfl
    rfl
  · exact absurd q4 h5

set_option maxRecDepth 4000 in
theorem r_expect1 (n : Nat) (lw : zG) (B : Nat → Int32) (s tk : Nat) (iv0 : zI) (hE : zEv B s tk iv0) (b : Nat) (iv : zI) (i v : Nat) (P : List Int32) (hP : zPo iv0 b (zkn (zT B s) s) tk iv i v P) (hb : b + P.length ≤ 400) (due : Int32) (hdue : ¬ due = 1 ∧ ¬ due = 2) : zMs yX5_expect cX5_expect 2 none 2 [.ref 14, .int due] n iv lw (fun v0 iv2 lw2 => v0 = none ∧ lw2 = lw ∧ (((zkn (zT B s) s) i = due ∧ zPo iv0 b (zkn (zT B s) s) tk iv2 (i + 1) v P) ∨ (¬ (zkn (zT B s) s) i = due ∧ zPt iv0 iv2 (zbad ((zkn (zT B s) s) i) i).1 (nI ((zpl (zT B s) s) (zbad ((zkn (zT B s) s) i) i).2))))) := by
  refine zM.of (by decide) (Nat.le_of_ble_eq_true rfl) (fun X C E => ?_)
  change zJs X n 2 0 [some (.ref 14), some (.int due)] [] iv lw
  refine z_aload_n C dX5_expect_0 rfl ?_
  refine z_getI C dX5_expect_1 zf_X5_51 zk_14 (by decide) ?_
  refine z_iload_n C dX5_expect_4 rfl ?_
  refine z_icmp_ne (tgt := 15) C dX5_expect_5 (by decide) (fun q5 => ?_) (fun q5 => ?_)
  · rw [hP.2.2.2.2.1] at q5
    refine z_aload_n C dX5_expect_15 rfl ?_
    refine z_iconst (v := 2) C dX5_expect_16 (by decide) ?_
    refine zs_callVv C dX5_expect_17 zm_X5_57 zyX5_refuse (r_refuse1 n iv _ B s tk (hP.1.tk hE.1) i hP.2.2.2.1 hP.2.2.1 hP.2.2.2.2.2.2.1 2) zc_5 rfl zk_14 (by decide) (by decide) rfl rfl (Nat.le_of_ble_eq_true rfl) (by decide) (by decide) ?_
    refine zs_qvret C E dX5_expect_20 ?_
    refine ⟨rfl, rfl, Or.inr ⟨q5, ?_⟩⟩
    rw [hP.2.2.2.2.1]
    exact hP.ref hb _ _ (by split <;> decide)
  · rw [hP.2.2.2.2.1] at q5
    have hnx := hE.nx hP.2.2.1 (fun z => by rw [z] at q5; rw [← q5] at hdue; exact hdue.1 rfl) (fun z => by rw [z] at q5; rw [← q5] at hdue; exact hdue.2 rfl)
    refine z_aload_n C dX5_expect_8 rfl ?_
    refine zs_callVv C dX5_expect_9 zm_X5_60 zyX5_advance (r_advance n iv _ B s tk (hP.1.tk hE.1) i hP.2.2.2.1 hnx) zc_5 rfl zk_14 (by decide) (by decide) rfl rfl (Nat.le_of_ble_eq_true rfl) (by decide) (by decide) ?_
    refine z_goto (tgt := 20) C dX5_expect_12 (by decide) ?_
    refine zs_qvret C E dX5_expect_20 ?_
    exact ⟨rfl, rfl, Or.inl ⟨q5, hP.adv hnx⟩⟩

set_option maxRecDepth 4000 in
theorem r_expect0 (n : Nat) (lw : zG) (iv0 iv : zI) (c pl : Int32) (hP : zPt iv0 iv c pl) (due : Int32) (hdue : ¬ due = 0) : zMs yX5_expect cX5_expect 2 none 1 [.ref 14, .int due] n iv lw (fun v0 iv2 lw2 => v0 = none ∧ lw2 = lw ∧ zPt iv0 iv2 c pl) := by
  refine zM.of (by decide) (Nat.le_of_ble_eq_true rfl) (fun X C E => ?_)
  change zJs X n 2 0 [some (.ref 14), some (.int due)] [] iv lw
  refine z_aload_n C dX5_expect_0 rfl ?_
  refine z_getI C dX5_expect_1 zf_X5_51 zk_14 (by decide) ?_
  refine z_iload_n C dX5_expect_4 rfl ?_
  refine z_icmp_ne (tgt := 15) C dX5_expect_5 (by decide) (fun q5 => ?_) (fun q5 => ?_)
  · rw [hP.2.1] at q5
    refine z_aload_n C dX5_expect_15 rfl ?_
    refine z_iconst (v := 2) C dX5_expect_16 (by decide) ?_
    refine zs_callVv C dX5_expect_17 zm_X5_57 zyX5_refuse (r_refuse0 n iv _ (by rw [hP.2.2.1]; exact hP.2.2.2.2.1) 2) zc_5 rfl zk_14 (by decide) (by decide) rfl rfl (Nat.le_of_ble_eq_true rfl) (by decide) (by decide) ?_
    refine zs_qvret C E dX5_expect_20 ?_
    exact ⟨rfl, rfl, hP.ref⟩
  · rw [hP.2.1] at q5
    exact absurd q5.symm hdue

def zCT (n : Nat) (lw : zG) (B : Nat → Int32) (s tk : Nat) (iv0 : zI) (b v0 n0 : Nat) (L d : Nat) : Prop := ∀ (iv : zI) (i v : Nat) (P : List Int32) (W : List Nat) (now : Nat), zPo iv0 b (zkn (zT B s) s) tk iv i v P → zdeep W = d → (now = 1 ∨ (now = 0 ∧ ¬ (zkn (zT B s) s) i = 207)) → zInv (zkn (zT B s) s) b v0 n0 (now, i, W, P, v) → zMs yX5_readTerm cX5_readTerm 3 none L [.ref 14, .int (nI d)] n iv lw (zQrd iv0 b (zkn (zT B s) s) tk (zpl (zT B s) s) lw i (fun i2 v2 P2 => zR (zkn (zT B s) s) (now, i, W, P, v) (2, i2, W, P2, v2)) (zFl2 (zkn (zT B s) s) (now, i, W, P, v)))

def zCS (n : Nat) (lw : zG) (B : Nat → Int32) (s tk : Nat) (iv0 : zI) (b v0 n0 : Nat) (L d : Nat) : Prop := ∀ (iv : zI) (i v : Nat) (P : List Int32) (W : List Nat) (now : Nat), zPo iv0 b (zkn (zT B s) s) tk iv i v P → zdeep W = d → (now = 1 ∨ (now = 0 ∧ ¬ (zkn (zT B s) s) i = 207)) → ztp zq46 W → zInv (zkn (zT B s) s) b v0 n0 (now, i, W, P, v) → zMs yX5_readSum cX5_readSum 4 none L [.ref 14, .int (nI d)] n iv lw (zQrd iv0 b (zkn (zT B s) s) tk (zpl (zT B s) s) lw i (fun i2 v2 P2 => ∃ t P3, zR (zkn (zT B s) s) (now, i, W, P, v) (2, i2, t ++ W, P3, v2) ∧ P2 = zflu t P3 ∧ (∀ w, w ∈ t → zq46 w = true) ∧ ¬ ((zkn (zT B s) s) i2 = 43 ∨ (zkn (zT B s) s) i2 = 45)) (zFl2 (zkn (zT B s) s) (now, i, W, P, v)))

def zCO (n : Nat) (lw : zG) (B : Nat → Int32) (s tk : Nat) (iv0 : zI) (b v0 n0 : Nat) (L d : Nat) : Prop := ∀ (iv : zI) (i v : Nat) (P : List Int32) (W : List Nat), zPo iv0 b (zkn (zT B s) s) tk iv i v P → zdeep W = d → ztp zq46 W → zcmT W = false → zInv (zkn (zT B s) s) b v0 n0 (0, i, W, P, v) → zMs yX5_readOne cX5_readOne 3 none L [.ref 14, .int (nI d)] n iv lw (zQrd iv0 b (zkn (zT B s) s) tk (zpl (zT B s) s) lw i (fun i2 v2 P2 => ∃ t P3, zR (zkn (zT B s) s) (0, i, W, P, v) (2, i2, t ++ W, P3, v2) ∧ P2 = zflu t P3 ∧ (∀ w, w ∈ t → zqo true w = true) ∧ zfol1 (zkn (zT B s) s) i2 t) (zFl2 (zkn (zT B s) s) (0, i, W, P, v)))

def zCB (n : Nat) (lw : zG) (B : Nat → Int32) (s tk : Nat) (iv0 : zI) (b v0 n0 : Nat) (L d : Nat) : Prop := ∀ (iv : zI) (i v : Nat) (P : List Int32) (W : List Nat), zPo iv0 b (zkn (zT B s) s) tk iv i v P → zdeep W = d → ztp (zqo true) W → zInv (zkn (zT B s) s) b v0 n0 (0, i, W, P, v) → zMs yX5_readBoth cX5_readBoth 3 none L [.ref 14, .int (nI d)] n iv lw (zQrd iv0 b (zkn (zT B s) s) tk (zpl (zT B s) s) lw i (fun i2 v2 P2 => ∃ t P3, zR (zkn (zT B s) s) (0, i, W, P, v) (2, i2, t ++ W, P3, v2) ∧ P2 = zflu t P3 ∧ (∀ w, w ∈ t → zqo true w = true) ∧ zfol1 (zkn (zT B s) s) i2 t ∧ ¬ (zkn (zT B s) s) i2 = 206) (zFl2 (zkn (zT B s) s) (0, i, W, P, v)))

def zCA (n : Nat) (lw : zG) (B : Nat → Int32) (s tk : Nat) (iv0 : zI) (b v0 n0 : Nat) (L d : Nat) : Prop := ∀ (iv : zI) (i v : Nat) (P : List Int32) (W : List Nat), zPo iv0 b (zkn (zT B s) s) tk iv i v P → zdeep W = d → ztp (zqo false) W → zInv (zkn (zT B s) s) b v0 n0 (0, i, W, P, v) → zMs yX5_readAny cX5_readAny 3 none L [.ref 14, .int (nI d)] n iv lw (zQrd iv0 b (zkn (zT B s) s) tk (zpl (zT B s) s) lw i (fun i2 v2 P2 => ∃ t P3, zR (zkn (zT B s) s) (0, i, W, P, v) (2, i2, t ++ W, P3, v2) ∧ P2 = zflu t P3 ∧ (∀ w, w ∈ t → zqo false w = true) ∧ zfol1 (zkn (zT B s) s) i2 t ∧ ¬ (zkn (zT B s) s) i2 = 206 ∧ ¬ (zkn (zT B s) s) i2 = 205) (zFl2 (zkn (zT B s) s) (0, i, W, P, v)))

theorem zterm_len {B : Nat → Int32} {s tk : Nat} {iv0 : zI} (hE : zEv B s tk iv0) {b v0 n0 now i v : Nat} {W : List Nat} {P : List Int32} {x : Int32} (hI : zInv (zkn (zT B s) s) b v0 n0 (now, i, W, P, v)) (hR : zR (zkn (zT B s) s) (now, i, W, P, v) (2, i + 1, W, x :: P, v + 1)) (hn : now ≤ 2) (hi : i + 1 < tk) : b + P.length < 400 := by
  have := hE.bd hi (hI.R hn hR)
  rw [List.length_cons] at this
  omega
theorem zno3 {κ : Int32} (h : zisO κ) : ¬ κ = 3 := fun z => by rw [z] at h; exact absurd h (by decide)

theorem zqo_48 {a : Bool} {w : Nat} (h : zqo a w = true) : w ≠ 48 := (decide_eq_true_iff.mp h).1
theorem zqo_0 {a : Bool} {w : Nat} (h : zqo a w = true) : zq0 w = true := decide_eq_true_iff.mpr (zqo_48 h)

set_option maxHeartbeats 2000000 in
set_option maxRecDepth 4000 in
theorem t_term (n : Nat) (lw : zG) (B : Nat → Int32) (s tk : Nat) (iv0 : zI) (hE : zEv B s tk iv0) (b v0 n0 : Nat) (d : Nat) (hd8 : d < 8) (L LA : Nat) (hA : zCA n lw B s tk iv0 b v0 n0 LA (d + 1)) (hL : LA + 1 ≤ L) (hL4 : 4 ≤ L) : zCT n lw B s tk iv0 b v0 n0 L d := by
  intro iv i v P W now hP hd hnow hI
  refine zM.of (by decide) (Nat.le_of_ble_eq_true rfl) (fun X C E => ?_)
  change zJs X n 3 0 [some (.ref 14), some (.int (nI d)), none] [] iv lw
  obtain ⟨f1, f2, f3, f4, f5, f6, f7, f8, f9, f10⟩ := id hP
  have hv : v ≤ 100 := hI.1.2
  have hbd := hE.bd f3 hI
  have hT := f1.tk hE.1
  have hn2 : now ≠ 2 := by rcases hnow with z | z <;> omega
  have hn3 : now ≤ 2 := by rcases hnow with z | z <;> omega
  refine z_aload_n C dX5_readTerm_0 rfl ?_
  refine z_getI C dX5_readTerm_1 zf_X5_34 zk_14 (by decide) ?_
  refine z_bipush (v := 100) C dX5_readTerm_4 (by decide) ?_
  refine zt_icmp_ge (tgt := 13) C dX5_readTerm_6 (zt_nI f6 (by omega)) (show (100 : Int32).toInt = 100 by decide) (by decide) (fun q6 => ?_) (fun q6 => ?_)
  · refine z_iconst (v := 0) C dX5_readTerm_13 (by decide) ?_
    refine z_istore_n (lv' := [some (.ref 14), some (.int _), some (.int _)]) C dX5_readTerm_14 (by decide) rfl ?_
    refine z_aload_n C dX5_readTerm_15 rfl ?_
    refine z_getI C dX5_readTerm_16 zf_X5_51 zk_14 (by decide) ?_
    refine z_bipush (v := 40) C dX5_readTerm_19 (by decide) ?_
    refine z_icmp_ne (tgt := 44) C dX5_readTerm_21 (by decide) (fun q21 => ?_) (fun q21 => ?_)
    · rw [f5] at q21
      refine z_iload_n C dX5_readTerm_44 rfl ?_
      refine z_if_eq (tgt := 96) C dX5_readTerm_45 (by decide) (fun q45 => ?_) (fun q45 => ?_)
      · refine z_aload_n C dX5_readTerm_96 rfl ?_
        refine z_iload_n C dX5_readTerm_97 rfl ?_
        refine z_if_eq (tgt := 113) C dX5_readTerm_98 (by decide) (fun q98 => ?_) (fun q98 => ?_)
        · refine z_iconst (v := 2) C dX5_readTerm_113 (by decide) ?_
          refine zs_callVv C dX5_readTerm_114 zm_X5_57 zyX5_refuse (r_refuse1 n iv _ B s tk hT i f4 f3 f7 2) zc_5 rfl zk_14 (by decide) (by omega) rfl rfl (Nat.le_of_ble_eq_true rfl) (by decide) (by decide) ?_
          refine zs_qvret C E dX5_readTerm_117 ?_
          rw [f5]
          by_cases hO : zisO ((zkn (zT B s) s) i) ∨ (zkn (zT B s) s) i = 3
          · refine ⟨rfl, rfl, Or.inr ⟨(2, i), ?_, zm_full hn2 (fun _ => (by rw [hd]; exact hd8 : zdeep W < 8)) hO (by omega)⟩⟩
            rw [if_neg (fun z => by rw [z] at hO; exact absurd hO (by decide))]
            exact hP.ref (by omega) 2 _ (by decide)
          · refine ⟨rfl, rfl, Or.inr ⟨zbad ((zkn (zT B s) s) i) i, hP.ref (by omega) _ _ (by split <;> decide), zm_none hn2 (fun _ => (by rw [hd]; exact hd8 : zdeep W < 8)) hO q21 (fun z => ?_)⟩⟩
            rcases hnow with z1 | z1
            · rw [z] at z1; exact absurd z1 (by decide)
            · exact z1.2
        · exact absurd q98 (by decide)
      · exact absurd q45 (by decide)
    · rw [f5] at q21
      refine z_aload_n C dX5_readTerm_24 rfl ?_
      have hnx := hE.nx f3 (by rw [q21]; decide) (by rw [q21]; decide)
      refine zs_callVv C dX5_readTerm_25 zm_X5_60 zyX5_advance (r_advance n iv _ B s tk hT i f4 hnx) zc_5 rfl zk_14 (by decide) (by omega) rfl rfl (Nat.le_of_ble_eq_true rfl) (by decide) (by decide) ?_
      have hP2 := hP.adv hnx
      have hR1 := zm_open (P := P) (v := v) hn2 (fun _ => (by rw [hd]; exact hd8 : zdeep W < 8)) q21
      have hI2 := hI.R hn3 hR1
      refine z_aload_n C dX5_readTerm_28 rfl ?_
      refine z_iload_n C dX5_readTerm_29 rfl ?_
      refine z_iconst (v := 1) C dX5_readTerm_30 (by decide) ?_
      refine z_iadd C dX5_readTerm_31 ?_
      rw [nI_1 d]
      refine zs_callVq C dX5_readTerm_32 zm_X5_63 zyX5_readAny (hA _ (i + 1) v P (48 :: W) hP2 (by rw [zdeep, if_pos (Or.inl rfl), hd]; omega) (fun w hw => by simp at hw; subst hw; decide) hI2) zc_5 rfl zk_14 (by decide) (by omega) rfl rfl (Nat.le_of_ble_eq_true rfl) (by decide) (by decide) (fun v32 iv32 lw32 hq32 => ?_)
      obtain ⟨rfl, rfl, hx32⟩ := hq32
      rcases hx32 with ⟨i2, v2, P2, hP3, hlt, t, P3, hR2, rfl, ht, hf2, ha2, ho2⟩ | ⟨f, hPt, hFl⟩
      · have hlen := hE.bs hP3.2.2.1 (hI2.R (Nat.zero_le 2) hR2) (fun w hw => zqo_48 (ht w hw))
        refine z_aload_n C dX5_readTerm_35 rfl ?_
        refine z_bipush (v := 41) C dX5_readTerm_36 (by decide) ?_
        refine zs_callVq C dX5_readTerm_38 zm_X5_66 zyX5_expect (r_expect1 n _ B s tk iv0 hE b _ i2 v2 _ hP3 (by omega) 41 (by decide)) zc_5 rfl zk_14 (by decide) (by omega) rfl rfl (Nat.le_of_ble_eq_true rfl) (by decide) (by decide) (fun v38 iv38 lw38 hq38 => ?_)
        obtain ⟨rfl, rfl, hx38⟩ := hq38
        rcases hx38 with ⟨hk, hP5⟩ | ⟨hk, hP5⟩
        · refine z_goto (tgt := 117) C dX5_readTerm_41 (by decide) ?_
          refine zs_qvret C E dX5_readTerm_117 ?_
          exact ⟨rfl, rfl, Or.inl ⟨i2 + 1, v2, zflu t P3, hP5, by omega, hR1.tr (hR2.tr (zm_close hk (fun w hw => zqo_0 (ht w hw))))⟩⟩
        · refine z_goto (tgt := 117) C dX5_readTerm_41 (by decide) ?_
          refine zs_qvret C E dX5_readTerm_117 ?_
          exact ⟨rfl, rfl, Or.inr ⟨zbad ((zkn (zT B s) s) i2) i2, hP5, hR1.fl (hR2.fl (zm_end hf2 ha2 ho2 (fun z => hk z.1) (fun z => z.2.2 (by simp))))⟩⟩
      · refine z_aload_n C dX5_readTerm_35 rfl ?_
        refine z_bipush (v := 41) C dX5_readTerm_36 (by decide) ?_
        refine zs_callVq C dX5_readTerm_38 zm_X5_66 zyX5_expect (r_expect0 n _ iv0 _ _ _ hPt 41 (by decide)) zc_5 rfl zk_14 (by decide) (by omega) rfl rfl (Nat.le_of_ble_eq_true rfl) (by decide) (by decide) (fun v38 iv38 lw38 hq38 => ?_)
        obtain ⟨rfl, rfl, hx38⟩ := hq38
        refine z_goto (tgt := 117) C dX5_readTerm_41 (by decide) ?_
        refine zs_qvret C E dX5_readTerm_117 ?_
        exact ⟨rfl, rfl, Or.inr ⟨f, hx38, hR1.fl hFl⟩⟩
  · refine z_iconst (v := 1) C dX5_readTerm_9 (by decide) ?_
    refine z_goto (tgt := 14) C dX5_readTerm_10 (by decide) ?_
    refine z_istore_n (lv' := [some (.ref 14), some (.int _), some (.int _)]) C dX5_readTerm_14 (by decide) rfl ?_
    refine z_aload_n C dX5_readTerm_15 rfl ?_
    refine z_getI C dX5_readTerm_16 zf_X5_51 zk_14 (by decide) ?_
    refine z_bipush (v := 40) C dX5_readTerm_19 (by decide) ?_
    refine z_icmp_ne (tgt := 44) C dX5_readTerm_21 (by decide) (fun q21 => ?_) (fun q21 => ?_)
    · rw [f5] at q21
      refine z_iload_n C dX5_readTerm_44 rfl ?_
      refine z_if_eq (tgt := 96) C dX5_readTerm_45 (by decide) (fun q45 => ?_) (fun q45 => ?_)
      · exact absurd q45 (by decide)
      · refine z_aload_n C dX5_readTerm_48 rfl ?_
        refine z_getI C dX5_readTerm_49 zf_X5_51 zk_14 (by decide) ?_
        refine z_sipush (v := 1000) C dX5_readTerm_52 (by decide) ?_
        refine zt_icmp_ge (tgt := 68) C dX5_readTerm_55 (show (iv 14 3).toInt = ((zkn (zT B s) s) i).toInt by rw [f5]) (show (1000 : Int32).toInt = 1000 by decide) (by decide) (fun q55 => ?_) (fun q55 => ?_)
        · have hO : zisO ((zkn (zT B s) s) i) := Or.inl q55
          have hv2 : v < 100 := by omega
          have hR4 := zm_op (P := P) hn2 (fun _ => (by rw [hd]; exact hd8 : zdeep W < 8)) hO hv2
          have hnx := hE.nx f3 (fun z => by rw [z] at hO; exact absurd hO (by decide)) (fun z => by rw [z] at hO; exact absurd hO (by decide))
          have hlen := zterm_len hE hI hR4 hn3 hnx
          refine z_aload_n C dX5_readTerm_68 rfl ?_
          refine z_dup C dX5_readTerm_69 rfl ?_
          refine z_getI C dX5_readTerm_70 zf_X5_34 zk_14 (by decide) ?_
          refine z_iconst (v := 1) C dX5_readTerm_73 (by decide) ?_
          refine z_iadd C dX5_readTerm_74 ?_
          rw [f6, nI_1 v]
          refine z_putI C dX5_readTerm_75 zf_X5_34 zk_14 (by decide) ?_
          refine z_aload_n C dX5_readTerm_78 rfl ?_
          refine zs_getR C dX5_readTerm_79 zf_X5_23 zk_14 (by decide) (zr_14_1 n) ?_
          refine z_aload_n C dX5_readTerm_82 rfl ?_
          refine z_getI C dX5_readTerm_83 zf_X5_51 zk_14 (by decide) ?_
          rw [show zu iv 14 4 (nI (v + 1)) 14 3 = (zkn (zT B s) s) i from f5]
          refine zs_callVv C dX5_readTerm_86 zm_X5_77 zyX1_add (c_addD n (zu iv 14 4 (nI (v + 1))) _ ((zkn (zT B s) s) i) (by show 0 ≤ (iv 18 3).toInt; rw [f9, nI_toInt (by omega)]; omega)) zc_1 rfl zk_18 (by decide) (by omega) rfl rfl (Nat.le_of_ble_eq_true rfl) (by decide) (by decide) ?_
          have hP4 := hP.opr.add (by omega) ((zkn (zT B s) s) i)
          refine z_aload_n C dX5_readTerm_89 rfl ?_
          refine zs_callVv C dX5_readTerm_90 zm_X5_60 zyX5_advance (r_advance n _ _ B s tk (hP4.1.tk hE.1) i hP4.2.2.2.1 hnx) zc_5 rfl zk_14 (by decide) (by omega) rfl rfl (Nat.le_of_ble_eq_true rfl) (by decide) (by decide) ?_
          refine z_goto (tgt := 117) C dX5_readTerm_93 (by decide) ?_
          refine zs_qvret C E dX5_readTerm_117 ?_
          exact ⟨rfl, rfl, Or.inl ⟨i + 1, v + 1, (zkn (zT B s) s) i :: P, hP4.adv hnx, by omega, hR4⟩⟩
        · refine z_aload_n C dX5_readTerm_58 rfl ?_
          refine z_getI C dX5_readTerm_59 zf_X5_51 zk_14 (by decide) ?_
          refine zs_callSi C dX5_readTerm_62 zm_X5_89 zyX6_isName (c_isName _ _ _ _) (by omega) rfl rfl (Nat.le_of_ble_eq_true rfl) (by decide) (by decide) ?_
          refine zb_if_eq (tgt := 96) C dX5_readTerm_65 (by decide) (fun q65 => ?_) (fun q65 => ?_)
          · rw [f5] at q65
            refine z_aload_n C dX5_readTerm_96 rfl ?_
            refine z_iload_n C dX5_readTerm_97 rfl ?_
            refine z_if_eq (tgt := 113) C dX5_readTerm_98 (by decide) (fun q98 => ?_) (fun q98 => ?_)
            · exact absurd q98 (by decide)
            · refine z_aload_n C dX5_readTerm_101 rfl ?_
              refine z_getI C dX5_readTerm_102 zf_X5_51 zk_14 (by decide) ?_
              refine z_iconst (v := 3) C dX5_readTerm_105 (by decide) ?_
              refine z_icmp_ne (tgt := 113) C dX5_readTerm_106 (by decide) (fun q106 => ?_) (fun q106 => ?_)
              · rw [f5] at q106
                refine z_iconst (v := 2) C dX5_readTerm_113 (by decide) ?_
                refine zs_callVv C dX5_readTerm_114 zm_X5_57 zyX5_refuse (r_refuse1 n iv _ B s tk hT i f4 f3 f7 2) zc_5 rfl zk_14 (by decide) (by omega) rfl rfl (Nat.le_of_ble_eq_true rfl) (by decide) (by decide) ?_
                refine zs_qvret C E dX5_readTerm_117 ?_
                rw [f5]
                refine ⟨rfl, rfl, Or.inr ⟨zbad ((zkn (zT B s) s) i) i, hP.ref (by omega) _ _ (by split <;> decide), zm_none hn2 (fun _ => (by rw [hd]; exact hd8 : zdeep W < 8)) (fun z => z.elim (fun z => z.elim q55 q65) q106) q21 (fun z => ?_)⟩⟩
                rcases hnow with z1 | z1
                · rw [z] at z1; exact absurd z1 (by decide)
                · exact z1.2
              · rw [f5] at q106
                refine z_iconst (v := 3) C dX5_readTerm_109 (by decide) ?_
                refine z_goto (tgt := 114) C dX5_readTerm_110 (by decide) ?_
                refine zs_callVv C dX5_readTerm_114 zm_X5_57 zyX5_refuse (r_refuse1 n iv _ B s tk hT i f4 f3 f7 3) zc_5 rfl zk_14 (by decide) (by omega) rfl rfl (Nat.le_of_ble_eq_true rfl) (by decide) (by decide) ?_
                refine zs_qvret C E dX5_readTerm_117 ?_
                rw [f5]
                refine ⟨rfl, rfl, Or.inr ⟨(3, i), ?_, zm_name hn2 (fun _ => (by rw [hd]; exact hd8 : zdeep W < 8)) q106 (by omega)⟩⟩
                rw [if_neg (by rw [q106]; decide)]
                exact hP.ref (by omega) 3 _ (by decide)
          · rw [f5] at q65
            have hO : zisO ((zkn (zT B s) s) i) := Or.inr q65
            have hv2 : v < 100 := by omega
            have hR4 := zm_op (P := P) hn2 (fun _ => (by rw [hd]; exact hd8 : zdeep W < 8)) hO hv2
            have hnx := hE.nx f3 (fun z => by rw [z] at hO; exact absurd hO (by decide)) (fun z => by rw [z] at hO; exact absurd hO (by decide))
            have hlen := zterm_len hE hI hR4 hn3 hnx
            refine z_aload_n C dX5_readTerm_68 rfl ?_
            refine z_dup C dX5_readTerm_69 rfl ?_
            refine z_getI C dX5_readTerm_70 zf_X5_34 zk_14 (by decide) ?_
            refine z_iconst (v := 1) C dX5_readTerm_73 (by decide) ?_
            refine z_iadd C dX5_readTerm_74 ?_
            rw [f6, nI_1 v]
            refine z_putI C dX5_readTerm_75 zf_X5_34 zk_14 (by decide) ?_
            refine z_aload_n C dX5_readTerm_78 rfl ?_
            refine zs_getR C dX5_readTerm_79 zf_X5_23 zk_14 (by decide) (zr_14_1 n) ?_
            refine z_aload_n C dX5_readTerm_82 rfl ?_
            refine z_getI C dX5_readTerm_83 zf_X5_51 zk_14 (by decide) ?_
            rw [show zu iv 14 4 (nI (v + 1)) 14 3 = (zkn (zT B s) s) i from f5]
            refine zs_callVv C dX5_readTerm_86 zm_X5_77 zyX1_add (c_addD n (zu iv 14 4 (nI (v + 1))) _ ((zkn (zT B s) s) i) (by show 0 ≤ (iv 18 3).toInt; rw [f9, nI_toInt (by omega)]; omega)) zc_1 rfl zk_18 (by decide) (by omega) rfl rfl (Nat.le_of_ble_eq_true rfl) (by decide) (by decide) ?_
            have hP4 := hP.opr.add (by omega) ((zkn (zT B s) s) i)
            refine z_aload_n C dX5_readTerm_89 rfl ?_
            refine zs_callVv C dX5_readTerm_90 zm_X5_60 zyX5_advance (r_advance n _ _ B s tk (hP4.1.tk hE.1) i hP4.2.2.2.1 hnx) zc_5 rfl zk_14 (by decide) (by omega) rfl rfl (Nat.le_of_ble_eq_true rfl) (by decide) (by decide) ?_
            refine z_goto (tgt := 117) C dX5_readTerm_93 (by decide) ?_
            refine zs_qvret C E dX5_readTerm_117 ?_
            exact ⟨rfl, rfl, Or.inl ⟨i + 1, v + 1, (zkn (zT B s) s) i :: P, hP4.adv hnx, by omega, hR4⟩⟩
    · rw [f5] at q21
      refine z_aload_n C dX5_readTerm_24 rfl ?_
      have hnx := hE.nx f3 (by rw [q21]; decide) (by rw [q21]; decide)
      refine zs_callVv C dX5_readTerm_25 zm_X5_60 zyX5_advance (r_advance n iv _ B s tk hT i f4 hnx) zc_5 rfl zk_14 (by decide) (by omega) rfl rfl (Nat.le_of_ble_eq_true rfl) (by decide) (by decide) ?_
      have hP2 := hP.adv hnx
      have hR1 := zm_open (P := P) (v := v) hn2 (fun _ => (by rw [hd]; exact hd8 : zdeep W < 8)) q21
      have hI2 := hI.R hn3 hR1
      refine z_aload_n C dX5_readTerm_28 rfl ?_
      refine z_iload_n C dX5_readTerm_29 rfl ?_
      refine z_iconst (v := 1) C dX5_readTerm_30 (by decide) ?_
      refine z_iadd C dX5_readTerm_31 ?_
      rw [nI_1 d]
      refine zs_callVq C dX5_readTerm_32 zm_X5_63 zyX5_readAny (hA _ (i + 1) v P (48 :: W) hP2 (by rw [zdeep, if_pos (Or.inl rfl), hd]; omega) (fun w hw => by simp at hw; subst hw; decide) hI2) zc_5 rfl zk_14 (by decide) (by omega) rfl rfl (Nat.le_of_ble_eq_true rfl) (by decide) (by decide) (fun v32 iv32 lw32 hq32 => ?_)
      obtain ⟨rfl, rfl, hx32⟩ := hq32
      rcases hx32 with ⟨i2, v2, P2, hP3, hlt, t, P3, hR2, rfl, ht, hf2, ha2, ho2⟩ | ⟨f, hPt, hFl⟩
      · have hlen := hE.bs hP3.2.2.1 (hI2.R (Nat.zero_le 2) hR2) (fun w hw => zqo_48 (ht w hw))
        refine z_aload_n C dX5_readTerm_35 rfl ?_
        refine z_bipush (v := 41) C dX5_readTerm_36 (by decide) ?_
        refine zs_callVq C dX5_readTerm_38 zm_X5_66 zyX5_expect (r_expect1 n _ B s tk iv0 hE b _ i2 v2 _ hP3 (by omega) 41 (by decide)) zc_5 rfl zk_14 (by decide) (by omega) rfl rfl (Nat.le_of_ble_eq_true rfl) (by decide) (by decide) (fun v38 iv38 lw38 hq38 => ?_)
        obtain ⟨rfl, rfl, hx38⟩ := hq38
        rcases hx38 with ⟨hk, hP5⟩ | ⟨hk, hP5⟩
        · refine z_goto (tgt := 117) C dX5_readTerm_41 (by decide) ?_
          refine zs_qvret C E dX5_readTerm_117 ?_
          exact ⟨rfl, rfl, Or.inl ⟨i2 + 1, v2, zflu t P3, hP5, by omega, hR1.tr (hR2.tr (zm_close hk (fun w hw => zqo_0 (ht w hw))))⟩⟩
        · refine z_goto (tgt := 117) C dX5_readTerm_41 (by decide) ?_
          refine zs_qvret C E dX5_readTerm_117 ?_
          exact ⟨rfl, rfl, Or.inr ⟨zbad ((zkn (zT B s) s) i2) i2, hP5, hR1.fl (hR2.fl (zm_end hf2 ha2 ho2 (fun z => hk z.1) (fun z => z.2.2 (by simp))))⟩⟩
      · refine z_aload_n C dX5_readTerm_35 rfl ?_
        refine z_bipush (v := 41) C dX5_readTerm_36 (by decide) ?_
        refine zs_callVq C dX5_readTerm_38 zm_X5_66 zyX5_expect (r_expect0 n _ iv0 _ _ _ hPt 41 (by decide)) zc_5 rfl zk_14 (by decide) (by omega) rfl rfl (Nat.le_of_ble_eq_true rfl) (by decide) (by decide) (fun v38 iv38 lw38 hq38 => ?_)
        obtain ⟨rfl, rfl, hx38⟩ := hq38
        refine z_goto (tgt := 117) C dX5_readTerm_41 (by decide) ?_
        refine zs_qvret C E dX5_readTerm_117 ?_
        exact ⟨rfl, rfl, Or.inr ⟨f, hx38, hR1.fl hFl⟩⟩
