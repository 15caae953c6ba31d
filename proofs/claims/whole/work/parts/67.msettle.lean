/-! what waits and what is written, in the reference's rows -/
def zsc (κ : Int32) : Int32 := if 1000 ≤ κ.toInt then 0 else if 208 ≤ κ.toInt ∧ κ.toInt < 218 then κ - 188 else if κ = 207 then 40 else if κ = 205 then 41 else if κ = 206 then 42 else if κ = 61 then 43 else if κ = 60 then 44 else if κ = 62 then 45 else if κ = 43 then 46 else 47
theorem zsc_op : ∀ w, 40 ≤ w → w < 48 → zsc (zop w) = nI w ∧ ¬ 1000 ≤ (zop w).toInt := by
  intro w h1 h2
  have : ∀ w, w < 48 → 40 ≤ w → zsc (zop w) = nI w ∧ ¬ 1000 ≤ (zop w).toInt := by decide
  exact this w h2 h1
def zMp (iv : zI) (b : Nat) (W : List Nat) (P : List Int32) : Prop :=
  iv 41 49 = nI W.length ∧ iv 41 50 = nI (zdeep W) ∧ (∀ j, j < W.length → iv 73 j = nI (W.reverse.getD j 0)) ∧ iv 41 36 = nI (b + P.length) ∧ ∀ j, j < P.length → iv 68 (b + j) = zsc (P.reverse.getD j 0) ∧ (1000 ≤ (P.reverse.getD j 0).toInt → iv 69 (b + j) = P.reverse.getD j 0 - 1000)
def zfs (b : Nat) (u v : zI) : Prop := (∀ q, q ≠ 41 → q ≠ 68 → q ≠ 69 → q ≠ 73 → u q = v q) ∧ (∀ j, j ≠ 36 → j ≠ 49 → j ≠ 50 → u 41 j = v 41 j) ∧ ∀ j, j < b → u 68 j = v 68 j ∧ u 69 j = v 69 j
theorem zfs.rf (b : Nat) (u : zI) : zfs b u u := ⟨fun _ _ _ _ _ => rfl, fun _ _ _ _ => rfl, fun _ _ => ⟨rfl, rfl⟩⟩
theorem zfs.tr {b : Nat} {u v w : zI} (h : zfs b u v) (h2 : zfs b v w) : zfs b u w := ⟨fun q a1 a2 a3 a4 => (h.1 q a1 a2 a3 a4).trans (h2.1 q a1 a2 a3 a4), fun j a1 a2 a3 => (h.2.1 j a1 a2 a3).trans (h2.2.1 j a1 a2 a3), fun j hj => ⟨(h.2.2 j hj).1.trans (h2.2.2 j hj).1, (h.2.2 j hj).2.trans (h2.2.2 j hj).2⟩⟩
theorem zrev_top (w : Nat) (W : List Nat) : (w :: W).reverse.getD W.length 0 = w := by
  rw [List.reverse_cons, List.getD_eq_getElem?_getD, List.getElem?_append_right (by rw [List.length_reverse]; exact Nat.le_refl _), List.length_reverse, Nat.sub_self]
  rfl
theorem zrev_low {α : Type} (w : α) (W : List α) (d : α) {j : Nat} (h : j < W.length) : (w :: W).reverse.getD j d = W.reverse.getD j d := by
  rw [List.reverse_cons, List.getD_eq_getElem?_getD, List.getElem?_append_left (by rw [List.length_reverse]; exact h), ← List.getD_eq_getElem?_getD]
theorem zrev_top2 (w : Int32) (W : List Int32) : (w :: W).reverse.getD W.length 0 = w := by
  rw [List.reverse_cons, List.getD_eq_getElem?_getD, List.getElem?_append_right (by rw [List.length_reverse]; exact Nat.le_refl _), List.length_reverse, Nat.sub_self]
  rfl
theorem zMp.top {iv : zI} {b w : Nat} {W : List Nat} {P : List Int32} (h : zMp iv b (w :: W) P) : iv 73 W.length = nI w := by
  have := h.2.2.1 W.length (by rw [List.length_cons]; omega)
  rw [zrev_top] at this
  exact this
/-- one is written down -/
theorem zMp.put {iv : zI} {b : Nat} {W : List Nat} {P : List Int32} {x c nu : Int32} (h : zMp iv b W P) (hc : c = zsc x) (hn : 1000 ≤ x.toInt → nu = x - 1000) : zMp (zu (zu (zu iv 68 (b + P.length) c) 69 (b + P.length) nu) 41 36 (nI (b + P.length + 1))) b W (x :: P) := by
  obtain ⟨h1, h2, h3, h4, h5⟩ := h
  have e41 : ∀ j, j ≠ 36 → zu (zu (zu iv 68 (b + P.length) c) 69 (b + P.length) nu) 41 36 (nI (b + P.length + 1)) 41 j = iv 41 j := fun j hj => by rw [zu_s, pk_un hj, zu_n _ _ _ (by decide), zu_n _ _ _ (by decide)]
  refine ⟨by rw [e41 49 (by decide)]; exact h1, by rw [e41 50 (by decide)]; exact h2, h3, by rw [zu_ss]; rfl, fun j hj => ?_⟩
  rw [List.length_cons] at hj
  rw [show zu (zu (zu iv 68 (b + P.length) c) 69 (b + P.length) nu) 41 36 (nI (b + P.length + 1)) 68 = upd (iv 68) (b + P.length) c from rfl, show zu (zu (zu iv 68 (b + P.length) c) 69 (b + P.length) nu) 41 36 (nI (b + P.length + 1)) 69 = upd (iv 69) (b + P.length) nu from rfl]
  by_cases hj2 : j = P.length
  · subst hj2
    rw [pk_us, pk_us, zrev_top2]
    exact ⟨hc, hn⟩
  · rw [pk_un (by omega), pk_un (by omega), zrev_low x P 0 (by omega)]
    exact h5 j (by omega)
theorem zfs.put {iv u : zI} {b m : Nat} {c nu d : Int32} (h : zfs b u iv) (hm : b ≤ m) : zfs b (zu (zu (zu u 68 m c) 69 m nu) 41 36 d) iv := by
  refine ⟨fun q a1 a2 a3 a4 => by rw [zu_n _ _ _ a1, zu_n _ _ _ a3, zu_n _ _ _ a2]; exact h.1 q a1 a2 a3 a4, fun j a1 a2 a3 => by rw [zu_s, pk_un a1, zu_n _ _ _ (by decide), zu_n _ _ _ (by decide)]; exact h.2.1 j a1 a2 a3, fun j hj => ?_⟩
  rw [show zu (zu (zu u 68 m c) 69 m nu) 41 36 d 68 = upd (u 68) m c from rfl, show zu (zu (zu u 68 m c) 69 m nu) 41 36 d 69 = upd (u 69) m nu from rfl, pk_un (by omega), pk_un (by omega)]
  exact h.2.2 j hj
/-- the top of what waits is taken off -/
theorem zMp.off {iv : zI} {b w : Nat} {W : List Nat} {P : List Int32} (h : zMp iv b (w :: W) P) (hw : w ≤ 48) : zMp (if w = 40 ∨ w = 48 then zu (zu iv 41 49 (nI W.length)) 41 50 (zu iv 41 49 (nI W.length) 41 50 - 1) else zu iv 41 49 (nI W.length)) b W P := by
  obtain ⟨h1, h2, h3, h4, h5⟩ := h
  have h3' : ∀ j, j < W.length → iv 73 j = nI (W.reverse.getD j 0) := fun j hj => by
    rw [h3 j (by rw [List.length_cons]; omega), zrev_low w W 0 hj]
  rw [zdeep] at h2
  by_cases c : w = 40 ∨ w = 48
  · rw [if_pos c]
    rw [if_pos (Or.comm.mp c)] at h2
    refine ⟨by rw [zu_s, pk_un (by decide), zu_ss], ?_, h3', ?_, h5⟩
    · rw [zu_ss, zu_s, pk_un (by decide), h2, Nat.add_comm, ← nI_1]
      exact Int32.add_sub_cancel _ _
    · rw [zu_s, pk_un (by decide), zu_s, pk_un (by decide)]; exact h4
  · rw [if_neg c]
    rw [if_neg (fun z => c (Or.comm.mp z)), Nat.zero_add] at h2
    refine ⟨zu_ss _ _ _ _, ?_, h3', ?_, h5⟩
    · rw [zu_s, pk_un (by decide)]; exact h2
    · rw [zu_s, pk_un (by decide)]; exact h4
theorem zfs.off {iv u : zI} {b : Nat} {x y : Int32} {c : Prop} [Decidable c] (h : zfs b u iv) : zfs b (if c then zu (zu u 41 49 x) 41 50 y else zu u 41 49 x) iv := by
  split
  · exact ⟨fun q a1 a2 a3 a4 => by rw [zu_n _ _ _ a1, zu_n _ _ _ a1]; exact h.1 q a1 a2 a3 a4, fun j a1 a2 a3 => by rw [zu_s, pk_un a3, zu_s, pk_un a2]; exact h.2.1 j a1 a2 a3, h.2.2⟩
  · exact ⟨fun q a1 a2 a3 a4 => by rw [zu_n _ _ _ a1]; exact h.1 q a1 a2 a3 a4, fun j a1 a2 a3 => by rw [zu_s, pk_un a2]; exact h.2.1 j a1 a2 a3, h.2.2⟩
theorem nI_prd {m : Nat} (h : m + 1 < 2 ^ 31) : nI (m + 1) - 1 = nI m := by
  rw [show (1 : Int32) = nI 1 from rfl, zsubN (by omega) h]
  rfl

theorem zoff_73 {iv : zI} {b w : Nat} {W : List Nat} {P : List Int32} {c : Prop} [Decidable c] {x y : Int32} (h : zMp iv b (w :: W) P) : (if c then zu (zu iv 41 49 x) 41 50 y else zu iv 41 49 x) 73 W.length = nI w := by
  split
  · exact h.top
  · exact h.top

set_option maxHeartbeats 1000000 in
set_option maxRecDepth 4000 in
theorem lm_settle46 (n : Nat) (iv : zI) (lw : zG) (b : Nat) (W0 : List Nat) (P0 : List Int32) {X : zX} (C : zC X cX10_settle 2 RX10 none "settle" 1 0 0) (E : zEnd X (91 + 3 * n) 0 0 (zQ n (fun v iv2 lw2 => v = none ∧ lw2 = lw ∧ zfs b iv2 iv ∧ zMp iv2 b (zsett zq46 W0 P0).1 (zsett zq46 W0 P0).2))) : ∀ (W : List Nat) (P : List Int32) (cur : zI), zfs b cur iv → zMp cur b W P → zwo W → (b + P.length + W.length < 500 ∧ W.length ≤ 400) → zsett zq46 W P = zsett zq46 W0 P0 → zJs X n 2 0 [some (.ref 41), some (.int 46)] [] cur lw := by
  intro W
  induction W with
  | nil =>
    intro P cur hf hM hwo hb hs
    have hM : zMp cur b (zsett zq46 [] P).1 (zsett zq46 [] P).2 := hM
    refine z_aload_n C dX10_settle_0 rfl ?_
    refine z_getI C dX10_settle_1 zf_X10_292 zk_41 (by decide) ?_
    refine zt_if_le (tgt := 89) C dX10_settle_4 (show (cur 41 49).toInt = 0 by rw [show cur 41 49 = nI 0 from hM.1]; decide) (by decide) (fun q4 => ?_) (fun q4 => ?_)
    · refine zs_qvret C E dX10_settle_89 ?_
      exact ⟨rfl, rfl, hf, by rw [← hs]; exact hM⟩
    · exact absurd q4 (by decide)
  | cons w W ih =>
    intro P cur hf hM hwo hb hs
    have hw := hwo w (by simp)
    rw [List.length_cons] at hb
    have h49 : cur 41 49 = nI (W.length + 1) := hM.1
    refine z_aload_n C dX10_settle_0 rfl ?_
    refine z_getI C dX10_settle_1 zf_X10_292 zk_41 (by decide) ?_
    refine zt_if_le (tgt := 89) C dX10_settle_4 (show (cur 41 49).toInt = (W.length : Int) + 1 by rw [h49, nI_toInt (by omega)]; omega) (by decide) (fun q4 => ?_) (fun q4 => ?_)
    · exfalso; omega
    · refine z_aload_n C dX10_settle_7 rfl ?_
      refine zs_getR C dX10_settle_8 zf_X10_110 zk_41 (by decide) (zr_41_48 n) ?_
      refine z_aload_n C dX10_settle_11 rfl ?_
      refine z_getI C dX10_settle_12 zf_X10_292 zk_41 (by decide) ?_
      rw [h49]
      refine z_iconst (v := 1) C dX10_settle_15 (by decide) ?_
      refine z_isub C dX10_settle_16 ?_
      rw [nI_prd (by omega)]
      refine z_iald C dX10_settle_17 zk_73 (by decide) ?_ ?_
      · exact vp_in_nI (by omega) (by decide)
      refine z_eqi (show _ = nI w by rw [nI_clamp (by omega)]; exact hM.top) ?_
      refine z_bipush (v := 48) C dX10_settle_18 (by decide) ?_
      refine z_icmp_eq (tgt := 89) C dX10_settle_20 (by decide) (fun q20 => ?_) (fun q20 => ?_)
      · have e48 : w = 48 := nI_inj4 (b := 48) (by omega) (by decide) q20
        refine zs_qvret C E dX10_settle_89 ?_
        refine ⟨rfl, rfl, hf, ?_⟩
        rw [← hs, show zsett zq46 (w :: W) P = (w :: W, P) by show (if zq46 w = true then _ else _) = _; rw [if_neg (by rw [e48]; decide)]]
        exact hM
      · have hw48 : ¬ w = 48 := fun z => q20 (by rw [z]; rfl)
        refine z_aload_n C dX10_settle_23 rfl ?_
        refine zs_getR C dX10_settle_24 zf_X10_110 zk_41 (by decide) (zr_41_48 n) ?_
        refine z_aload_n C dX10_settle_27 rfl ?_
        refine z_getI C dX10_settle_28 zf_X10_292 zk_41 (by decide) ?_
        rw [h49]
        refine z_iconst (v := 1) C dX10_settle_31 (by decide) ?_
        refine z_isub C dX10_settle_32 ?_
        rw [nI_prd (by omega)]
        refine z_iald C dX10_settle_33 zk_73 (by decide) ?_ ?_
        · exact vp_in_nI (by omega) (by decide)
        refine z_eqi (show _ = nI w by rw [nI_clamp (by omega)]; exact hM.top) ?_
        refine z_iload_n C dX10_settle_34 rfl ?_
        refine zt_icmp_lt (tgt := 89) C dX10_settle_35 (show (nI w).toInt = (w : Int) from nI_toInt (by omega)) (show (46 : Int32).toInt = 46 by decide) (by decide) (fun q35 => ?_) (fun q35 => ?_)
        · refine zs_qvret C E dX10_settle_89 ?_
          refine ⟨rfl, rfl, hf, ?_⟩
          rw [← hs, show zsett zq46 (w :: W) P = (w :: W, P) by show (if zq46 w = true then _ else _) = _; rw [if_neg (fun z => by have := decide_eq_true_iff.mp z; omega)]]
          exact hM
        · refine z_aload_n C dX10_settle_38 rfl ?_
          refine z_dup C dX10_settle_39 rfl ?_
          refine z_getI C dX10_settle_40 zf_X10_292 zk_41 (by decide) ?_
          rw [h49]
          refine z_iconst (v := 1) C dX10_settle_43 (by decide) ?_
          refine z_isub C dX10_settle_44 ?_
          rw [nI_prd (by omega)]
          refine z_putI C dX10_settle_45 zf_X10_292 zk_41 (by decide) ?_
          refine z_aload_n C dX10_settle_48 rfl ?_
          refine zs_getR C dX10_settle_49 zf_X10_110 zk_41 (by decide) (zr_41_48 n) ?_
          refine z_aload_n C dX10_settle_52 rfl ?_
          refine z_getI C dX10_settle_53 zf_X10_292 zk_41 (by decide) ?_
          rw [zu_ss]
          refine z_iald C dX10_settle_56 zk_73 (by decide) ?_ ?_
          · exact vp_in_nI (by omega) (by decide)
          refine z_eqi (show _ = nI w by rw [nI_clamp (by omega)]; exact hM.top) ?_
          refine z_bipush (v := 40) C dX10_settle_57 (by decide) ?_
          refine z_icmp_ne (tgt := 72) C dX10_settle_59 (by decide) (fun q59 => ?_) (fun q59 => ?_)
          · refine z_eqv (iv1 := if w = 40 ∨ w = 48 then zu (zu cur 41 49 (nI W.length)) 41 50 (zu cur 41 49 (nI W.length) 41 50 - 1) else zu cur 41 49 (nI W.length)) (by rw [if_neg (fun z => z.elim (fun z => q59 (by rw [z]; rfl)) hw48)]) ?_
            have hM2 := hM.off hw.2
            have hf2 : zfs b (if w = 40 ∨ w = 48 then zu (zu cur 41 49 (nI W.length)) 41 50 (zu cur 41 49 (nI W.length) 41 50 - 1) else zu cur 41 49 (nI W.length)) iv := hf.off
            refine z_aload_n C dX10_settle_72 rfl ?_
            refine z_aload_n C dX10_settle_73 rfl ?_
            refine zs_getR C dX10_settle_74 zf_X10_110 zk_41 (by decide) (zr_41_48 n) ?_
            refine z_aload_n C dX10_settle_77 rfl ?_
            refine z_getI C dX10_settle_78 zf_X10_292 zk_41 (by decide) ?_
            rw [hM2.1]
            refine z_iald C dX10_settle_81 zk_73 (by decide) ?_ ?_
            · exact vp_in_nI (by omega) (by decide)
            refine z_eqi (show _ = nI w by rw [nI_clamp (by omega)]; exact zoff_73 hM) ?_
            refine z_iconst (v := 0) C dX10_settle_82 (by decide) ?_
            refine zs_callVv C dX10_settle_83 zm_X10_298 zyX10_step (m_step n _ _ (b + P.length) hM2.2.2.2.1 (by omega) (nI w) 0) zc_10 rfl zk_41 (by decide) (by decide) rfl rfl (Nat.le_of_ble_eq_true rfl) (by decide) (by decide) ?_
            refine z_goto (tgt := 0) C dX10_settle_86 (by decide) ?_
            refine ih (zop w :: P) _ (hf2.put (by omega)) (hM2.put (zsc_op w hw.1 (by omega)).1.symm (fun z => absurd z (zsc_op w hw.1 (by omega)).2)) (fun x hx => hwo x (by simp [hx])) (by rw [List.length_cons]; omega) ?_
            rw [← hs, show zsett zq46 (w :: W) P = zsett zq46 W (zop w :: P) by show (if zq46 w = true then _ else _) = _; rw [if_pos (show zq46 w = true from decide_eq_true_iff.mpr ⟨hw48, by omega⟩)]]
          · refine z_aload_n C dX10_settle_62 rfl ?_
            refine z_dup C dX10_settle_63 rfl ?_
            refine z_getI C dX10_settle_64 zf_X10_295 zk_41 (by decide) ?_
            refine z_iconst (v := 1) C dX10_settle_67 (by decide) ?_
            refine z_isub C dX10_settle_68 ?_
            refine z_putI C dX10_settle_69 zf_X10_295 zk_41 (by decide) ?_
            refine z_eqv (iv1 := if w = 40 ∨ w = 48 then zu (zu cur 41 49 (nI W.length)) 41 50 (zu cur 41 49 (nI W.length) 41 50 - 1) else zu cur 41 49 (nI W.length)) (by rw [if_pos (Or.inl (nI_inj4 (b := 40) (by omega) (by decide) q59))]) ?_
            have hM2 := hM.off hw.2
            have hf2 : zfs b (if w = 40 ∨ w = 48 then zu (zu cur 41 49 (nI W.length)) 41 50 (zu cur 41 49 (nI W.length) 41 50 - 1) else zu cur 41 49 (nI W.length)) iv := hf.off
            refine z_aload_n C dX10_settle_72 rfl ?_
            refine z_aload_n C dX10_settle_73 rfl ?_
            refine zs_getR C dX10_settle_74 zf_X10_110 zk_41 (by decide) (zr_41_48 n) ?_
            refine z_aload_n C dX10_settle_77 rfl ?_
            refine z_getI C dX10_settle_78 zf_X10_292 zk_41 (by decide) ?_
            rw [hM2.1]
            refine z_iald C dX10_settle_81 zk_73 (by decide) ?_ ?_
            · exact vp_in_nI (by omega) (by decide)
            refine z_eqi (show _ = nI w by rw [nI_clamp (by omega)]; exact zoff_73 hM) ?_
            refine z_iconst (v := 0) C dX10_settle_82 (by decide) ?_
            refine zs_callVv C dX10_settle_83 zm_X10_298 zyX10_step (m_step n _ _ (b + P.length) hM2.2.2.2.1 (by omega) (nI w) 0) zc_10 rfl zk_41 (by decide) (by decide) rfl rfl (Nat.le_of_ble_eq_true rfl) (by decide) (by decide) ?_
            refine z_goto (tgt := 0) C dX10_settle_86 (by decide) ?_
            refine ih (zop w :: P) _ (hf2.put (by omega)) (hM2.put (zsc_op w hw.1 (by omega)).1.symm (fun z => absurd z (zsc_op w hw.1 (by omega)).2)) (fun x hx => hwo x (by simp [hx])) (by rw [List.length_cons]; omega) ?_
            rw [← hs, show zsett zq46 (w :: W) P = zsett zq46 W (zop w :: P) by show (if zq46 w = true then _ else _) = _; rw [if_pos (show zq46 w = true from decide_eq_true_iff.mpr ⟨hw48, by omega⟩)]]
theorem m_settle46 (n : Nat) (iv : zI) (lw : zG) (b : Nat) (W0 : List Nat) (P0 : List Int32) (hM : zMp iv b W0 P0) (hwo : zwo W0) (hb : b + P0.length + W0.length < 500 ∧ W0.length ≤ 400) : zMs yX10_settle cX10_settle 2 none 1 [.ref 41, .int 46] n iv lw (fun v iv2 lw2 => v = none ∧ lw2 = lw ∧ zfs b iv2 iv ∧ zMp iv2 b (zsett zq46 W0 P0).1 (zsett zq46 W0 P0).2) := by
  refine zM.of (by decide) (Nat.le_of_ble_eq_true rfl) (fun X C E => ?_)
  exact lm_settle46 n iv lw b W0 P0 C E W0 P0 iv (zfs.rf b iv) hM hwo hb rfl

set_option maxHeartbeats 1000000 in
set_option maxRecDepth 4000 in
theorem lm_settle0 (n : Nat) (iv : zI) (lw : zG) (b : Nat) (W0 : List Nat) (P0 : List Int32) {X : zX} (C : zC X cX10_settle 2 RX10 none "settle" 1 0 0) (E : zEnd X (91 + 3 * n) 0 0 (zQ n (fun v iv2 lw2 => v = none ∧ lw2 = lw ∧ zfs b iv2 iv ∧ zMp iv2 b (zsett zq0 W0 P0).1 (zsett zq0 W0 P0).2))) : ∀ (W : List Nat) (P : List Int32) (cur : zI), zfs b cur iv → zMp cur b W P → zwo W → (b + P.length + W.length < 500 ∧ W.length ≤ 400) → zsett zq0 W P = zsett zq0 W0 P0 → zJs X n 2 0 [some (.ref 41), some (.int 0)] [] cur lw := by
  intro W
  induction W with
  | nil =>
    intro P cur hf hM hwo hb hs
    have hM : zMp cur b (zsett zq0 [] P).1 (zsett zq0 [] P).2 := hM
    refine z_aload_n C dX10_settle_0 rfl ?_
    refine z_getI C dX10_settle_1 zf_X10_292 zk_41 (by decide) ?_
    refine zt_if_le (tgt := 89) C dX10_settle_4 (show (cur 41 49).toInt = 0 by rw [show cur 41 49 = nI 0 from hM.1]; decide) (by decide) (fun q4 => ?_) (fun q4 => ?_)
    · refine zs_qvret C E dX10_settle_89 ?_
      exact ⟨rfl, rfl, hf, by rw [← hs]; exact hM⟩
    · exact absurd q4 (by decide)
  | cons w W ih =>
    intro P cur hf hM hwo hb hs
    have hw := hwo w (by simp)
    rw [List.length_cons] at hb
    have h49 : cur 41 49 = nI (W.length + 1) := hM.1
    refine z_aload_n C dX10_settle_0 rfl ?_
    refine z_getI C dX10_settle_1 zf_X10_292 zk_41 (by decide) ?_
    refine zt_if_le (tgt := 89) C dX10_settle_4 (show (cur 41 49).toInt = (W.length : Int) + 1 by rw [h49, nI_toInt (by omega)]; omega) (by decide) (fun q4 => ?_) (fun q4 => ?_)
    · exfalso; omega
    · refine z_aload_n C dX10_settle_7 rfl ?_
      refine zs_getR C dX10_settle_8 zf_X10_110 zk_41 (by decide) (zr_41_48 n) ?_
      refine z_aload_n C dX10_settle_11 rfl ?_
      refine z_getI C dX10_settle_12 zf_X10_292 zk_41 (by decide) ?_
      rw [h49]
      refine z_iconst (v := 1) C dX10_settle_15 (by decide) ?_
      refine z_isub C dX10_settle_16 ?_
      rw [nI_prd (by omega)]
      refine z_iald C dX10_settle_17 zk_73 (by decide) ?_ ?_
      · exact vp_in_nI (by omega) (by decide)
      refine z_eqi (show _ = nI w by rw [nI_clamp (by omega)]; exact hM.top) ?_
      refine z_bipush (v := 48) C dX10_settle_18 (by decide) ?_
      refine z_icmp_eq (tgt := 89) C dX10_settle_20 (by decide) (fun q20 => ?_) (fun q20 => ?_)
      · have e48 : w = 48 := nI_inj4 (b := 48) (by omega) (by decide) q20
        refine zs_qvret C E dX10_settle_89 ?_
        refine ⟨rfl, rfl, hf, ?_⟩
        rw [← hs, show zsett zq0 (w :: W) P = (w :: W, P) by show (if zq0 w = true then _ else _) = _; rw [if_neg (by rw [e48]; decide)]]
        exact hM
      · have hw48 : ¬ w = 48 := fun z => q20 (by rw [z]; rfl)
        refine z_aload_n C dX10_settle_23 rfl ?_
        refine zs_getR C dX10_settle_24 zf_X10_110 zk_41 (by decide) (zr_41_48 n) ?_
        refine z_aload_n C dX10_settle_27 rfl ?_
        refine z_getI C dX10_settle_28 zf_X10_292 zk_41 (by decide) ?_
        rw [h49]
        refine z_iconst (v := 1) C dX10_settle_31 (by decide) ?_
        refine z_isub C dX10_settle_32 ?_
        rw [nI_prd (by omega)]
        refine z_iald C dX10_settle_33 zk_73 (by decide) ?_ ?_
        · exact vp_in_nI (by omega) (by decide)
        refine z_eqi (show _ = nI w by rw [nI_clamp (by omega)]; exact hM.top) ?_
        refine z_iload_n C dX10_settle_34 rfl ?_
        refine zt_icmp_lt (tgt := 89) C dX10_settle_35 (show (nI w).toInt = (w : Int) from nI_toInt (by omega)) (show (0 : Int32).toInt = 0 by decide) (by decide) (fun q35 => ?_) (fun q35 => ?_)
        · exfalso; omega
        · refine z_aload_n C dX10_settle_38 rfl ?_
          refine z_dup C dX10_settle_39 rfl ?_
          refine z_getI C dX10_settle_40 zf_X10_292 zk_41 (by decide) ?_
          rw [h49]
          refine z_iconst (v := 1) C dX10_settle_43 (by decide) ?_
          refine z_isub C dX10_settle_44 ?_
          rw [nI_prd (by omega)]
          refine z_putI C dX10_settle_45 zf_X10_292 zk_41 (by decide) ?_
          refine z_aload_n C dX10_settle_48 rfl ?_
          refine zs_getR C dX10_settle_49 zf_X10_110 zk_41 (by decide) (zr_41_48 n) ?_
          refine z_aload_n C dX10_settle_52 rfl ?_
          refine z_getI C dX10_settle_53 zf_X10_292 zk_41 (by decide) ?_
          rw [zu_ss]
          refine z_iald C dX10_settle_56 zk_73 (by decide) ?_ ?_
          · exact vp_in_nI (by omega) (by decide)
          refine z_eqi (show _ = nI w by rw [nI_clamp (by omega)]; exact hM.top) ?_
          refine z_bipush (v := 40) C dX10_settle_57 (by decide) ?_
          refine z_icmp_ne (tgt := 72) C dX10_settle_59 (by decide) (fun q59 => ?_) (fun q59 => ?_)
          · refine z_eqv (iv1 := if w = 40 ∨ w = 48 then zu (zu cur 41 49 (nI W.length)) 41 50 (zu cur 41 49 (nI W.length) 41 50 - 1) else zu cur 41 49 (nI W.length)) (by rw [if_neg (fun z => z.elim (fun z => q59 (by rw [z]; rfl)) hw48)]) ?_
            have hM2 := hM.off hw.2
            have hf2 : zfs b (if w = 40 ∨ w = 48 then zu (zu cur 41 49 (nI W.length)) 41 50 (zu cur 41 49 (nI W.length) 41 50 - 1) else zu cur 41 49 (nI W.length)) iv := hf.off
            refine z_aload_n C dX10_settle_72 rfl ?_
            refine z_aload_n C dX10_settle_73 rfl ?_
            refine zs_getR C dX10_settle_74 zf_X10_110 zk_41 (by decide) (zr_41_48 n) ?_
            refine z_aload_n C dX10_settle_77 rfl ?_
            refine z_getI C dX10_settle_78 zf_X10_292 zk_41 (by decide) ?_
            rw [hM2.1]
            refine z_iald C dX10_settle_81 zk_73 (by decide) ?_ ?_
            · exact vp_in_nI (by omega) (by decide)
            refine z_eqi (show _ = nI w by rw [nI_clamp (by omega)]; exact zoff_73 hM) ?_
            refine z_iconst (v := 0) C dX10_settle_82 (by decide) ?_
            refine zs_callVv C dX10_settle_83 zm_X10_298 zyX10_step (m_step n _ _ (b + P.length) hM2.2.2.2.1 (by omega) (nI w) 0) zc_10 rfl zk_41 (by decide) (by decide) rfl rfl (Nat.le_of_ble_eq_true rfl) (by decide) (by decide) ?_
            refine z_goto (tgt := 0) C dX10_settle_86 (by decide) ?_
            refine ih (zop w :: P) _ (hf2.put (by omega)) (hM2.put (zsc_op w hw.1 (by omega)).1.symm (fun z => absurd z (zsc_op w hw.1 (by omega)).2)) (fun x hx => hwo x (by simp [hx])) (by rw [List.length_cons]; omega) ?_
            rw [← hs, show zsett zq0 (w :: W) P = zsett zq0 W (zop w :: P) by show (if zq0 w = true then _ else _) = _; rw [if_pos (show zq0 w = true from decide_eq_true_iff.mpr hw48)]]
          · refine z_aload_n C dX10_settle_62 rfl ?_
            refine z_dup C dX10_settle_63 rfl ?_
            refine z_getI C dX10_settle_64 zf_X10_295 zk_41 (by decide) ?_
            refine z_iconst (v := 1) C dX10_settle_67 (by decide) ?_
            refine z_isub C dX10_settle_68 ?_
            refine z_putI C dX10_settle_69 zf_X10_295 zk_41 (by decide) ?_
            refine z_eqv (iv1 := if w = 40 ∨ w = 48 then zu (zu cur 41 49 (nI W.length)) 41 50 (zu cur 41 49 (nI W.length) 41 50 - 1) else zu cur 41 49 (nI W.length)) (by rw [if_pos (Or.inl (nI_inj4 (b := 40) (by omega) (by decide) q59))]) ?_
            have hM2 := hM.off hw.2
            have hf2 : zfs b (if w = 40 ∨ w = 48 then zu (zu cur 41 49 (nI W.length)) 41 50 (zu cur 41 49 (nI W.length) 41 50 - 1) else zu cur 41 49 (nI W.length)) iv := hf.off
            refine z_aload_n C dX10_settle_72 rfl ?_
            refine z_aload_n C dX10_settle_73 rfl ?_
            refine zs_getR C dX10_settle_74 zf_X10_110 zk_41 (by decide) (zr_41_48 n) ?_
            refine z_aload_n C dX10_settle_77 rfl ?_
            refine z_getI C dX10_settle_78 zf_X10_292 zk_41 (by decide) ?_
            rw [hM2.1]
            refine z_iald C dX10_settle_81 zk_73 (by decide) ?_ ?_
            · exact vp_in_nI (by omega) (by decide)
            refine z_eqi (show _ = nI w by rw [nI_clamp (by omega)]; exact zoff_73 hM) ?_
            refine z_iconst (v := 0) C dX10_settle_82 (by decide) ?_
            refine zs_callVv C dX10_settle_83 zm_X10_298 zyX10_step (m_step n _ _ (b + P.length) hM2.2.2.2.1 (by omega) (nI w) 0) zc_10 rfl zk_41 (by decide) (by decide) rfl rfl (Nat.le_of_ble_eq_true rfl) (by decide) (by decide) ?_
            refine z_goto (tgt := 0) C dX10_settle_86 (by decide) ?_
            refine ih (zop w :: P) _ (hf2.put (by omega)) (hM2.put (zsc_op w hw.1 (by omega)).1.symm (fun z => absurd z (zsc_op w hw.1 (by omega)).2)) (fun x hx => hwo x (by simp [hx])) (by rw [List.length_cons]; omega) ?_
            rw [← hs, show zsett zq0 (w :: W) P = zsett zq0 W (zop w :: P) by show (if zq0 w = true then _ else _) = _; rw [if_pos (show zq0 w = true from decide_eq_true_iff.mpr hw48)]]
theorem m_settle0 (n : Nat) (iv : zI) (lw : zG) (b : Nat) (W0 : List Nat) (P0 : List Int32) (hM : zMp iv b W0 P0) (hwo : zwo W0) (hb : b + P0.length + W0.length < 500 ∧ W0.length ≤ 400) : zMs yX10_settle cX10_settle 2 none 1 [.ref 41, .int 0] n iv lw (fun v iv2 lw2 => v = none ∧ lw2 = lw ∧ zfs b iv2 iv ∧ zMp iv2 b (zsett zq0 W0 P0).1 (zsett zq0 W0 P0).2) := by
  refine zM.of (by decide) (Nat.le_of_ble_eq_true rfl) (fun X C E => ?_)
  exact lm_settle0 n iv lw b W0 P0 C E W0 P0 iv (zfs.rf b iv) hM hwo hb rfl

theorem ztake_s (L : List Nat) (i : Nat) (h : i < L.length) : 48 ∈ L.take (i + 1) ↔ 48 ∈ L.take i ∨ L.getD i 0 = 48 := by
  rw [List.take_add_one, List.mem_append, List.getD_eq_getElem?_getD, List.getElem?_eq_getElem h]
  simp [eq_comm]

set_option maxRecDepth 4000 in
theorem lm_isOpen (n : Nat) (iv : zI) (lw : zG) (b : Nat) (W : List Nat) (P : List Int32) (hM : zMp iv b W P) (hwo : zwo W) (hb : W.length ≤ 400) {X : zX} (C : zC X cX10_isOpen 3 RX10 (some .boolean) "isOpen" 0 0 0) (E : zEnd X (91 + 3 * n) 0 0 (zQ n (zQi (zb (48 ∈ W)) iv lw))) : ∀ (k : Nat) (i : Nat), i + k = W.length → zJs X n 3 4 [some (.ref 41), some (.int (zb (48 ∈ W.reverse.take i))), some (.int (nI i))] [] iv lw := by
  intro k
  induction k with
  | zero =>
    intro i hk
    have hg : W.reverse.getD i 0 < 2 ^ 31 := by
      rw [List.getD_eq_getElem?_getD]
      by_cases hh : i < W.reverse.length
      · rw [List.getElem?_eq_getElem hh]
        have := hwo _ (List.mem_reverse.mp (List.getElem_mem hh))
        show W.reverse[i] < 2 ^ 31
        omega
      · rw [List.getElem?_eq_none (by omega)]
        decide
    refine z_iload_n C dX10_isOpen_4 rfl ?_
    refine z_aload_n C dX10_isOpen_5 rfl ?_
    refine z_getI C dX10_isOpen_6 zf_X10_292 zk_41 (by decide) ?_
    refine zt_icmp_ge (tgt := 39) C dX10_isOpen_9 (nI_toInt (by omega)) (zt_nI hM.1 (by omega)) (by decide) (fun q9 => ?_) (fun q9 => ?_)
    · refine z_iload_n C dX10_isOpen_39 rfl ?_
      refine zs_iret C E dX10_isOpen_40 (zb_nar _) ?_ ?_ ?_
      · rw [show i = W.length by omega, List.take_of_length_le (by rw [List.length_reverse]; exact Nat.le_refl _)]
        exact zb_c List.mem_reverse
      · rfl
      · rfl
    · exfalso; omega
  | succ k ih =>
    intro i hk
    have hg : W.reverse.getD i 0 < 2 ^ 31 := by
      rw [List.getD_eq_getElem?_getD]
      by_cases hh : i < W.reverse.length
      · rw [List.getElem?_eq_getElem hh]
        have := hwo _ (List.mem_reverse.mp (List.getElem_mem hh))
        show W.reverse[i] < 2 ^ 31
        omega
      · rw [List.getElem?_eq_none (by omega)]
        decide
    refine z_iload_n C dX10_isOpen_4 rfl ?_
    refine z_aload_n C dX10_isOpen_5 rfl ?_
    refine z_getI C dX10_isOpen_6 zf_X10_292 zk_41 (by decide) ?_
    refine zt_icmp_ge (tgt := 39) C dX10_isOpen_9 (nI_toInt (by omega)) (zt_nI hM.1 (by omega)) (by decide) (fun q9 => ?_) (fun q9 => ?_)
    · exfalso; omega
    · refine z_iload_n C dX10_isOpen_12 rfl ?_
      refine zb_if_ne (tgt := 27) C dX10_isOpen_13 (by decide) (fun q13 => ?_) (fun q13 => ?_)
      · refine z_iconst (v := 1) C dX10_isOpen_27 (by decide) ?_
        refine z_goto (tgt := 32) C dX10_isOpen_28 (by decide) ?_
        refine z_istore_n (lv' := [some (.ref 41), some (.int _), some (.int _)]) C dX10_isOpen_32 (by decide) rfl ?_
        refine z_iinc (y := 1) (lv' := [some (.ref 41), some (.int _), some (.int _)]) C dX10_isOpen_33 rfl (by decide) (by decide) rfl ?_
        refine z_goto (tgt := 4) C dX10_isOpen_36 (by decide) ?_
        rw [nI_1 i]
        have ht := ztake_s W.reverse i (by rw [List.length_reverse]; omega)
        have e := ih (i + 1) (by omega)
        rw [zb_t (ht.mpr (Or.inl q13))] at e
        exact e
      · refine z_aload_n C dX10_isOpen_16 rfl ?_
        refine zs_getR C dX10_isOpen_17 zf_X10_110 zk_41 (by decide) (zr_41_48 n) ?_
        refine z_iload_n C dX10_isOpen_20 rfl ?_
        refine z_iald C dX10_isOpen_21 zk_73 (by decide) ?_ ?_
        · exact vp_in_nI (by omega) (by decide)
        refine z_eqi (show _ = nI (W.reverse.getD i 0) by rw [nI_clamp (by omega)]; exact hM.2.2.1 i (by omega)) ?_
        refine z_bipush (v := 48) C dX10_isOpen_22 (by decide) ?_
        refine z_icmp_ne (tgt := 31) C dX10_isOpen_24 (by decide) (fun q24 => ?_) (fun q24 => ?_)
        · refine z_iconst (v := 0) C dX10_isOpen_31 (by decide) ?_
          refine z_istore_n (lv' := [some (.ref 41), some (.int _), some (.int _)]) C dX10_isOpen_32 (by decide) rfl ?_
          refine z_iinc (y := 1) (lv' := [some (.ref 41), some (.int _), some (.int _)]) C dX10_isOpen_33 rfl (by decide) (by decide) rfl ?_
          refine z_goto (tgt := 4) C dX10_isOpen_36 (by decide) ?_
          rw [nI_1 i]
          have ht := ztake_s W.reverse i (by rw [List.length_reverse]; omega)
          have e := ih (i + 1) (by omega)
          rw [zb_f (fun z => (ht.mp z).elim q13 (fun z => q24 (by rw [z]; rfl)))] at e
          exact e
        · refine z_iconst (v := 1) C dX10_isOpen_27 (by decide) ?_
          refine z_goto (tgt := 32) C dX10_isOpen_28 (by decide) ?_
          refine z_istore_n (lv' := [some (.ref 41), some (.int _), some (.int _)]) C dX10_isOpen_32 (by decide) rfl ?_
          refine z_iinc (y := 1) (lv' := [some (.ref 41), some (.int _), some (.int _)]) C dX10_isOpen_33 rfl (by decide) (by decide) rfl ?_
          refine z_goto (tgt := 4) C dX10_isOpen_36 (by decide) ?_
          rw [nI_1 i]
          have ht := ztake_s W.reverse i (by rw [List.length_reverse]; omega)
          have e := ih (i + 1) (by omega)
          rw [zb_t (ht.mpr (Or.inr (nI_inj4 (b := 48) hg (by decide) q24)))] at e
          exact e

set_option maxRecDepth 4000 in
theorem m_isOpen (n : Nat) (iv : zI) (lw : zG) (b : Nat) (W : List Nat) (P : List Int32) (hM : zMp iv b W P) (hwo : zwo W) (hb : W.length ≤ 400) : zMi yX10_isOpen cX10_isOpen 3 (some .boolean) 0 [.ref 41] n iv lw (zb (48 ∈ W)) iv lw := by
  refine zM.of (by decide) (Nat.le_of_ble_eq_true rfl) (fun X C E => ?_)
  change zJs X n 3 0 [some (.ref 41), none, none] [] iv lw
  refine z_iconst (v := 0) C dX10_isOpen_0 (by decide) ?_
  refine z_istore_n (lv' := [some (.ref 41), some (.int _), none]) C dX10_isOpen_1 (by decide) rfl ?_
  refine z_iconst (v := 0) C dX10_isOpen_2 (by decide) ?_
  refine z_istore_n (lv' := [some (.ref 41), some (.int _), some (.int _)]) C dX10_isOpen_3 (by decide) rfl ?_
  have e := lm_isOpen n iv lw b W P hM hwo hb (zC_le (by decide) C) E W.length 0 (by omega)
  rw [zb_f (show ¬ 48 ∈ W.reverse.take 0 by simp)] at e
  exact e

set_option maxHeartbeats 1000000 in
set_option maxRecDepth 4000 in
theorem lm_ones (n : Nat) (iv : zI) (lw : zG) (b : Nat) (a : Bool) (W0 : List Nat) (P0 : List Int32) {X : zX} (C : zC X cX10_settleOnes 4 RX10 none "settleOnes" 1 0 0) (E : zEnd X (91 + 3 * n) 0 0 (zQ n (fun v iv2 lw2 => v = none ∧ lw2 = lw ∧ zfs b iv2 iv ∧ zMp iv2 b (zsett (zqo a) W0 P0).1 (zsett (zqo a) W0 P0).2))) : ∀ (W : List Nat) (P : List Int32) (cur : zI), zfs b cur iv → zMp cur b W P → zwo W → (b + P.length + W.length < 500 ∧ W.length ≤ 400) → zsett (zqo a) W P = zsett (zqo a) W0 P0 → zJs X n 4 2 [some (.ref 41), some (.int (if a = true then 1 else 0)), some (.int 1), none] [] cur lw := by
  intro W
  induction W with
  | nil =>
    intro P cur hf hM hwo hb hs
    have hM : zMp cur b (zsett (zqo a) [] P).1 (zsett (zqo a) [] P).2 := hM
    refine z_iload_n C dX10_settleOnes_2 rfl ?_
    refine z_if_eq (tgt := 94) C dX10_settleOnes_3 (by decide) (fun q3 => ?_) (fun q3 => ?_)
    · exact absurd q3 (by decide)
    · refine z_aload_n C dX10_settleOnes_6 rfl ?_
      refine z_getI C dX10_settleOnes_7 zf_X10_292 zk_41 (by decide) ?_
      refine z_if_ne (tgt := 18) C dX10_settleOnes_10 (by decide) (fun q10 => ?_) (fun q10 => ?_)
      · exact absurd (show cur 41 49 = 0 from hM.1) q10
      · refine z_bipush (v := 48) C dX10_settleOnes_13 (by decide) ?_
        refine z_goto (tgt := 29) C dX10_settleOnes_15 (by decide) ?_
        refine z_istore_n (lv' := [some (.ref 41), some (.int _), some (.int _), some (.int _)]) C dX10_settleOnes_29 (by decide) rfl ?_
        refine z_iload_n C dX10_settleOnes_30 rfl ?_
        refine z_bipush (v := 48) C dX10_settleOnes_31 (by decide) ?_
        refine z_icmp_eq (tgt := 50) C dX10_settleOnes_33 (by decide) (fun q33 => ?_) (fun q33 => ?_)
        · refine z_iconst (v := 0) C dX10_settleOnes_50 (by decide) ?_
          refine z_istore_n (lv' := [some (.ref 41), some (.int _), some (.int _), some (.int _)]) C dX10_settleOnes_51 (by decide) rfl ?_
          refine z_iload_n C dX10_settleOnes_52 rfl ?_
          refine z_if_ne (tgt := 59) C dX10_settleOnes_53 (by decide) (fun q53 => ?_) (fun q53 => ?_)
          · exact absurd q53 (by decide)
          · refine z_goto (tgt := 2) C dX10_settleOnes_56 (by decide) ?_
            refine z_iload_n C dX10_settleOnes_2 rfl ?_
            refine z_if_eq (tgt := 94) C dX10_settleOnes_3 (by decide) (fun q3 => ?_) (fun q3 => absurd rfl q3)
            refine zs_qvret C E dX10_settleOnes_94 ?_
            exact ⟨rfl, rfl, hf, by rw [← hs]; exact hM⟩
        · exact absurd rfl q33
  | cons w W ih =>
    intro P cur hf hM hwo hb hs
    have hw := hwo w (by simp)
    rw [List.length_cons] at hb
    have h49 : cur 41 49 = nI (W.length + 1) := hM.1
    refine z_iload_n C dX10_settleOnes_2 rfl ?_
    refine z_if_eq (tgt := 94) C dX10_settleOnes_3 (by decide) (fun q3 => ?_) (fun q3 => ?_)
    · exact absurd q3 (by decide)
    · refine z_aload_n C dX10_settleOnes_6 rfl ?_
      refine z_getI C dX10_settleOnes_7 zf_X10_292 zk_41 (by decide) ?_
      refine z_if_ne (tgt := 18) C dX10_settleOnes_10 (by decide) (fun q10 => ?_) (fun q10 => ?_)
      · refine z_aload_n C dX10_settleOnes_18 rfl ?_
        refine zs_getR C dX10_settleOnes_19 zf_X10_110 zk_41 (by decide) (zr_41_48 n) ?_
        refine z_aload_n C dX10_settleOnes_22 rfl ?_
        refine z_getI C dX10_settleOnes_23 zf_X10_292 zk_41 (by decide) ?_
        rw [h49]
        refine z_iconst (v := 1) C dX10_settleOnes_26 (by decide) ?_
        refine z_isub C dX10_settleOnes_27 ?_
        rw [nI_prd (by omega)]
        refine z_iald C dX10_settleOnes_28 zk_73 (by decide) ?_ ?_
        · exact vp_in_nI (by omega) (by decide)
        refine z_eqi (show _ = nI w by rw [nI_clamp (by omega)]; exact hM.top) ?_
        refine z_istore_n (lv' := [some (.ref 41), some (.int _), some (.int _), some (.int _)]) C dX10_settleOnes_29 (by decide) rfl ?_
        refine z_iload_n C dX10_settleOnes_30 rfl ?_
        refine z_bipush (v := 48) C dX10_settleOnes_31 (by decide) ?_
        refine z_icmp_eq (tgt := 50) C dX10_settleOnes_33 (by decide) (fun q33 => ?_) (fun q33 => ?_)
        · have e48 : w = 48 := nI_inj4 (b := 48) (by omega) (by decide) q33
          refine z_iconst (v := 0) C dX10_settleOnes_50 (by decide) ?_
          refine z_istore_n (lv' := [some (.ref 41), some (.int _), some (.int _), some (.int _)]) C dX10_settleOnes_51 (by decide) rfl ?_
          refine z_iload_n C dX10_settleOnes_52 rfl ?_
          refine z_if_ne (tgt := 59) C dX10_settleOnes_53 (by decide) (fun q53 => ?_) (fun q53 => ?_)
          · exact absurd q53 (by decide)
          · refine z_goto (tgt := 2) C dX10_settleOnes_56 (by decide) ?_
            refine z_iload_n C dX10_settleOnes_2 rfl ?_
            refine z_if_eq (tgt := 94) C dX10_settleOnes_3 (by decide) (fun q3 => ?_) (fun q3 => absurd rfl q3)
            refine zs_qvret C E dX10_settleOnes_94 ?_
            exact ⟨rfl, rfl, hf, by rw [← hs, show zsett (zqo a) (w :: W) P = (w :: W, P) by show (if zqo a w = true then _ else _) = _; rw [if_neg (fun z => (decide_eq_true_iff.mp z).1 e48)]]; exact hM⟩
        · have hw48 : ¬ w = 48 := fun z => q33 (by rw [z]; rfl)
          refine z_iload_n C dX10_settleOnes_36 rfl ?_
          refine z_if_eq (tgt := 46) C dX10_settleOnes_37 (by decide) (fun q37 => ?_) (fun q37 => ?_)
          · have ha : a = false := by cases a; rfl; exact absurd q37 (by decide)
            refine z_iconst (v := 1) C dX10_settleOnes_46 (by decide) ?_
            refine z_goto (tgt := 51) C dX10_settleOnes_47 (by decide) ?_
            refine z_istore_n (lv' := [some (.ref 41), some (.int _), some (.int _), some (.int _)]) C dX10_settleOnes_51 (by decide) rfl ?_
            refine z_iload_n C dX10_settleOnes_52 rfl ?_
            refine z_if_ne (tgt := 59) C dX10_settleOnes_53 (by decide) (fun q53 => ?_) (fun q53 => ?_)
            · refine z_aload_n C dX10_settleOnes_59 rfl ?_
              refine z_dup C dX10_settleOnes_60 rfl ?_
              refine z_getI C dX10_settleOnes_61 zf_X10_292 zk_41 (by decide) ?_
              rw [h49]
              refine z_iconst (v := 1) C dX10_settleOnes_64 (by decide) ?_
              refine z_isub C dX10_settleOnes_65 ?_
              rw [nI_prd (by omega)]
              refine z_putI C dX10_settleOnes_66 zf_X10_292 zk_41 (by decide) ?_
              refine z_iload_n C dX10_settleOnes_69 rfl ?_
              refine z_bipush (v := 40) C dX10_settleOnes_70 (by decide) ?_
              refine z_icmp_ne (tgt := 85) C dX10_settleOnes_72 (by decide) (fun q72 => ?_) (fun q72 => ?_)
              · refine z_eqv (iv1 := if w = 40 ∨ w = 48 then zu (zu cur 41 49 (nI W.length)) 41 50 (zu cur 41 49 (nI W.length) 41 50 - 1) else zu cur 41 49 (nI W.length)) (by rw [if_neg (fun z => z.elim (fun z => q72 (by rw [z]; rfl)) hw48)]) ?_
                have hM2 := hM.off hw.2
                have hf2 : zfs b (if w = 40 ∨ w = 48 then zu (zu cur 41 49 (nI W.length)) 41 50 (zu cur 41 49 (nI W.length) 41 50 - 1) else zu cur 41 49 (nI W.length)) iv := hf.off
                refine z_aload_n C dX10_settleOnes_85 rfl ?_
                refine z_iload_n C dX10_settleOnes_86 rfl ?_
                refine z_iconst (v := 0) C dX10_settleOnes_87 (by decide) ?_
                refine zs_callVv C dX10_settleOnes_88 zm_X10_298 zyX10_step (m_step n _ _ (b + P.length) hM2.2.2.2.1 (by omega) (nI w) 0) zc_10 rfl zk_41 (by decide) (by decide) rfl rfl (Nat.le_of_ble_eq_true rfl) (by decide) (by decide) ?_
                refine z_goto (tgt := 2) C dX10_settleOnes_91 (by decide) ?_
                have e := ih (zop w :: P) _ (hf2.put (nu := 0) (by omega)) (hM2.put (nu := 0) (zsc_op w hw.1 (by omega)).1.symm (fun z => absurd z (zsc_op w hw.1 (by omega)).2)) (fun x hx => hwo x (by simp [hx])) (by rw [List.length_cons]; omega) (by rw [← hs, show zsett (zqo a) (w :: W) P = zsett (zqo a) W (zop w :: P) by show (if zqo a w = true then _ else _) = _; rw [if_pos (show zqo a w = true from decide_eq_true_iff.mpr ⟨hw48, Or.inl ha⟩)]])
                exact z_sub (zdp.sub (by repeat (first | exact True.intro | refine And.intro rfl ?_))) e
              · refine z_aload_n C dX10_settleOnes_75 rfl ?_
                refine z_dup C dX10_settleOnes_76 rfl ?_
                refine z_getI C dX10_settleOnes_77 zf_X10_295 zk_41 (by decide) ?_
                refine z_iconst (v := 1) C dX10_settleOnes_80 (by decide) ?_
                refine z_isub C dX10_settleOnes_81 ?_
                refine z_putI C dX10_settleOnes_82 zf_X10_295 zk_41 (by decide) ?_
                refine z_eqv (iv1 := if w = 40 ∨ w = 48 then zu (zu cur 41 49 (nI W.length)) 41 50 (zu cur 41 49 (nI W.length) 41 50 - 1) else zu cur 41 49 (nI W.length)) (by rw [if_pos (Or.inl (nI_inj4 (b := 40) (by omega) (by decide) q72))]) ?_
                have hM2 := hM.off hw.2
                have hf2 : zfs b (if w = 40 ∨ w = 48 then zu (zu cur 41 49 (nI W.length)) 41 50 (zu cur 41 49 (nI W.length) 41 50 - 1) else zu cur 41 49 (nI W.length)) iv := hf.off
                refine z_aload_n C dX10_settleOnes_85 rfl ?_
                refine z_iload_n C dX10_settleOnes_86 rfl ?_
                refine z_iconst (v := 0) C dX10_settleOnes_87 (by decide) ?_
                refine zs_callVv C dX10_settleOnes_88 zm_X10_298 zyX10_step (m_step n _ _ (b + P.length) hM2.2.2.2.1 (by omega) (nI w) 0) zc_10 rfl zk_41 (by decide) (by decide) rfl rfl (Nat.le_of_ble_eq_true rfl) (by decide) (by decide) ?_
                refine z_goto (tgt := 2) C dX10_settleOnes_91 (by decide) ?_
                have e := ih (zop w :: P) _ (hf2.put (nu := 0) (by omega)) (hM2.put (nu := 0) (zsc_op w hw.1 (by omega)).1.symm (fun z => absurd z (zsc_op w hw.1 (by omega)).2)) (fun x hx => hwo x (by simp [hx])) (by rw [List.length_cons]; omega) (by rw [← hs, show zsett (zqo a) (w :: W) P = zsett (zqo a) W (zop w :: P) by show (if zqo a w = true then _ else _) = _; rw [if_pos (show zqo a w = true from decide_eq_true_iff.mpr ⟨hw48, Or.inl ha⟩)]])
                exact z_sub (zdp.sub (by repeat (first | exact True.intro | refine And.intro rfl ?_))) e
            · exact absurd q53 (by decide)
          · have ha : a = true := by cases a; exact absurd rfl q37; rfl
            refine z_iload_n C dX10_settleOnes_40 rfl ?_
            refine z_bipush (v := 41) C dX10_settleOnes_41 (by decide) ?_
            refine z_icmp_eq (tgt := 50) C dX10_settleOnes_43 (by decide) (fun q43 => ?_) (fun q43 => ?_)
            · have e41 : w = 41 := nI_inj4 (b := 41) (by omega) (by decide) q43
              refine z_iconst (v := 0) C dX10_settleOnes_50 (by decide) ?_
              refine z_istore_n (lv' := [some (.ref 41), some (.int _), some (.int _), some (.int _)]) C dX10_settleOnes_51 (by decide) rfl ?_
              refine z_iload_n C dX10_settleOnes_52 rfl ?_
              refine z_if_ne (tgt := 59) C dX10_settleOnes_53 (by decide) (fun q53 => ?_) (fun q53 => ?_)
              · exact absurd q53 (by decide)
              · refine z_goto (tgt := 2) C dX10_settleOnes_56 (by decide) ?_
                refine z_iload_n C dX10_settleOnes_2 rfl ?_
                refine z_if_eq (tgt := 94) C dX10_settleOnes_3 (by decide) (fun q3 => ?_) (fun q3 => absurd rfl q3)
                refine zs_qvret C E dX10_settleOnes_94 ?_
                exact ⟨rfl, rfl, hf, by rw [← hs, show zsett (zqo a) (w :: W) P = (w :: W, P) by show (if zqo a w = true then _ else _) = _; rw [if_neg (fun z => (decide_eq_true_iff.mp z).2.elim (fun z => absurd (ha.symm.trans z) (by decide)) (fun z => z e41))]]; exact hM⟩
            · have hw41 : ¬ w = 41 := fun z => q43 (by rw [z]; rfl)
              refine z_iconst (v := 1) C dX10_settleOnes_46 (by decide) ?_
              refine z_goto (tgt := 51) C dX10_settleOnes_47 (by decide) ?_
              refine z_istore_n (lv' := [some (.ref 41), some (.int _), some (.int _), some (.int _)]) C dX10_settleOnes_51 (by decide) rfl ?_
              refine z_iload_n C dX10_settleOnes_52 rfl ?_
              refine z_if_ne (tgt := 59) C dX10_settleOnes_53 (by decide) (fun q53 => ?_) (fun q53 => ?_)
              · refine z_aload_n C dX10_settleOnes_59 rfl ?_
                refine z_dup C dX10_settleOnes_60 rfl ?_
                refine z_getI C dX10_settleOnes_61 zf_X10_292 zk_41 (by decide) ?_
                rw [h49]
                refine z_iconst (v := 1) C dX10_settleOnes_64 (by decide) ?_
                refine z_isub C dX10_settleOnes_65 ?_
                rw [nI_prd (by omega)]
                refine z_putI C dX10_settleOnes_66 zf_X10_292 zk_41 (by decide) ?_
                refine z_iload_n C dX10_settleOnes_69 rfl ?_
                refine z_bipush (v := 40) C dX10_settleOnes_70 (by decide) ?_
                refine z_icmp_ne (tgt := 85) C dX10_settleOnes_72 (by decide) (fun q72 => ?_) (fun q72 => ?_)
                · refine z_eqv (iv1 := if w = 40 ∨ w = 48 then zu (zu cur 41 49 (nI W.length)) 41 50 (zu cur 41 49 (nI W.length) 41 50 - 1) else zu cur 41 49 (nI W.length)) (by rw [if_neg (fun z => z.elim (fun z => q72 (by rw [z]; rfl)) hw48)]) ?_
                  have hM2 := hM.off hw.2
                  have hf2 : zfs b (if w = 40 ∨ w = 48 then zu (zu cur 41 49 (nI W.length)) 41 50 (zu cur 41 49 (nI W.length) 41 50 - 1) else zu cur 41 49 (nI W.length)) iv := hf.off
                  refine z_aload_n C dX10_settleOnes_85 rfl ?_
                  refine z_iload_n C dX10_settleOnes_86 rfl ?_
                  refine z_iconst (v := 0) C dX10_settleOnes_87 (by decide) ?_
                  refine zs_callVv C dX10_settleOnes_88 zm_X10_298 zyX10_step (m_step n _ _ (b + P.length) hM2.2.2.2.1 (by omega) (nI w) 0) zc_10 rfl zk_41 (by decide) (by decide) rfl rfl (Nat.le_of_ble_eq_true rfl) (by decide) (by decide) ?_
                  refine z_goto (tgt := 2) C dX10_settleOnes_91 (by decide) ?_
                  have e := ih (zop w :: P) _ (hf2.put (nu := 0) (by omega)) (hM2.put (nu := 0) (zsc_op w hw.1 (by omega)).1.symm (fun z => absurd z (zsc_op w hw.1 (by omega)).2)) (fun x hx => hwo x (by simp [hx])) (by rw [List.length_cons]; omega) (by rw [← hs, show zsett (zqo a) (w :: W) P = zsett (zqo a) W (zop w :: P) by show (if zqo a w = true then _ else _) = _; rw [if_pos (show zqo a w = true from decide_eq_true_iff.mpr ⟨hw48, Or.inr hw41⟩)]])
                  exact z_sub (zdp.sub (by repeat (first | exact True.intro | refine And.intro rfl ?_))) e
                · refine z_aload_n C dX10_settleOnes_75 rfl ?_
                  refine z_dup C dX10_settleOnes_76 rfl ?_
                  refine z_getI C dX10_settleOnes_77 zf_X10_295 zk_41 (by decide) ?_
                  refine z_iconst (v := 1) C dX10_settleOnes_80 (by decide) ?_
                  refine z_isub C dX10_settleOnes_81 ?_
                  refine z_putI C dX10_settleOnes_82 zf_X10_295 zk_41 (by decide) ?_
                  refine z_eqv (iv1 := if w = 40 ∨ w = 48 then zu (zu cur 41 49 (nI W.length)) 41 50 (zu cur 41 49 (nI W.length) 41 50 - 1) else zu cur 41 49 (nI W.length)) (by rw [if_pos (Or.inl (nI_inj4 (b := 40) (by omega) (by decide) q72))]) ?_
                  have hM2 := hM.off hw.2
                  have hf2 : zfs b (if w = 40 ∨ w = 48 then zu (zu cur 41 49 (nI W.length)) 41 50 (zu cur 41 49 (nI W.length) 41 50 - 1) else zu cur 41 49 (nI W.length)) iv := hf.off
                  refine z_aload_n C dX10_settleOnes_85 rfl ?_
                  refine z_iload_n C dX10_settleOnes_86 rfl ?_
                  refine z_iconst (v := 0) C dX10_settleOnes_87 (by decide) ?_
                  refine zs_callVv C dX10_settleOnes_88 zm_X10_298 zyX10_step (m_step n _ _ (b + P.length) hM2.2.2.2.1 (by omega) (nI w) 0) zc_10 rfl zk_41 (by decide) (by decide) rfl rfl (Nat.le_of_ble_eq_true rfl) (by decide) (by decide) ?_
                  refine z_goto (tgt := 2) C dX10_settleOnes_91 (by decide) ?_
                  have e := ih (zop w :: P) _ (hf2.put (nu := 0) (by omega)) (hM2.put (nu := 0) (zsc_op w hw.1 (by omega)).1.symm (fun z => absurd z (zsc_op w hw.1 (by omega)).2)) (fun x hx => hwo x (by simp [hx])) (by rw [List.length_cons]; omega) (by rw [← hs, show zsett (zqo a) (w :: W) P = zsett (zqo a) W (zop w :: P) by show (if zqo a w = true then _ else _) = _; rw [if_pos (show zqo a w = true from decide_eq_true_iff.mpr ⟨hw48, Or.inr hw41⟩)]])
                  exact z_sub (zdp.sub (by repeat (first | exact True.intro | refine And.intro rfl ?_))) e
              · exact absurd q53 (by decide)
      · exact absurd (congrArg Int32.toInt (h49.symm.trans q10)) (by rw [nI_toInt (by omega)]; show ¬ ((W.length + 1 : Nat) : Int) = 0; omega)
set_option maxRecDepth 4000 in
theorem m_ones (n : Nat) (iv : zI) (lw : zG) (b : Nat) (a : Bool) (W0 : List Nat) (P0 : List Int32) (hM : zMp iv b W0 P0) (hwo : zwo W0) (hb : b + P0.length + W0.length < 500 ∧ W0.length ≤ 400) : zMs yX10_settleOnes cX10_settleOnes 4 none 1 [.ref 41, .int (if a = true then 1 else 0)] n iv lw (fun v iv2 lw2 => v = none ∧ lw2 = lw ∧ zfs b iv2 iv ∧ zMp iv2 b (zsett (zqo a) W0 P0).1 (zsett (zqo a) W0 P0).2) := by
  refine zM.of (by decide) (Nat.le_of_ble_eq_true rfl) (fun X C E => ?_)
  change zJs X n 4 0 [some (.ref 41), some (.int (if a = true then 1 else 0)), none, none] [] iv lw
  refine z_iconst (v := 1) C dX10_settleOnes_0 (by decide) ?_
  refine z_istore_n (lv' := [some (.ref 41), some (.int (if a = true then 1 else 0)), some (.int 1), none]) C dX10_settleOnes_1 (by decide) rfl ?_
  exact lm_ones n iv lw b a W0 P0 C E W0 P0 iv (zfs.rf b iv) hM hwo hb rfl
