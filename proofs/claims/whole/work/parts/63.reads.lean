theorem zopk {k : Int32} : (k = 43 ∨ k = 45 → zop (if k = 43 then 46 else 47) = k) ∧ (k = 61 ∨ k = 60 ∨ k = 62 → zop (if k = 61 then 43 else if k = 60 then 44 else 45) = k) := by
  refine ⟨fun h => ?_, fun h => ?_⟩
  · rcases h with h | h <;> subst h <;> decide
  · rcases h with h | h | h <;> subst h <;> decide
theorem zq46_48 {w : Nat} (h : zq46 w = true) : w ≠ 48 := (decide_eq_true_iff.mp h).1
theorem zcm_b {k : Int32} : 43 ≤ (if k = 61 then 43 else if k = 60 then 44 else 45) ∧ (if k = 61 then 43 else if k = 60 then 44 else 45) ≤ 45 := by
  by_cases h1 : k = 61
  · rw [if_pos h1]; omega
  · rw [if_neg h1]
    by_cases h2 : k = 60
    · rw [if_pos h2]; omega
    · rw [if_neg h2]; omega
theorem z_n0 {iv : zI} {b l : Nat} (h : iv 18 3 = nI (b + l)) (hb : b + l ≤ 400) : 0 ≤ (iv 18 3).toInt := by rw [h, nI_toInt (by omega)]; omega

set_option maxHeartbeats 1000000 in
set_option maxRecDepth 4000 in
theorem ls_sum7 (n : Nat) (lw : zG) (B : Nat → Int32) (s tk : Nat) (iv0 : zI) (b d L : Nat) (cf : zCf) (i0 : Nat) (W : List Nat) (f : zFa) (cur : zI) (hPt : zPt iv0 cur f.1 (nI ((zpl (zT B s) s) f.2))) (hFl : zFl2 (zkn (zT B s) s) cf f) (c : Int32) {X : zX} (C : zC X cX5_readSum 4 RX5 none "readSum" L 0 0) (E : zEnd X (91 + 3 * n) 0 0 (zQ n (zQrd iv0 b (zkn (zT B s) s) tk (zpl (zT B s) s) lw i0 (fun i2 v2 P2 => ∃ t P3, zR (zkn (zT B s) s) cf (2, i2, t ++ W, P3, v2) ∧ P2 = zflu t P3 ∧ (∀ w, w ∈ t → zq46 w = true) ∧ ¬ ((zkn (zT B s) s) i2 = 43 ∨ (zkn (zT B s) s) i2 = 45)) (zFl2 (zkn (zT B s) s) cf)))) : zJs X n 4 7 [some (.ref 14), some (.int (nI d)), some (.int c), none] [] cur lw := by
  refine z_iload_n C dX5_readSum_7 rfl ?_
  refine z_sipush (v := 800) C dX5_readSum_8 (by decide) ?_
  refine zt_icmp_ge (tgt := 60) C dX5_readSum_11 rfl (show (800 : Int32).toInt = 800 by decide) (by decide) (fun q11 => ?_) (fun q11 => ?_)
  · refine zs_qvret C E dX5_readSum_60 ?_
    exact ⟨rfl, rfl, Or.inr ⟨f, hPt, hFl⟩⟩
  · refine z_aload_n C dX5_readSum_14 rfl ?_
    refine z_getI C dX5_readSum_15 zf_X5_51 zk_14 (by decide) ?_
    refine z_bipush (v := 43) C dX5_readSum_18 (by decide) ?_
    refine z_icmp_eq (tgt := 32) C dX5_readSum_20 (by decide) (fun q20 => ?_) (fun q20 => ?_)
    · rw [hPt.2.1] at q20
      exact absurd q20 (by decide)
    · rw [hPt.2.1] at q20
      refine z_aload_n C dX5_readSum_23 rfl ?_
      refine z_getI C dX5_readSum_24 zf_X5_51 zk_14 (by decide) ?_
      refine z_bipush (v := 45) C dX5_readSum_27 (by decide) ?_
      refine z_icmp_ne (tgt := 60) C dX5_readSum_29 (by decide) (fun q29 => ?_) (fun q29 => ?_)
      · rw [hPt.2.1] at q29
        refine zs_qvret C E dX5_readSum_60 ?_
        exact ⟨rfl, rfl, Or.inr ⟨f, hPt, hFl⟩⟩
      · rw [hPt.2.1] at q29
        exact absurd q29 (by decide)

set_option maxHeartbeats 2000000 in
set_option maxRecDepth 4000 in
theorem lp_sum (n : Nat) (lw : zG) (B : Nat → Int32) (s tk : Nat) (iv0 : zI) (hE : zEv B s tk iv0) (b v0 n0 : Nat) (d L LC : Nat) (hC : zCT n lw B s tk iv0 b v0 n0 LC d) (hL : LC + 1 ≤ L) (hL4 : 4 ≤ L) (cf : zCf) (i0 : Nat) (hcf : cf.1 ≤ 2) (hI0 : zInv (zkn (zT B s) s) b v0 n0 cf) (W : List Nat) (hd : zdeep W = d) (hW : ztp zq46 W) {X : zX} (C : zC X cX5_readSum 4 RX5 none "readSum" L 0 0) (E : zEnd X (91 + 3 * n) 0 0 (zQ n (zQrd iv0 b (zkn (zT B s) s) tk (zpl (zT B s) s) lw i0 (fun i2 v2 P2 => ∃ t P3, zR (zkn (zT B s) s) cf (2, i2, t ++ W, P3, v2) ∧ P2 = zflu t P3 ∧ (∀ w, w ∈ t → zq46 w = true) ∧ ¬ ((zkn (zT B s) s) i2 = 43 ∨ (zkn (zT B s) s) i2 = 45)) (zFl2 (zkn (zT B s) s) cf)))) : ∀ (N c : Nat) (cur : zI) (i v : Nat) (t : List Nat) (P3 : List Int32), tk ≤ N + i → zPo iv0 b (zkn (zT B s) s) tk cur i v (zflu t P3) → zR (zkn (zT B s) s) cf (2, i, t ++ W, P3, v) → (∀ w, w ∈ t → zq46 w = true) → i0 < i → c + 1 ≤ i → zJs X n 4 7 [some (.ref 14), some (.int (nI d)), some (.int (nI c)), none] [] cur lw := by
  intro N
  induction N with
  | zero =>
    intro c cur i v t P3 hN hP
    have := hP.2.2.1
    exfalso; omega
  | succ N ih =>
    intro c cur i v t P3 hN hP hR ht hi0 hci
    have htk := hE.1.1.2
    have hit := hP.2.2.1
    refine z_iload_n C dX5_readSum_7 rfl ?_
    refine z_sipush (v := 800) C dX5_readSum_8 (by decide) ?_
    refine zt_icmp_ge (tgt := 60) C dX5_readSum_11 (nI_toInt (by omega)) (show (800 : Int32).toInt = 800 by decide) (by decide) (fun q11 => ?_) (fun q11 => ?_)
    · exfalso; omega
    · refine z_aload_n C dX5_readSum_14 rfl ?_
      refine z_getI C dX5_readSum_15 zf_X5_51 zk_14 (by decide) ?_
      refine z_bipush (v := 43) C dX5_readSum_18 (by decide) ?_
      refine z_icmp_eq (tgt := 32) C dX5_readSum_20 (by decide) (fun q20 => ?_) (fun q20 => ?_)
      · rw [hP.2.2.2.2.1] at q20
        have hk : (zkn (zT B s) s) i = 43 ∨ (zkn (zT B s) s) i = 45 := Or.inl q20
        have hnx := hE.nx hP.2.2.1 (by rcases hk with z | z <;> rw [z] <;> decide) (by rcases hk with z | z <;> rw [z] <;> decide)
        have hR1 := hR.tr (zm_sum hk ht hW)
        have hzo := zopk.1 hk
        obtain ⟨op, hop, hop2⟩ : ∃ op, op = (if (zkn (zT B s) s) i = 43 then 46 else 47) ∧ 46 ≤ op ∧ op ≤ 47 := ⟨_, rfl, by split <;> omega⟩
        rw [← hop] at hR1 hzo
        refine z_aload_n C dX5_readSum_32 rfl ?_
        refine z_getI C dX5_readSum_33 zf_X5_51 zk_14 (by decide) ?_
        refine z_eqi hP.2.2.2.2.1 ?_
        refine z_istore_n (lv' := [some (.ref 14), some (.int _), some (.int _), some (.int _)]) C dX5_readSum_36 (by decide) rfl ?_
        refine z_aload_n C dX5_readSum_37 rfl ?_
        refine zs_callVv C dX5_readSum_38 zm_X5_60 zyX5_advance (r_advance n cur _ B s tk (hP.1.tk hE.1) i hP.2.2.2.1 hnx) zc_5 rfl zk_14 (by decide) (by omega) rfl rfl (Nat.le_of_ble_eq_true rfl) (by decide) (by decide) ?_
        have hP2 := hP.adv hnx
        have hI2 := hI0.R hcf hR1
        refine z_aload_n C dX5_readSum_41 rfl ?_
        refine z_iload_n C dX5_readSum_42 rfl ?_
        refine zs_callVq C dX5_readSum_43 zm_X5_86 zyX5_readTerm (hC _ (i + 1) v (zflu t P3) (op :: W) 1 hP2 (by rw [zdeep, if_neg (by omega), hd]; omega) (Or.inl rfl) hI2) zc_5 rfl zk_14 (by decide) (by omega) rfl rfl (Nat.le_of_ble_eq_true rfl) (by decide) (by decide) (fun v43 iv43 lw43 hq43 => ?_)
        obtain ⟨rfl, rfl, hx43⟩ := hq43
        rcases hx43 with ⟨i3, v3, P4, hP3, hlt, hR3⟩ | ⟨f, hPt, hFl⟩
        · have hlen := hE.bs (t := [op]) hP3.2.2.1 (hI2.R (show 1 ≤ 2 by decide) hR3) (fun w hw => by simp at hw; omega)
          rw [zflu_len] at hlen
          have hlen1 : ([op] : List Nat).length = 1 := rfl
          refine z_aload_n C dX5_readSum_46 rfl ?_
          refine zs_getR C dX5_readSum_47 zf_X5_23 zk_14 (by decide) (zr_14_1 n) ?_
          refine z_iload_n C dX5_readSum_50 rfl ?_
          refine zs_callVv C dX5_readSum_51 zm_X5_77 zyX1_add (c_addD n _ _ ((zkn (zT B s) s) i) (z_n0 hP3.2.2.2.2.2.2.2.2.1 (by omega))) zc_1 rfl zk_18 (by decide) (by omega) rfl rfl (Nat.le_of_ble_eq_true rfl) (by decide) (by decide) ?_
          have hP5 := hP3.add (by omega) ((zkn (zT B s) s) i)
          refine z_iinc (y := 1) (lv' := [some (.ref 14), some (.int _), some (.int _), some (.int _)]) C dX5_readSum_54 rfl (by decide) (by decide) rfl ?_
          refine z_goto (tgt := 7) C dX5_readSum_57 (by decide) ?_
          rw [nI_1 c]
          have ez : (zkn (zT B s) s) i :: P4 = zflu [op] P4 := by
            show _ = zop op :: P4
            rw [hzo]
          rw [ez] at hP5
          have e := ih (c + 1) _ i3 v3 [op] P4 (by omega) hP5 (hR1.tr hR3) (fun w hw => by simp at hw; subst hw; exact decide_eq_true_iff.mpr ⟨by omega, by omega⟩) (by omega) (by omega)
          exact z_sub (zdp.sub (by repeat (first | exact True.intro | refine And.intro rfl ?_))) e
        · refine z_aload_n C dX5_readSum_46 rfl ?_
          refine zs_getR C dX5_readSum_47 zf_X5_23 zk_14 (by decide) (zr_14_1 n) ?_
          refine z_iload_n C dX5_readSum_50 rfl ?_
          refine zs_callVv C dX5_readSum_51 zm_X5_77 zyX1_add (c_addD n _ _ ((zkn (zT B s) s) i) hPt.2.2.2.2.2) zc_1 rfl zk_18 (by decide) (by omega) rfl rfl (Nat.le_of_ble_eq_true rfl) (by decide) (by decide) ?_
          refine z_iinc (y := 1) (lv' := [some (.ref 14), some (.int _), some (.int _), some (.int _)]) C dX5_readSum_54 rfl (by decide) (by decide) rfl ?_
          refine z_goto (tgt := 7) C dX5_readSum_57 (by decide) ?_
          exact z_sub (zdp.sub (by repeat (first | exact True.intro | refine And.intro rfl ?_))) (ls_sum7 n _ B s tk iv0 b d L cf i0 W f _ (hPt.add _) (hR1.fl hFl) _ C E)
      · rw [hP.2.2.2.2.1] at q20
        refine z_aload_n C dX5_readSum_23 rfl ?_
        refine z_getI C dX5_readSum_24 zf_X5_51 zk_14 (by decide) ?_
        refine z_bipush (v := 45) C dX5_readSum_27 (by decide) ?_
        refine z_icmp_ne (tgt := 60) C dX5_readSum_29 (by decide) (fun q29 => ?_) (fun q29 => ?_)
        · rw [hP.2.2.2.2.1] at q29
          refine zs_qvret C E dX5_readSum_60 ?_
          exact ⟨rfl, rfl, Or.inl ⟨i, v, zflu t P3, hP, by omega, t, P3, hR, rfl, ht, fun z => z.elim q20 q29⟩⟩
        · rw [hP.2.2.2.2.1] at q29
          have hk : (zkn (zT B s) s) i = 43 ∨ (zkn (zT B s) s) i = 45 := Or.inr q29
          have hnx := hE.nx hP.2.2.1 (by rcases hk with z | z <;> rw [z] <;> decide) (by rcases hk with z | z <;> rw [z] <;> decide)
          have hR1 := hR.tr (zm_sum hk ht hW)
          have hzo := zopk.1 hk
          obtain ⟨op, hop, hop2⟩ : ∃ op, op = (if (zkn (zT B s) s) i = 43 then 46 else 47) ∧ 46 ≤ op ∧ op ≤ 47 := ⟨_, rfl, by split <;> omega⟩
          rw [← hop] at hR1 hzo
          refine z_aload_n C dX5_readSum_32 rfl ?_
          refine z_getI C dX5_readSum_33 zf_X5_51 zk_14 (by decide) ?_
          refine z_eqi hP.2.2.2.2.1 ?_
          refine z_istore_n (lv' := [some (.ref 14), some (.int _), some (.int _), some (.int _)]) C dX5_readSum_36 (by decide) rfl ?_
          refine z_aload_n C dX5_readSum_37 rfl ?_
          refine zs_callVv C dX5_readSum_38 zm_X5_60 zyX5_advance (r_advance n cur _ B s tk (hP.1.tk hE.1) i hP.2.2.2.1 hnx) zc_5 rfl zk_14 (by decide) (by omega) rfl rfl (Nat.le_of_ble_eq_true rfl) (by decide) (by decide) ?_
          have hP2 := hP.adv hnx
          have hI2 := hI0.R hcf hR1
          refine z_aload_n C dX5_readSum_41 rfl ?_
          refine z_iload_n C dX5_readSum_42 rfl ?_
          refine zs_callVq C dX5_readSum_43 zm_X5_86 zyX5_readTerm (hC _ (i + 1) v (zflu t P3) (op :: W) 1 hP2 (by rw [zdeep, if_neg (by omega), hd]; omega) (Or.inl rfl) hI2) zc_5 rfl zk_14 (by decide) (by omega) rfl rfl (Nat.le_of_ble_eq_true rfl) (by decide) (by decide) (fun v43 iv43 lw43 hq43 => ?_)
          obtain ⟨rfl, rfl, hx43⟩ := hq43
          rcases hx43 with ⟨i3, v3, P4, hP3, hlt, hR3⟩ | ⟨f, hPt, hFl⟩
          · have hlen := hE.bs (t := [op]) hP3.2.2.1 (hI2.R (show 1 ≤ 2 by decide) hR3) (fun w hw => by simp at hw; omega)
            rw [zflu_len] at hlen
            have hlen1 : ([op] : List Nat).length = 1 := rfl
            refine z_aload_n C dX5_readSum_46 rfl ?_
            refine zs_getR C dX5_readSum_47 zf_X5_23 zk_14 (by decide) (zr_14_1 n) ?_
            refine z_iload_n C dX5_readSum_50 rfl ?_
            refine zs_callVv C dX5_readSum_51 zm_X5_77 zyX1_add (c_addD n _ _ ((zkn (zT B s) s) i) (z_n0 hP3.2.2.2.2.2.2.2.2.1 (by omega))) zc_1 rfl zk_18 (by decide) (by omega) rfl rfl (Nat.le_of_ble_eq_true rfl) (by decide) (by decide) ?_
            have hP5 := hP3.add (by omega) ((zkn (zT B s) s) i)
            refine z_iinc (y := 1) (lv' := [some (.ref 14), some (.int _), some (.int _), some (.int _)]) C dX5_readSum_54 rfl (by decide) (by decide) rfl ?_
            refine z_goto (tgt := 7) C dX5_readSum_57 (by decide) ?_
            rw [nI_1 c]
            have ez : (zkn (zT B s) s) i :: P4 = zflu [op] P4 := by
              show _ = zop op :: P4
              rw [hzo]
            rw [ez] at hP5
            have e := ih (c + 1) _ i3 v3 [op] P4 (by omega) hP5 (hR1.tr hR3) (fun w hw => by simp at hw; subst hw; exact decide_eq_true_iff.mpr ⟨by omega, by omega⟩) (by omega) (by omega)
            exact z_sub (zdp.sub (by repeat (first | exact True.intro | refine And.intro rfl ?_))) e
          · refine z_aload_n C dX5_readSum_46 rfl ?_
            refine zs_getR C dX5_readSum_47 zf_X5_23 zk_14 (by decide) (zr_14_1 n) ?_
            refine z_iload_n C dX5_readSum_50 rfl ?_
            refine zs_callVv C dX5_readSum_51 zm_X5_77 zyX1_add (c_addD n _ _ ((zkn (zT B s) s) i) hPt.2.2.2.2.2) zc_1 rfl zk_18 (by decide) (by omega) rfl rfl (Nat.le_of_ble_eq_true rfl) (by decide) (by decide) ?_
            refine z_iinc (y := 1) (lv' := [some (.ref 14), some (.int _), some (.int _), some (.int _)]) C dX5_readSum_54 rfl (by decide) (by decide) rfl ?_
            refine z_goto (tgt := 7) C dX5_readSum_57 (by decide) ?_
            exact z_sub (zdp.sub (by repeat (first | exact True.intro | refine And.intro rfl ?_))) (ls_sum7 n _ B s tk iv0 b d L cf i0 W f _ (hPt.add _) (hR1.fl hFl) _ C E)

set_option maxHeartbeats 2000000 in
set_option maxRecDepth 4000 in
theorem t_sum (n : Nat) (lw : zG) (B : Nat → Int32) (s tk : Nat) (iv0 : zI) (hE : zEv B s tk iv0) (b v0 n0 : Nat) (d L LC : Nat) (hC : zCT n lw B s tk iv0 b v0 n0 LC d) (hL : LC + 1 ≤ L) (hL4 : 4 ≤ L) : zCS n lw B s tk iv0 b v0 n0 L d := by
  intro iv i v P W now hP hd hnow hW hI
  refine zM.of (by decide) (Nat.le_of_ble_eq_true rfl) (fun X C E => ?_)
  change zJs X n 4 0 [some (.ref 14), some (.int (nI d)), none, none] [] iv lw
  have hn3 : now ≤ 2 := by rcases hnow with z | z <;> omega
  refine z_aload_n C dX5_readSum_0 rfl ?_
  refine z_iload_n C dX5_readSum_1 rfl ?_
  refine zs_callVq C dX5_readSum_2 zm_X5_86 zyX5_readTerm (hC iv i v P W now hP hd hnow hI) zc_5 rfl zk_14 (by decide) (by omega) rfl rfl (Nat.le_of_ble_eq_true rfl) (by decide) (by decide) (fun v2 iv2 lw2 hq2 => ?_)
  obtain ⟨rfl, rfl, hx2⟩ := hq2
  rcases hx2 with ⟨i2, v2, P2, hP2, hlt, hR⟩ | ⟨f, hPt, hFl⟩
  · refine z_iconst (v := 0) C dX5_readSum_5 (by decide) ?_
    refine z_istore_n (lv' := [some (.ref 14), some (.int _), some (.int _), none]) C dX5_readSum_6 (by decide) rfl ?_
    exact lp_sum n _ B s tk iv0 hE b v0 n0 d L LC hC hL hL4 (now, i, W, P, v) i hn3 hI W hd hW C E (tk - i2) 0 _ i2 v2 [] P2 (by have := hP2.2.2.1; omega) hP2 hR (fun w hw => absurd hw (by simp)) hlt (by omega)
  · refine z_iconst (v := 0) C dX5_readSum_5 (by decide) ?_
    refine z_istore_n (lv' := [some (.ref 14), some (.int _), some (.int _), none]) C dX5_readSum_6 (by decide) rfl ?_
    exact ls_sum7 n _ B s tk iv0 b d L (now, i, W, P, v) i W f _ hPt hFl _ C E

set_option maxHeartbeats 1000000 in
set_option maxRecDepth 4000 in
theorem ls_both7 (n : Nat) (lw : zG) (B : Nat → Int32) (s tk : Nat) (iv0 : zI) (b d L : Nat) (cf : zCf) (i0 : Nat) (W : List Nat) (f : zFa) (cur : zI) (hPt : zPt iv0 cur f.1 (nI ((zpl (zT B s) s) f.2))) (hFl : zFl2 (zkn (zT B s) s) cf f) (c : Int32) {X : zX} (C : zC X cX5_readBoth 3 RX5 none "readBoth" L 0 0) (E : zEnd X (91 + 3 * n) 0 0 (zQ n (zQrd iv0 b (zkn (zT B s) s) tk (zpl (zT B s) s) lw i0 (fun i2 v2 P2 => ∃ t P3, zR (zkn (zT B s) s) cf (2, i2, t ++ W, P3, v2) ∧ P2 = zflu t P3 ∧ (∀ w, w ∈ t → zqo true w = true) ∧ zfol1 (zkn (zT B s) s) i2 t ∧ ¬ (zkn (zT B s) s) i2 = 206) (zFl2 (zkn (zT B s) s) cf)))) : zJs X n 3 7 [some (.ref 14), some (.int (nI d)), some (.int c)] [] cur lw := by
  refine z_iload_n C dX5_readBoth_7 rfl ?_
  refine z_sipush (v := 800) C dX5_readBoth_8 (by decide) ?_
  refine zt_icmp_ge (tgt := 49) C dX5_readBoth_11 rfl (show (800 : Int32).toInt = 800 by decide) (by decide) (fun q11 => ?_) (fun q11 => ?_)
  · refine zs_qvret C E dX5_readBoth_49 ?_
    exact ⟨rfl, rfl, Or.inr ⟨f, hPt, hFl⟩⟩
  · refine z_aload_n C dX5_readBoth_14 rfl ?_
    refine z_getI C dX5_readBoth_15 zf_X5_51 zk_14 (by decide) ?_
    refine z_sipush (v := 206) C dX5_readBoth_18 (by decide) ?_
    refine z_icmp_ne (tgt := 49) C dX5_readBoth_21 (by decide) (fun q21 => ?_) (fun q21 => ?_)
    · rw [hPt.2.1] at q21
      refine zs_qvret C E dX5_readBoth_49 ?_
      exact ⟨rfl, rfl, Or.inr ⟨f, hPt, hFl⟩⟩
    · rw [hPt.2.1] at q21
      exact absurd q21 (by decide)

theorem ztp_t46 {W : List Nat} (h : ztp (zqo true) W) : ztp zq46 W ∧ zcmT W = false := by
  match W, h with
  | [], _ => exact ⟨fun w hw => absurd hw (by simp), rfl⟩
  | w :: W, h =>
    have := h w rfl
    unfold zqo at this
    rw [decide_eq_false_iff_not] at this
    have hw : w = 48 ∨ w = 41 := by
      by_cases c : w = 48
      · exact Or.inl c
      · by_cases c2 : w = 41
        · exact Or.inr c2
        · exact absurd ⟨c, Or.inr c2⟩ this
    refine ⟨fun x hx => ?_, ?_⟩
    · have hx : some w = some x := hx
      have := Option.some.inj hx
      subst this
      rcases hw with z | z <;> subst z <;> decide
    · exact decide_eq_false_iff_not.mpr (by omega)

set_option maxHeartbeats 2000000 in
set_option maxRecDepth 4000 in
theorem lp_both (n : Nat) (lw : zG) (B : Nat → Int32) (s tk : Nat) (iv0 : zI) (hE : zEv B s tk iv0) (b v0 n0 : Nat) (d L LC : Nat) (hC : zCO n lw B s tk iv0 b v0 n0 LC d) (hL : LC + 1 ≤ L) (hL4 : 4 ≤ L) (cf : zCf) (i0 : Nat) (hcf : cf.1 ≤ 2) (hI0 : zInv (zkn (zT B s) s) b v0 n0 cf) (W : List Nat) (hd : zdeep W = d) (hW : ztp (zqo true) W) {X : zX} (C : zC X cX5_readBoth 3 RX5 none "readBoth" L 0 0) (E : zEnd X (91 + 3 * n) 0 0 (zQ n (zQrd iv0 b (zkn (zT B s) s) tk (zpl (zT B s) s) lw i0 (fun i2 v2 P2 => ∃ t P3, zR (zkn (zT B s) s) cf (2, i2, t ++ W, P3, v2) ∧ P2 = zflu t P3 ∧ (∀ w, w ∈ t → zqo true w = true) ∧ zfol1 (zkn (zT B s) s) i2 t ∧ ¬ (zkn (zT B s) s) i2 = 206) (zFl2 (zkn (zT B s) s) cf)))) : ∀ (N c : Nat) (cur : zI) (i v : Nat) (t : List Nat) (P3 : List Int32), tk ≤ N + i → zPo iv0 b (zkn (zT B s) s) tk cur i v (zflu t P3) → zR (zkn (zT B s) s) cf (2, i, t ++ W, P3, v) → (∀ w, w ∈ t → zqo true w = true) → zfol1 (zkn (zT B s) s) i t → i0 < i → c + 1 ≤ i → zJs X n 3 7 [some (.ref 14), some (.int (nI d)), some (.int (nI c))] [] cur lw := by
  intro N
  induction N with
  | zero =>
    intro c cur i v t P3 hN hP
    have := hP.2.2.1
    exfalso; omega
  | succ N ih =>
    intro c cur i v t P3 hN hP hR ht hf0 hi0 hci
    have htk := hE.1.1.2
    have hit := hP.2.2.1
    refine z_iload_n C dX5_readBoth_7 rfl ?_
    refine z_sipush (v := 800) C dX5_readBoth_8 (by decide) ?_
    refine zt_icmp_ge (tgt := 49) C dX5_readBoth_11 (nI_toInt (by omega)) (show (800 : Int32).toInt = 800 by decide) (by decide) (fun q11 => ?_) (fun q11 => ?_)
    · exfalso; omega
    · refine z_aload_n C dX5_readBoth_14 rfl ?_
      refine z_getI C dX5_readBoth_15 zf_X5_51 zk_14 (by decide) ?_
      refine z_sipush (v := 206) C dX5_readBoth_18 (by decide) ?_
      refine z_icmp_ne (tgt := 49) C dX5_readBoth_21 (by decide) (fun q21 => ?_) (fun q21 => ?_)
      · rw [hP.2.2.2.2.1] at q21
        refine zs_qvret C E dX5_readBoth_49 ?_
        exact ⟨rfl, rfl, Or.inl ⟨i, v, zflu t P3, hP, by omega, t, P3, hR, rfl, ht, hf0, q21⟩⟩
      · rw [hP.2.2.2.2.1] at q21
        refine z_aload_n C dX5_readBoth_24 rfl ?_
        have hnx := hE.nx hP.2.2.1 (by rw [q21]; decide) (by rw [q21]; decide)
        have hR1 := hR.tr (zm_and q21 ht hW)
        refine zs_callVv C dX5_readBoth_25 zm_X5_60 zyX5_advance (r_advance n cur _ B s tk (hP.1.tk hE.1) i hP.2.2.2.1 hnx) zc_5 rfl zk_14 (by decide) (by omega) rfl rfl (Nat.le_of_ble_eq_true rfl) (by decide) (by decide) ?_
        have hP2 := hP.adv hnx
        have hI2 := hI0.R hcf hR1
        refine z_aload_n C dX5_readBoth_28 rfl ?_
        refine z_iload_n C dX5_readBoth_29 rfl ?_
        refine zs_callVq C dX5_readBoth_30 zm_X5_80 zyX5_readOne (hC _ (i + 1) v (zflu t P3) (42 :: W) hP2 (by rw [zdeep, if_neg (by decide), hd]; omega) (fun w hw => by simp at hw; subst hw; decide) rfl hI2) zc_5 rfl zk_14 (by decide) (by omega) rfl rfl (Nat.le_of_ble_eq_true rfl) (by decide) (by decide) (fun v30 iv30 lw30 hq30 => ?_)
        obtain ⟨rfl, rfl, hx30⟩ := hq30
        rcases hx30 with ⟨i3, v3, P2, hP3, hlt, t2, P4, hR3, rfl, ht2, hf⟩ | ⟨f, hPt, hFl⟩
        · have hlen := hE.bs (t := t2) hP3.2.2.1 (hI2.R (Nat.zero_le 2) hR3) (fun w hw => zqo_48 (ht2 w hw))
          rw [zbW, if_neg (by decide)] at hlen
          refine z_aload_n C dX5_readBoth_33 rfl ?_
          refine zs_getR C dX5_readBoth_34 zf_X5_23 zk_14 (by decide) (zr_14_1 n) ?_
          refine z_sipush (v := 206) C dX5_readBoth_37 (by decide) ?_
          refine zs_callVv C dX5_readBoth_40 zm_X5_77 zyX1_add (c_addD n _ _ 206 (z_n0 hP3.2.2.2.2.2.2.2.2.1 (by omega))) zc_1 rfl zk_18 (by decide) (by omega) rfl rfl (Nat.le_of_ble_eq_true rfl) (by decide) (by decide) ?_
          have hP5 := hP3.add (by omega) 206
          refine z_iinc (y := 1) (lv' := [some (.ref 14), some (.int _), some (.int _)]) C dX5_readBoth_43 rfl (by decide) (by decide) rfl ?_
          refine z_goto (tgt := 7) C dX5_readBoth_46 (by decide) ?_
          rw [nI_1 c]
          have ez : zflu (t2 ++ [42]) P4 = 206 :: zflu t2 P4 := zflu_app t2 42 P4
          rw [← ez] at hP5
          have e := ih (c + 1) _ i3 v3 (t2 ++ [42]) P4 (by omega) hP5 (by rw [List.append_assoc]; exact hR1.tr hR3) (fun w hw => by
            rcases List.mem_append.mp hw with z | z
            · exact ht2 w z
            · simp at z; subst z; decide) hf.app (by omega) (by omega)
          exact z_sub (zdp.sub (by repeat (first | exact True.intro | refine And.intro rfl ?_))) e
        · refine z_aload_n C dX5_readBoth_33 rfl ?_
          refine zs_getR C dX5_readBoth_34 zf_X5_23 zk_14 (by decide) (zr_14_1 n) ?_
          refine z_sipush (v := 206) C dX5_readBoth_37 (by decide) ?_
          refine zs_callVv C dX5_readBoth_40 zm_X5_77 zyX1_add (c_addD n _ _ 206 hPt.2.2.2.2.2) zc_1 rfl zk_18 (by decide) (by omega) rfl rfl (Nat.le_of_ble_eq_true rfl) (by decide) (by decide) ?_
          refine z_iinc (y := 1) (lv' := [some (.ref 14), some (.int _), some (.int _)]) C dX5_readBoth_43 rfl (by decide) (by decide) rfl ?_
          refine z_goto (tgt := 7) C dX5_readBoth_46 (by decide) ?_
          exact z_sub (zdp.sub (by repeat (first | exact True.intro | refine And.intro rfl ?_))) (ls_both7 n _ B s tk iv0 b d L cf i0 W f _ (hPt.add _) (hR1.fl hFl) _ C E)

set_option maxHeartbeats 2000000 in
set_option maxRecDepth 4000 in
theorem t_both (n : Nat) (lw : zG) (B : Nat → Int32) (s tk : Nat) (iv0 : zI) (hE : zEv B s tk iv0) (b v0 n0 : Nat) (d L LC : Nat) (hC : zCO n lw B s tk iv0 b v0 n0 LC d) (hL : LC + 1 ≤ L) (hL4 : 4 ≤ L) : zCB n lw B s tk iv0 b v0 n0 L d := by
  intro iv i v P W hP hd hW hI
  refine zM.of (by decide) (Nat.le_of_ble_eq_true rfl) (fun X C E => ?_)
  change zJs X n 3 0 [some (.ref 14), some (.int (nI d)), none] [] iv lw
  refine z_aload_n C dX5_readBoth_0 rfl ?_
  refine z_iload_n C dX5_readBoth_1 rfl ?_
  refine zs_callVq C dX5_readBoth_2 zm_X5_80 zyX5_readOne (hC iv i v P W hP hd (ztp_t46 hW).1 (ztp_t46 hW).2 hI) zc_5 rfl zk_14 (by decide) (by omega) rfl rfl (Nat.le_of_ble_eq_true rfl) (by decide) (by decide) (fun v2 iv2 lw2 hq2 => ?_)
  obtain ⟨rfl, rfl, hx2⟩ := hq2
  rcases hx2 with ⟨i2, v2, P2, hP2, hlt, t2, P4, hR, rfl, ht2, hf⟩ | ⟨f, hPt, hFl⟩
  · refine z_iconst (v := 0) C dX5_readBoth_5 (by decide) ?_
    refine z_istore_n (lv' := [some (.ref 14), some (.int _), some (.int _)]) C dX5_readBoth_6 (by decide) rfl ?_
    exact lp_both n _ B s tk iv0 hE b v0 n0 d L LC hC hL hL4 (0, i, W, P, v) i (Nat.zero_le 2) hI W hd hW C E (tk - i2) 0 _ i2 v2 t2 P4 (by have := hP2.2.2.1; omega) hP2 hR ht2 hf hlt (by omega)
  · refine z_iconst (v := 0) C dX5_readBoth_5 (by decide) ?_
    refine z_istore_n (lv' := [some (.ref 14), some (.int _), some (.int _)]) C dX5_readBoth_6 (by decide) rfl ?_
    exact ls_both7 n _ B s tk iv0 b d L (0, i, W, P, v) i W f _ hPt hFl _ C E

set_option maxHeartbeats 1000000 in
set_option maxRecDepth 4000 in
theorem ls_any7 (n : Nat) (lw : zG) (B : Nat → Int32) (s tk : Nat) (iv0 : zI) (b d L : Nat) (cf : zCf) (i0 : Nat) (W : List Nat) (f : zFa) (cur : zI) (hPt : zPt iv0 cur f.1 (nI ((zpl (zT B s) s) f.2))) (hFl : zFl2 (zkn (zT B s) s) cf f) (c : Int32) {X : zX} (C : zC X cX5_readAny 3 RX5 none "readAny" L 0 0) (E : zEnd X (91 + 3 * n) 0 0 (zQ n (zQrd iv0 b (zkn (zT B s) s) tk (zpl (zT B s) s) lw i0 (fun i2 v2 P2 => ∃ t P3, zR (zkn (zT B s) s) cf (2, i2, t ++ W, P3, v2) ∧ P2 = zflu t P3 ∧ (∀ w, w ∈ t → zqo false w = true) ∧ zfol1 (zkn (zT B s) s) i2 t ∧ ¬ (zkn (zT B s) s) i2 = 206 ∧ ¬ (zkn (zT B s) s) i2 = 205) (zFl2 (zkn (zT B s) s) cf)))) : zJs X n 3 7 [some (.ref 14), some (.int (nI d)), some (.int c)] [] cur lw := by
  refine z_iload_n C dX5_readAny_7 rfl ?_
  refine z_sipush (v := 800) C dX5_readAny_8 (by decide) ?_
  refine zt_icmp_ge (tgt := 49) C dX5_readAny_11 rfl (show (800 : Int32).toInt = 800 by decide) (by decide) (fun q11 => ?_) (fun q11 => ?_)
  · refine zs_qvret C E dX5_readAny_49 ?_
    exact ⟨rfl, rfl, Or.inr ⟨f, hPt, hFl⟩⟩
  · refine z_aload_n C dX5_readAny_14 rfl ?_
    refine z_getI C dX5_readAny_15 zf_X5_51 zk_14 (by decide) ?_
    refine z_sipush (v := 205) C dX5_readAny_18 (by decide) ?_
    refine z_icmp_ne (tgt := 49) C dX5_readAny_21 (by decide) (fun q21 => ?_) (fun q21 => ?_)
    · rw [hPt.2.1] at q21
      refine zs_qvret C E dX5_readAny_49 ?_
      exact ⟨rfl, rfl, Or.inr ⟨f, hPt, hFl⟩⟩
    · rw [hPt.2.1] at q21
      exact absurd q21 (by decide)

theorem zqo_tf {w : Nat} (h : zqo true w = true) : zqo false w = true := decide_eq_true_iff.mpr ⟨zqo_48 h, Or.inl rfl⟩
theorem ztp_ft {W : List Nat} (h : ztp (zqo false) W) : ztp (zqo true) W := fun w hw => by
  have := h w hw
  unfold zqo at this ⊢
  rw [decide_eq_false_iff_not] at this ⊢
  exact fun z => this ⟨z.1, Or.inl rfl⟩

set_option maxHeartbeats 2000000 in
set_option maxRecDepth 4000 in
theorem lp_any (n : Nat) (lw : zG) (B : Nat → Int32) (s tk : Nat) (iv0 : zI) (hE : zEv B s tk iv0) (b v0 n0 : Nat) (d L LC : Nat) (hC : zCB n lw B s tk iv0 b v0 n0 LC d) (hL : LC + 1 ≤ L) (hL4 : 4 ≤ L) (cf : zCf) (i0 : Nat) (hcf : cf.1 ≤ 2) (hI0 : zInv (zkn (zT B s) s) b v0 n0 cf) (W : List Nat) (hd : zdeep W = d) (hW : ztp (zqo false) W) {X : zX} (C : zC X cX5_readAny 3 RX5 none "readAny" L 0 0) (E : zEnd X (91 + 3 * n) 0 0 (zQ n (zQrd iv0 b (zkn (zT B s) s) tk (zpl (zT B s) s) lw i0 (fun i2 v2 P2 => ∃ t P3, zR (zkn (zT B s) s) cf (2, i2, t ++ W, P3, v2) ∧ P2 = zflu t P3 ∧ (∀ w, w ∈ t → zqo false w = true) ∧ zfol1 (zkn (zT B s) s) i2 t ∧ ¬ (zkn (zT B s) s) i2 = 206 ∧ ¬ (zkn (zT B s) s) i2 = 205) (zFl2 (zkn (zT B s) s) cf)))) : ∀ (N c : Nat) (cur : zI) (i v : Nat) (t : List Nat) (P3 : List Int32), tk ≤ N + i → zPo iv0 b (zkn (zT B s) s) tk cur i v (zflu t P3) → zR (zkn (zT B s) s) cf (2, i, t ++ W, P3, v) → (∀ w, w ∈ t → zqo false w = true) → zfol1 (zkn (zT B s) s) i t → ¬ (zkn (zT B s) s) i = 206 → i0 < i → c + 1 ≤ i → zJs X n 3 7 [some (.ref 14), some (.int (nI d)), some (.int (nI c))] [] cur lw := by
  intro N
  induction N with
  | zero =>
    intro c cur i v t P3 hN hP
    have := hP.2.2.1
    exfalso; omega
  | succ N ih =>
    intro c cur i v t P3 hN hP hR ht hf0 hna0 hi0 hci
    have htk := hE.1.1.2
    have hit := hP.2.2.1
    refine z_iload_n C dX5_readAny_7 rfl ?_
    refine z_sipush (v := 800) C dX5_readAny_8 (by decide) ?_
    refine zt_icmp_ge (tgt := 49) C dX5_readAny_11 (nI_toInt (by omega)) (show (800 : Int32).toInt = 800 by decide) (by decide) (fun q11 => ?_) (fun q11 => ?_)
    · exfalso; omega
    · refine z_aload_n C dX5_readAny_14 rfl ?_
      refine z_getI C dX5_readAny_15 zf_X5_51 zk_14 (by decide) ?_
      refine z_sipush (v := 205) C dX5_readAny_18 (by decide) ?_
      refine z_icmp_ne (tgt := 49) C dX5_readAny_21 (by decide) (fun q21 => ?_) (fun q21 => ?_)
      · rw [hP.2.2.2.2.1] at q21
        refine zs_qvret C E dX5_readAny_49 ?_
        exact ⟨rfl, rfl, Or.inl ⟨i, v, zflu t P3, hP, by omega, t, P3, hR, rfl, ht, hf0, hna0, q21⟩⟩
      · rw [hP.2.2.2.2.1] at q21
        refine z_aload_n C dX5_readAny_24 rfl ?_
        have hnx := hE.nx hP.2.2.1 (by rw [q21]; decide) (by rw [q21]; decide)
        have hR1 := hR.tr (zm_or q21 ht hW)
        refine zs_callVv C dX5_readAny_25 zm_X5_60 zyX5_advance (r_advance n cur _ B s tk (hP.1.tk hE.1) i hP.2.2.2.1 hnx) zc_5 rfl zk_14 (by decide) (by omega) rfl rfl (Nat.le_of_ble_eq_true rfl) (by decide) (by decide) ?_
        have hP2 := hP.adv hnx
        have hI2 := hI0.R hcf hR1
        refine z_aload_n C dX5_readAny_28 rfl ?_
        refine z_iload_n C dX5_readAny_29 rfl ?_
        refine zs_callVq C dX5_readAny_30 zm_X5_72 zyX5_readBoth (hC _ (i + 1) v (zflu t P3) (41 :: W) hP2 (by rw [zdeep, if_neg (by decide), hd]; omega) (fun w hw => by simp at hw; subst hw; decide) hI2) zc_5 rfl zk_14 (by decide) (by omega) rfl rfl (Nat.le_of_ble_eq_true rfl) (by decide) (by decide) (fun v30 iv30 lw30 hq30 => ?_)
        obtain ⟨rfl, rfl, hx30⟩ := hq30
        rcases hx30 with ⟨i3, v3, P2, hP3, hlt, t2, P4, hR3, rfl, ht2, hf, hna⟩ | ⟨f, hPt, hFl⟩
        · have hlen := hE.bs (t := t2) hP3.2.2.1 (hI2.R (Nat.zero_le 2) hR3) (fun w hw => zqo_48 (ht2 w hw))
          rw [zbW, if_neg (by decide)] at hlen
          refine z_aload_n C dX5_readAny_33 rfl ?_
          refine zs_getR C dX5_readAny_34 zf_X5_23 zk_14 (by decide) (zr_14_1 n) ?_
          refine z_sipush (v := 205) C dX5_readAny_37 (by decide) ?_
          refine zs_callVv C dX5_readAny_40 zm_X5_77 zyX1_add (c_addD n _ _ 205 (z_n0 hP3.2.2.2.2.2.2.2.2.1 (by omega))) zc_1 rfl zk_18 (by decide) (by omega) rfl rfl (Nat.le_of_ble_eq_true rfl) (by decide) (by decide) ?_
          have hP5 := hP3.add (by omega) 205
          refine z_iinc (y := 1) (lv' := [some (.ref 14), some (.int _), some (.int _)]) C dX5_readAny_43 rfl (by decide) (by decide) rfl ?_
          refine z_goto (tgt := 7) C dX5_readAny_46 (by decide) ?_
          rw [nI_1 c]
          have ez : zflu (t2 ++ [41]) P4 = 205 :: zflu t2 P4 := zflu_app t2 41 P4
          rw [← ez] at hP5
          have e := ih (c + 1) _ i3 v3 (t2 ++ [41]) P4 (by omega) hP5 (by rw [List.append_assoc]; exact hR1.tr hR3) (fun w hw => by
            rcases List.mem_append.mp hw with z | z
            · exact zqo_tf (ht2 w z)
            · simp at z; subst z; decide) hf.app hna (by omega) (by omega)
          exact z_sub (zdp.sub (by repeat (first | exact True.intro | refine And.intro rfl ?_))) e
        · refine z_aload_n C dX5_readAny_33 rfl ?_
          refine zs_getR C dX5_readAny_34 zf_X5_23 zk_14 (by decide) (zr_14_1 n) ?_
          refine z_sipush (v := 205) C dX5_readAny_37 (by decide) ?_
          refine zs_callVv C dX5_readAny_40 zm_X5_77 zyX1_add (c_addD n _ _ 205 hPt.2.2.2.2.2) zc_1 rfl zk_18 (by decide) (by omega) rfl rfl (Nat.le_of_ble_eq_true rfl) (by decide) (by decide) ?_
          refine z_iinc (y := 1) (lv' := [some (.ref 14), some (.int _), some (.int _)]) C dX5_readAny_43 rfl (by decide) (by decide) rfl ?_
          refine z_goto (tgt := 7) C dX5_readAny_46 (by decide) ?_
          exact z_sub (zdp.sub (by repeat (first | exact True.intro | refine And.intro rfl ?_))) (ls_any7 n _ B s tk iv0 b d L cf i0 W f _ (hPt.add _) (hR1.fl hFl) _ C E)

set_option maxHeartbeats 2000000 in
set_option maxRecDepth 4000 in
theorem t_any (n : Nat) (lw : zG) (B : Nat → Int32) (s tk : Nat) (iv0 : zI) (hE : zEv B s tk iv0) (b v0 n0 : Nat) (d L LC : Nat) (hC : zCB n lw B s tk iv0 b v0 n0 LC d) (hL : LC + 1 ≤ L) (hL4 : 4 ≤ L) : zCA n lw B s tk iv0 b v0 n0 L d := by
  intro iv i v P W hP hd hW hI
  refine zM.of (by decide) (Nat.le_of_ble_eq_true rfl) (fun X C E => ?_)
  change zJs X n 3 0 [some (.ref 14), some (.int (nI d)), none] [] iv lw
  refine z_aload_n C dX5_readAny_0 rfl ?_
  refine z_iload_n C dX5_readAny_1 rfl ?_
  refine zs_callVq C dX5_readAny_2 zm_X5_72 zyX5_readBoth (hC iv i v P W hP hd (ztp_ft hW) hI) zc_5 rfl zk_14 (by decide) (by omega) rfl rfl (Nat.le_of_ble_eq_true rfl) (by decide) (by decide) (fun v2 iv2 lw2 hq2 => ?_)
  obtain ⟨rfl, rfl, hx2⟩ := hq2
  rcases hx2 with ⟨i2, v2, P2, hP2, hlt, t2, P4, hR, rfl, ht2, hf, hna⟩ | ⟨f, hPt, hFl⟩
  · refine z_iconst (v := 0) C dX5_readAny_5 (by decide) ?_
    refine z_istore_n (lv' := [some (.ref 14), some (.int _), some (.int _)]) C dX5_readAny_6 (by decide) rfl ?_
    exact lp_any n _ B s tk iv0 hE b v0 n0 d L LC hC hL hL4 (0, i, W, P, v) i (Nat.zero_le 2) hI W hd hW C E (tk - i2) 0 _ i2 v2 t2 P4 (by have := hP2.2.2.1; omega) hP2 hR (fun w hw => zqo_tf (ht2 w hw)) hf hna hlt (by omega)
  · refine z_iconst (v := 0) C dX5_readAny_5 (by decide) ?_
    refine z_istore_n (lv' := [some (.ref 14), some (.int _), some (.int _)]) C dX5_readAny_6 (by decide) rfl ?_
    exact ls_any7 n _ B s tk iv0 b d L (0, i, W, P, v) i W f _ hPt hFl _ C E

theorem zq46_t {w : Nat} (h : zq46 w = true) : zqo true w = true := by
  have := decide_eq_true_iff.mp h
  exact decide_eq_true_iff.mpr ⟨this.1, Or.inr (by omega)⟩

set_option maxHeartbeats 2000000 in
set_option maxRecDepth 4000 in
theorem t_one (n : Nat) (lw : zG) (B : Nat → Int32) (s tk : Nat) (iv0 : zI) (hE : zEv B s tk iv0) (b v0 n0 : Nat) (d : Nat) (hd8 : d < 8) (L LC LO : Nat) (hC : zCS n lw B s tk iv0 b v0 n0 LC d) (hO : zCO n lw B s tk iv0 b v0 n0 LO (d + 1)) (hL : LC + 1 ≤ L) (hLO : LO + 1 ≤ L) (hL4 : 4 ≤ L) : zCO n lw B s tk iv0 b v0 n0 L d := by
  intro iv i v P W hP hd hW hcm hI
  refine zM.of (by decide) (Nat.le_of_ble_eq_true rfl) (fun X C E => ?_)
  change zJs X n 3 0 [some (.ref 14), some (.int (nI d)), none] [] iv lw
  obtain ⟨f1, f2, f3, f4, f5, f6, f7, f8, f9, f10⟩ := id hP
  have hv : v ≤ 100 := hI.1.2
  have hbd := hE.bd f3 hI
  have hT := f1.tk hE.1
  refine z_iload_n C dX5_readOne_0 rfl ?_
  refine z_bipush (v := 8) C dX5_readOne_1 (by decide) ?_
  refine zt_icmp_lt (tgt := 12) C dX5_readOne_3 (nI_toInt (by omega)) (show (8 : Int32).toInt = 8 by decide) (by decide) (fun q3 => ?_) (fun q3 => ?_)
  · refine z_aload_n C dX5_readOne_12 rfl ?_
    refine z_getI C dX5_readOne_13 zf_X5_51 zk_14 (by decide) ?_
    refine z_sipush (v := 207) C dX5_readOne_16 (by decide) ?_
    refine z_icmp_ne (tgt := 44) C dX5_readOne_19 (by decide) (fun q19 => ?_) (fun q19 => ?_)
    · rw [hP.2.2.2.2.1] at q19
      refine z_aload_n C dX5_readOne_44 rfl ?_
      refine z_iload_n C dX5_readOne_45 rfl ?_
      refine zs_callVq C dX5_readOne_46 zm_X5_83 zyX5_readSum (hC iv i v P W 0 hP hd (Or.inr ⟨rfl, q19⟩) hW hI) zc_5 rfl zk_14 (by decide) (by omega) rfl rfl (Nat.le_of_ble_eq_true rfl) (by decide) (by decide) (fun v46 iv46 lw46 hq46 => ?_)
      obtain ⟨rfl, rfl, hx46⟩ := hq46
      rcases hx46 with ⟨i3, v3, P2, hP3, hlt, t2, P4, hR3, rfl, ht2, hn2⟩ | ⟨f, hPt, hFl⟩
      · refine z_aload_n C dX5_readOne_49 rfl ?_
        refine z_getI C dX5_readOne_50 zf_X5_51 zk_14 (by decide) ?_
        refine z_eqi hP3.2.2.2.2.1 ?_
        refine z_istore_n (lv' := [some (.ref 14), some (.int _), some (.int _)]) C dX5_readOne_53 (by decide) rfl ?_
        refine z_iload_n C dX5_readOne_54 rfl ?_
        refine z_bipush (v := 60) C dX5_readOne_55 (by decide) ?_
        refine z_icmp_eq (tgt := 72) C dX5_readOne_57 (by decide) (fun q57 => ?_) (fun q57 => ?_)
        · have hk : (zkn (zT B s) s) i3 = 61 ∨ (zkn (zT B s) s) i3 = 60 ∨ (zkn (zT B s) s) i3 = 62 := Or.inr (Or.inl q57)
          have hnx3 := hE.nx hP3.2.2.1 (by rcases hk with z | z | z <;> rw [z] <;> decide) (by rcases hk with z | z | z <;> rw [z] <;> decide)
          have hR2 := hR3.tr (zm_cmp hk ht2 hW hcm)
          have hzo := zopk.2 hk
          obtain ⟨op, hop, hop2⟩ : ∃ op, op = (if (zkn (zT B s) s) i3 = 61 then 43 else if (zkn (zT B s) s) i3 = 60 then 44 else 45) ∧ 43 ≤ op ∧ op ≤ 45 := ⟨_, rfl, zcm_b⟩
          rw [← hop] at hR2 hzo
          refine z_aload_n C dX5_readOne_72 rfl ?_
          refine zs_callVv C dX5_readOne_73 zm_X5_60 zyX5_advance (r_advance n _ _ B s tk (hP3.1.tk hE.1) i3 hP3.2.2.2.1 hnx3) zc_5 rfl zk_14 (by decide) (by omega) rfl rfl (Nat.le_of_ble_eq_true rfl) (by decide) (by decide) ?_
          have hP4 := hP3.adv hnx3
          have hI3 := hI.R (Nat.zero_le 2) hR2
          refine z_aload_n C dX5_readOne_76 rfl ?_
          refine z_iload_n C dX5_readOne_77 rfl ?_
          refine zs_callVq C dX5_readOne_78 zm_X5_83 zyX5_readSum (hC _ (i3 + 1) v3 (zflu t2 P4) (op :: W) 1 hP4 (by rw [zdeep, if_neg (by omega), hd]; omega) (Or.inl rfl) (fun w hw => by simp at hw; subst hw; exact decide_eq_false_iff_not.mpr (by omega)) hI3) zc_5 rfl zk_14 (by decide) (by omega) rfl rfl (Nat.le_of_ble_eq_true rfl) (by decide) (by decide) (fun v78 iv78 lw78 hq78 => ?_)
          obtain ⟨rfl, rfl, hx78⟩ := hq78
          rcases hx78 with ⟨i5, v5, P5, hP6, hlt5, t4, P6, hR5, rfl, ht4, hn4⟩ | ⟨f2, hPt2, hFl2⟩
          · have hlen := hE.bs (t := t4) hP6.2.2.1 (hI3.R (show 1 ≤ 2 by decide) hR5) (fun w hw => zq46_48 (ht4 w hw))
            rw [zbW, if_neg (by omega)] at hlen
            refine z_aload_n C dX5_readOne_81 rfl ?_
            refine zs_getR C dX5_readOne_82 zf_X5_23 zk_14 (by decide) (zr_14_1 n) ?_
            refine z_iload_n C dX5_readOne_85 rfl ?_
            refine zs_callVv C dX5_readOne_86 zm_X5_77 zyX1_add (c_addD n _ _ ((zkn (zT B s) s) i3) (z_n0 hP6.2.2.2.2.2.2.2.2.1 (by omega))) zc_1 rfl zk_18 (by decide) (by omega) rfl rfl (Nat.le_of_ble_eq_true rfl) (by decide) (by decide) ?_
            have hP7 := hP6.add (by omega) ((zkn (zT B s) s) i3)
            have ez : zflu (t4 ++ [op]) P6 = zop op :: zflu t4 P6 := zflu_app t4 op P6
            rw [hzo] at ez
            rw [← ez] at hP7
            refine zs_qvret C E dX5_readOne_89 ?_
            exact ⟨rfl, rfl, Or.inl ⟨i5, v5, _, hP7, by omega, t4 ++ [op], P6, by rw [List.append_assoc]; exact hR2.tr hR5, rfl, (fun w hw => by
              rcases List.mem_append.mp hw with z | z
              · exact zq46_t (ht4 w z)
              · simp at z; subst z; exact decide_eq_true_iff.mpr ⟨by omega, Or.inr (by omega)⟩), hn4, fun _ => ⟨t4, op, [], rfl, ht4, hop2.1, hop2.2⟩⟩⟩
          · refine z_aload_n C dX5_readOne_81 rfl ?_
            refine zs_getR C dX5_readOne_82 zf_X5_23 zk_14 (by decide) (zr_14_1 n) ?_
            refine z_iload_n C dX5_readOne_85 rfl ?_
            refine zs_callVv C dX5_readOne_86 zm_X5_77 zyX1_add (c_addD n _ _ ((zkn (zT B s) s) i3) hPt2.2.2.2.2.2) zc_1 rfl zk_18 (by decide) (by omega) rfl rfl (Nat.le_of_ble_eq_true rfl) (by decide) (by decide) ?_
            refine zs_qvret C E dX5_readOne_89 ?_
            exact ⟨rfl, rfl, Or.inr ⟨f2, hPt2.add _, hR2.fl hFl2⟩⟩
        · refine z_iload_n C dX5_readOne_60 rfl ?_
          refine z_bipush (v := 62) C dX5_readOne_61 (by decide) ?_
          refine z_icmp_eq (tgt := 72) C dX5_readOne_63 (by decide) (fun q63 => ?_) (fun q63 => ?_)
          · have hk : (zkn (zT B s) s) i3 = 61 ∨ (zkn (zT B s) s) i3 = 60 ∨ (zkn (zT B s) s) i3 = 62 := Or.inr (Or.inr q63)
            have hnx3 := hE.nx hP3.2.2.1 (by rcases hk with z | z | z <;> rw [z] <;> decide) (by rcases hk with z | z | z <;> rw [z] <;> decide)
            have hR2 := hR3.tr (zm_cmp hk ht2 hW hcm)
            have hzo := zopk.2 hk
            obtain ⟨op, hop, hop2⟩ : ∃ op, op = (if (zkn (zT B s) s) i3 = 61 then 43 else if (zkn (zT B s) s) i3 = 60 then 44 else 45) ∧ 43 ≤ op ∧ op ≤ 45 := ⟨_, rfl, zcm_b⟩
            rw [← hop] at hR2 hzo
            refine z_aload_n C dX5_readOne_72 rfl ?_
            refine zs_callVv C dX5_readOne_73 zm_X5_60 zyX5_advance (r_advance n _ _ B s tk (hP3.1.tk hE.1) i3 hP3.2.2.2.1 hnx3) zc_5 rfl zk_14 (by decide) (by omega) rfl rfl (Nat.le_of_ble_eq_true rfl) (by decide) (by decide) ?_
            have hP4 := hP3.adv hnx3
            have hI3 := hI.R (Nat.zero_le 2) hR2
            refine z_aload_n C dX5_readOne_76 rfl ?_
            refine z_iload_n C dX5_readOne_77 rfl ?_
            refine zs_callVq C dX5_readOne_78 zm_X5_83 zyX5_readSum (hC _ (i3 + 1) v3 (zflu t2 P4) (op :: W) 1 hP4 (by rw [zdeep, if_neg (by omega), hd]; omega) (Or.inl rfl) (fun w hw => by simp at hw; subst hw; exact decide_eq_false_iff_not.mpr (by omega)) hI3) zc_5 rfl zk_14 (by decide) (by omega) rfl rfl (Nat.le_of_ble_eq_true rfl) (by decide) (by decide) (fun v78 iv78 lw78 hq78 => ?_)
            obtain ⟨rfl, rfl, hx78⟩ := hq78
            rcases hx78 with ⟨i5, v5, P5, hP6, hlt5, t4, P6, hR5, rfl, ht4, hn4⟩ | ⟨f2, hPt2, hFl2⟩
            · have hlen := hE.bs (t := t4) hP6.2.2.1 (hI3.R (show 1 ≤ 2 by decide) hR5) (fun w hw => zq46_48 (ht4 w hw))
              rw [zbW, if_neg (by omega)] at hlen
              refine z_aload_n C dX5_readOne_81 rfl ?_
              refine zs_getR C dX5_readOne_82 zf_X5_23 zk_14 (by decide) (zr_14_1 n) ?_
              refine z_iload_n C dX5_readOne_85 rfl ?_
              refine zs_callVv C dX5_readOne_86 zm_X5_77 zyX1_add (c_addD n _ _ ((zkn (zT B s) s) i3) (z_n0 hP6.2.2.2.2.2.2.2.2.1 (by omega))) zc_1 rfl zk_18 (by decide) (by omega) rfl rfl (Nat.le_of_ble_eq_true rfl) (by decide) (by decide) ?_
              have hP7 := hP6.add (by omega) ((zkn (zT B s) s) i3)
              have ez : zflu (t4 ++ [op]) P6 = zop op :: zflu t4 P6 := zflu_app t4 op P6
              rw [hzo] at ez
              rw [← ez] at hP7
              refine zs_qvret C E dX5_readOne_89 ?_
              exact ⟨rfl, rfl, Or.inl ⟨i5, v5, _, hP7, by omega, t4 ++ [op], P6, by rw [List.append_assoc]; exact hR2.tr hR5, rfl, (fun w hw => by
                rcases List.mem_append.mp hw with z | z
                · exact zq46_t (ht4 w z)
                · simp at z; subst z; exact decide_eq_true_iff.mpr ⟨by omega, Or.inr (by omega)⟩), hn4, fun _ => ⟨t4, op, [], rfl, ht4, hop2.1, hop2.2⟩⟩⟩
            · refine z_aload_n C dX5_readOne_81 rfl ?_
              refine zs_getR C dX5_readOne_82 zf_X5_23 zk_14 (by decide) (zr_14_1 n) ?_
              refine z_iload_n C dX5_readOne_85 rfl ?_
              refine zs_callVv C dX5_readOne_86 zm_X5_77 zyX1_add (c_addD n _ _ ((zkn (zT B s) s) i3) hPt2.2.2.2.2.2) zc_1 rfl zk_18 (by decide) (by omega) rfl rfl (Nat.le_of_ble_eq_true rfl) (by decide) (by decide) ?_
              refine zs_qvret C E dX5_readOne_89 ?_
              exact ⟨rfl, rfl, Or.inr ⟨f2, hPt2.add _, hR2.fl hFl2⟩⟩
          · refine z_iload_n C dX5_readOne_66 rfl ?_
            refine z_bipush (v := 61) C dX5_readOne_67 (by decide) ?_
            refine z_icmp_ne (tgt := 89) C dX5_readOne_69 (by decide) (fun q69 => ?_) (fun q69 => ?_)
            · refine zs_qvret C E dX5_readOne_89 ?_
              exact ⟨rfl, rfl, Or.inl ⟨i3, v3, _, hP3, by omega, t2, P4, hR3, rfl, (fun w hw => zq46_t (ht2 w hw)), hn2, fun z => by rcases z with z | z | z <;> first | exact absurd z q57 | exact absurd z q63 | exact absurd z q69⟩⟩
            · have hk : (zkn (zT B s) s) i3 = 61 ∨ (zkn (zT B s) s) i3 = 60 ∨ (zkn (zT B s) s) i3 = 62 := Or.inl q69
              have hnx3 := hE.nx hP3.2.2.1 (by rcases hk with z | z | z <;> rw [z] <;> decide) (by rcases hk with z | z | z <;> rw [z] <;> decide)
              have hR2 := hR3.tr (zm_cmp hk ht2 hW hcm)
              have hzo := zopk.2 hk
              obtain ⟨op, hop, hop2⟩ : ∃ op, op = (if (zkn (zT B s) s) i3 = 61 then 43 else if (zkn (zT B s) s) i3 = 60 then 44 else 45) ∧ 43 ≤ op ∧ op ≤ 45 := ⟨_, rfl, zcm_b⟩
              rw [← hop] at hR2 hzo
              refine z_aload_n C dX5_readOne_72 rfl ?_
              refine zs_callVv C dX5_readOne_73 zm_X5_60 zyX5_advance (r_advance n _ _ B s tk (hP3.1.tk hE.1) i3 hP3.2.2.2.1 hnx3) zc_5 rfl zk_14 (by decide) (by omega) rfl rfl (Nat.le_of_ble_eq_true rfl) (by decide) (by decide) ?_
              have hP4 := hP3.adv hnx3
              have hI3 := hI.R (Nat.zero_le 2) hR2
              refine z_aload_n C dX5_readOne_76 rfl ?_
              refine z_iload_n C dX5_readOne_77 rfl ?_
              refine zs_callVq C dX5_readOne_78 zm_X5_83 zyX5_readSum (hC _ (i3 + 1) v3 (zflu t2 P4) (op :: W) 1 hP4 (by rw [zdeep, if_neg (by omega), hd]; omega) (Or.inl rfl) (fun w hw => by simp at hw; subst hw; exact decide_eq_false_iff_not.mpr (by omega)) hI3) zc_5 rfl zk_14 (by decide) (by omega) rfl rfl (Nat.le_of_ble_eq_true rfl) (by decide) (by decide) (fun v78 iv78 lw78 hq78 => ?_)
              obtain ⟨rfl, rfl, hx78⟩ := hq78
              rcases hx78 with ⟨i5, v5, P5, hP6, hlt5, t4, P6, hR5, rfl, ht4, hn4⟩ | ⟨f2, hPt2, hFl2⟩
              · have hlen := hE.bs (t := t4) hP6.2.2.1 (hI3.R (show 1 ≤ 2 by decide) hR5) (fun w hw => zq46_48 (ht4 w hw))
                rw [zbW, if_neg (by omega)] at hlen
                refine z_aload_n C dX5_readOne_81 rfl ?_
                refine zs_getR C dX5_readOne_82 zf_X5_23 zk_14 (by decide) (zr_14_1 n) ?_
                refine z_iload_n C dX5_readOne_85 rfl ?_
                refine zs_callVv C dX5_readOne_86 zm_X5_77 zyX1_add (c_addD n _ _ ((zkn (zT B s) s) i3) (z_n0 hP6.2.2.2.2.2.2.2.2.1 (by omega))) zc_1 rfl zk_18 (by decide) (by omega) rfl rfl (Nat.le_of_ble_eq_true rfl) (by decide) (by decide) ?_
                have hP7 := hP6.add (by omega) ((zkn (zT B s) s) i3)
                have ez : zflu (t4 ++ [op]) P6 = zop op :: zflu t4 P6 := zflu_app t4 op P6
                rw [hzo] at ez
                rw [← ez] at hP7
                refine zs_qvret C E dX5_readOne_89 ?_
                exact ⟨rfl, rfl, Or.inl ⟨i5, v5, _, hP7, by omega, t4 ++ [op], P6, by rw [List.append_assoc]; exact hR2.tr hR5, rfl, (fun w hw => by
                  rcases List.mem_append.mp hw with z | z
                  · exact zq46_t (ht4 w z)
                  · simp at z; subst z; exact decide_eq_true_iff.mpr ⟨by omega, Or.inr (by omega)⟩), hn4, fun _ => ⟨t4, op, [], rfl, ht4, hop2.1, hop2.2⟩⟩⟩
              · refine z_aload_n C dX5_readOne_81 rfl ?_
                refine zs_getR C dX5_readOne_82 zf_X5_23 zk_14 (by decide) (zr_14_1 n) ?_
                refine z_iload_n C dX5_readOne_85 rfl ?_
                refine zs_callVv C dX5_readOne_86 zm_X5_77 zyX1_add (c_addD n _ _ ((zkn (zT B s) s) i3) hPt2.2.2.2.2.2) zc_1 rfl zk_18 (by decide) (by omega) rfl rfl (Nat.le_of_ble_eq_true rfl) (by decide) (by decide) ?_
                refine zs_qvret C E dX5_readOne_89 ?_
                exact ⟨rfl, rfl, Or.inr ⟨f2, hPt2.add _, hR2.fl hFl2⟩⟩
      · refine z_aload_n C dX5_readOne_49 rfl ?_
        refine z_getI C dX5_readOne_50 zf_X5_51 zk_14 (by decide) ?_
        refine z_eqi hPt.2.1 ?_
        refine z_istore_n (lv' := [some (.ref 14), some (.int _), some (.int _)]) C dX5_readOne_53 (by decide) rfl ?_
        refine z_iload_n C dX5_readOne_54 rfl ?_
        refine z_bipush (v := 60) C dX5_readOne_55 (by decide) ?_
        refine z_icmp_eq (tgt := 72) C dX5_readOne_57 (by decide) (fun q57 => ?_) (fun q57 => ?_)
        · exact absurd q57 (by decide)
        · refine z_iload_n C dX5_readOne_60 rfl ?_
          refine z_bipush (v := 62) C dX5_readOne_61 (by decide) ?_
          refine z_icmp_eq (tgt := 72) C dX5_readOne_63 (by decide) (fun q63 => ?_) (fun q63 => ?_)
          · exact absurd q63 (by decide)
          · refine z_iload_n C dX5_readOne_66 rfl ?_
            refine z_bipush (v := 61) C dX5_readOne_67 (by decide) ?_
            refine z_icmp_ne (tgt := 89) C dX5_readOne_69 (by decide) (fun q69 => ?_) (fun q69 => ?_)
            · refine zs_qvret C E dX5_readOne_89 ?_
              exact ⟨rfl, rfl, Or.inr ⟨f, hPt, hFl⟩⟩
            · exact absurd q69 (by decide)
    · rw [hP.2.2.2.2.1] at q19
      refine z_aload_n C dX5_readOne_22 rfl ?_
      have hnx := hE.nx f3 (by rw [q19]; decide) (by rw [q19]; decide)
      have hR1 := zm_not (P := P) (v := v) (by rw [hd]; exact hd8 : zdeep W < 8) q19
      have hI2 := hI.R (Nat.zero_le 2) hR1
      refine zs_callVv C dX5_readOne_23 zm_X5_60 zyX5_advance (r_advance n iv _ B s tk hT i f4 hnx) zc_5 rfl zk_14 (by decide) (by omega) rfl rfl (Nat.le_of_ble_eq_true rfl) (by decide) (by decide) ?_
      have hP2 := hP.adv hnx
      refine z_aload_n C dX5_readOne_26 rfl ?_
      refine z_iload_n C dX5_readOne_27 rfl ?_
      refine z_iconst (v := 1) C dX5_readOne_28 (by decide) ?_
      refine z_iadd C dX5_readOne_29 ?_
      rw [nI_1 d]
      refine zs_callVq C dX5_readOne_30 zm_X5_80 zyX5_readOne (hO _ (i + 1) v P (40 :: W) hP2 (by rw [zdeep, if_pos (Or.inr rfl), hd]; omega) (fun w hw => by simp at hw; subst hw; decide) rfl hI2) zc_5 rfl zk_14 (by decide) (by omega) rfl rfl (Nat.le_of_ble_eq_true rfl) (by decide) (by decide) (fun v30 iv30 lw30 hq30 => ?_)
      obtain ⟨rfl, rfl, hx30⟩ := hq30
      rcases hx30 with ⟨i3, v3, P2, hP3, hlt, t2, P4, hR3, rfl, ht2, hf⟩ | ⟨f, hPt, hFl⟩
      · have hlen := hE.bs (t := t2) hP3.2.2.1 (hI2.R (Nat.zero_le 2) hR3) (fun w hw => zqo_48 (ht2 w hw))
        rw [znW, if_pos rfl] at hlen
        refine z_aload_n C dX5_readOne_33 rfl ?_
        refine zs_getR C dX5_readOne_34 zf_X5_23 zk_14 (by decide) (zr_14_1 n) ?_
        refine z_sipush (v := 207) C dX5_readOne_37 (by decide) ?_
        refine zs_callVv C dX5_readOne_40 zm_X5_77 zyX1_add (c_addD n _ _ 207 (z_n0 hP3.2.2.2.2.2.2.2.2.1 (by omega))) zc_1 rfl zk_18 (by decide) (by omega) rfl rfl (Nat.le_of_ble_eq_true rfl) (by decide) (by decide) ?_
        have hP5 := hP3.add (by omega) 207
        have ez : zflu (t2 ++ [40]) P4 = 207 :: zflu t2 P4 := zflu_app t2 40 P4
        rw [← ez] at hP5
        refine zs_qvret C E dX5_readOne_43 ?_
        exact ⟨rfl, rfl, Or.inl ⟨i3, v3, _, hP5, by omega, t2 ++ [40], P4, by rw [List.append_assoc]; exact hR1.tr hR3, rfl, (fun w hw => by
          rcases List.mem_append.mp hw with z | z
          · exact ht2 w z
          · simp at z; subst z; decide), hf.app⟩⟩
      · refine z_aload_n C dX5_readOne_33 rfl ?_
        refine zs_getR C dX5_readOne_34 zf_X5_23 zk_14 (by decide) (zr_14_1 n) ?_
        refine z_sipush (v := 207) C dX5_readOne_37 (by decide) ?_
        refine zs_callVv C dX5_readOne_40 zm_X5_77 zyX1_add (c_addD n _ _ 207 hPt.2.2.2.2.2) zc_1 rfl zk_18 (by decide) (by omega) rfl rfl (Nat.le_of_ble_eq_true rfl) (by decide) (by decide) ?_
        refine zs_qvret C E dX5_readOne_43 ?_
        exact ⟨rfl, rfl, Or.inr ⟨f, hPt.add _, hR1.fl hFl⟩⟩
  · exfalso; omega

set_option maxHeartbeats 2000000 in
set_option maxRecDepth 4000 in
theorem t_one8 (n : Nat) (lw : zG) (B : Nat → Int32) (s tk : Nat) (iv0 : zI) (hE : zEv B s tk iv0) (b v0 n0 : Nat) (L : Nat) (hL4 : 4 ≤ L) : zCO n lw B s tk iv0 b v0 n0 L 8 := by
  intro iv i v P W hP hd hW hcm hI
  refine zM.of (by decide) (Nat.le_of_ble_eq_true rfl) (fun X C E => ?_)
  change zJs X n 3 0 [some (.ref 14), some (.int (nI 8)), none] [] iv lw
  obtain ⟨f1, f2, f3, f4, f5, f6, f7, f8, f9, f10⟩ := id hP
  have hv : v ≤ 100 := hI.1.2
  have hbd := hE.bd f3 hI
  have hT := f1.tk hE.1
  refine z_iload_n C dX5_readOne_0 rfl ?_
  refine z_bipush (v := 8) C dX5_readOne_1 (by decide) ?_
  refine zt_icmp_lt (tgt := 12) C dX5_readOne_3 (show (nI 8).toInt = 8 by decide) (show (8 : Int32).toInt = 8 by decide) (by decide) (fun q3 => ?_) (fun q3 => ?_)
  · exfalso; omega
  · refine z_aload_n C dX5_readOne_6 rfl ?_
    refine z_iconst (v := 2) C dX5_readOne_7 (by decide) ?_
    refine zs_callVv C dX5_readOne_8 zm_X5_57 zyX5_refuse (r_refuse1 n iv _ B s tk hT i f4 f3 f7 2) zc_5 rfl zk_14 (by decide) (by omega) rfl rfl (Nat.le_of_ble_eq_true rfl) (by decide) (by decide) ?_
    refine zs_qvret C E dX5_readOne_11 ?_
    rw [f5]
    exact ⟨rfl, rfl, Or.inr ⟨zbad ((zkn (zT B s) s) i) i, hP.ref (by omega) _ _ (by split <;> decide), zm_deep (by rw [hd]; exact Nat.le_refl _)⟩⟩

/-- every depth -/
theorem t_all (n : Nat) (lw : zG) (B : Nat → Int32) (s tk : Nat) (iv0 : zI) (hE : zEv B s tk iv0) (b v0 n0 : Nat) : ∀ e, e ≤ 8 → zCO n lw B s tk iv0 b v0 n0 (4 + 5 * e) (8 - e) ∧ zCA n lw B s tk iv0 b v0 n0 (6 + 5 * e) (8 - e)
  | 0, _ => by
    have h1 := t_one8 n lw B s tk iv0 hE b v0 n0 4 (Nat.le_refl _)
    have h2 := t_both n lw B s tk iv0 hE b v0 n0 8 5 4 h1 (by omega) (by omega)
    exact ⟨h1, t_any n lw B s tk iv0 hE b v0 n0 8 6 5 h2 (by omega) (by omega)⟩
  | e + 1, he => by
    obtain ⟨g1, g2⟩ := t_all n lw B s tk iv0 hE b v0 n0 e (by omega)
    have ed : 8 - e = (8 - (e + 1)) + 1 := by omega
    rw [ed] at g1 g2
    have h1 := t_term n lw B s tk iv0 hE b v0 n0 (8 - (e + 1)) (by omega) (7 + 5 * e) _ g2 (by omega) (by omega)
    have h2 := t_sum n lw B s tk iv0 hE b v0 n0 (8 - (e + 1)) (8 + 5 * e) _ h1 (by omega) (by omega)
    have h3 := t_one n lw B s tk iv0 hE b v0 n0 (8 - (e + 1)) (by omega) (9 + 5 * e) _ _ h2 g1 (by omega) (by omega) (by omega)
    have h4 := t_both n lw B s tk iv0 hE b v0 n0 (8 - (e + 1)) (10 + 5 * e) _ h3 (by omega) (by omega)
    have h5 := t_any n lw B s tk iv0 hE b v0 n0 (8 - (e + 1)) (11 + 5 * e) _ h4 (by omega) (by omega)
    rw [show 4 + 5 * (e + 1) = 9 + 5 * e by omega, show 6 + 5 * (e + 1) = 11 + 5 * e by omega]
    exact ⟨h3, h5⟩
