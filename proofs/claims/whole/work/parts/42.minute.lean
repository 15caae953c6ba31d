theorem z_eqv {X : zX} {N0 nL pc : Nat} {lv : zLs} {st : List Value} {N : Nat} {kd : zD} {iv iv1 : zI} {rf : zF} {lw : zG} {cells slots : Nat} (h : iv = iv1) (k : zJ X N0 nL pc lv st N kd iv1 rf lw cells slots) : zJ X N0 nL pc lv st N kd iv rf lw cells slots := h ▸ k

set_option maxHeartbeats 2000000 in
set_option maxRecDepth 4000 in
theorem c_act (n : Nat) (iv : zI) (lw : zG) (t m tl : Nat) (en : Nat → Nat) (hX : zXI n t m tl en iv) (i : Nat) (hi : i < n) (h4 : ¬ iv (91 + 3 * i) 5 = 4) : zMs yX9_act cX9_act 3 none 4 [.ref 0, .ref (91 + 3 * i), .int (nI i)] n iv lw (fun v iv2 lw2 => v = none ∧ lw2 = lw ∧ zeq iv2 (zact iv i t tl)) := by
  refine zM.of (by decide) (Nat.le_of_ble_eq_true rfl) (fun X C E => ?_)
  change zJs X n 3 0 [some (.ref 0), some (.ref (91 + 3 * i)), some (.int (nI i))] [] iv lw
  obtain ⟨hI, ht, ht2, h9, hcc, hn, hCC, hG⟩ := id hX
  have hC := hCC i hi
  have hs := hC.sg (iv := iv) hI.2 h4
  have had := hC.ad hI.2 h4
  refine z_aload_n C dX9_act_0 rfl ?_
  refine z_getI C dX9_act_1 zf_X9_174 (zkc i) (by omega) ?_
  refine z_if_ne (tgt := 27) C dX9_act_4 (by decide) (fun q4 => ?_) (fun q4 => ?_)
  · refine z_aload_n C dX9_act_27 rfl ?_
    refine z_getI C dX9_act_28 zf_X9_174 (zkc i) (by omega) ?_
    refine z_iconst (v := 3) C dX9_act_31 (by decide) ?_
    refine z_icmp_ne (tgt := 54) C dX9_act_32 (by decide) (fun q32 => ?_) (fun q32 => ?_)
    · refine z_aload_n C dX9_act_54 rfl ?_
      refine z_getI C dX9_act_55 zf_X9_174 (zkc i) (by omega) ?_
      refine z_iconst (v := 1) C dX9_act_58 (by decide) ?_
      refine z_icmp_ne (tgt := 78) C dX9_act_59 (by decide) (fun q59 => ?_) (fun q59 => ?_)
      · have ev : zch iv i t = iv := by unfold zch; rw [if_neg (fun z => q4 z.1), if_neg (fun z => q32 z.1), if_neg (fun z => q59 z.1)]
        refine z_eqv (iv1 := zch iv i t) ev.symm ?_
        obtain ⟨gI, gt, -, -, -, -, gCC, gG⟩ := hX.ch hi
        have gC := gCC i hi
        refine z_aload_n C dX9_act_78 rfl ?_
        refine z_getI C dX9_act_79 zf_X9_174 (zkc i) (by omega) ?_
        refine z_iconst (v := 2) C dX9_act_82 (by decide) ?_
        refine z_icmp_ne (tgt := 92) C dX9_act_83 (by decide) (fun q83 => ?_) (fun q83 => ?_)
        · refine zs_qvret C E dX9_act_92 ?_
          refine ⟨rfl, rfl, ?_⟩
          unfold zact
          rw [if_neg q83]
          exact zeq.rf _
        · have gs := gC.sg (iv := zch iv i t) gI.2 (by rw [q83]; decide)
          refine z_aload_n C dX9_act_86 rfl ?_
          refine z_aload_n C dX9_act_87 rfl ?_
          refine z_iload_n C dX9_act_88 rfl ?_
          refine zs_callVq C dX9_act_89 zm_X9_197 zyX9_obey (c_obey n (zch iv i t) _ i hi hn gI t gt ht2 gs (by rw [zt_nI gt (by omega)]; exact gC.2.2.2.2.2.2.2 (Or.inr (Or.inl q83))) m tl gG.1 gG.2.1 gG.2.2.1 gG.2.2.2.1 en gG.2.2.2.2.1 gG.2.2.2.2.2) zc_9 rfl zk_0 (by decide) (by decide) rfl rfl (Nat.le_of_ble_eq_true rfl) (by decide) (by decide) (fun v89 iv89 lw89 hq89 => ?_)
          obtain ⟨rfl, rfl, w89, hw89, rfl⟩ := hq89
          refine zs_qvret C E dX9_act_92 ?_
          refine ⟨rfl, rfl, ?_⟩
          unfold zact
          rw [if_pos q83]
          exact zeq.obf (fun q a b => hw89 q a b) i _ _
      · refine z_aload_n C dX9_act_62 rfl ?_
        refine z_getI C dX9_act_63 zf_X9_190 (zkc i) (by omega) ?_
        refine z_aload_n C dX9_act_66 rfl ?_
        refine z_getI C dX9_act_67 zf_X9_115 zk_0 (by decide) ?_
        refine zt_icmp_gt (tgt := 78) C dX9_act_70 rfl rfl (by decide) (fun q70 => ?_) (fun q70 => ?_)
        · have ev : zch iv i t = iv := by unfold zch; rw [if_neg (fun z => q4 z.1), if_neg (fun z => q32 z.1), if_neg (fun z => by have := z.2; omega)]
          refine z_eqv (iv1 := zch iv i t) ev.symm ?_
          obtain ⟨gI, gt, -, -, -, -, gCC, gG⟩ := hX.ch hi
          have gC := gCC i hi
          refine z_aload_n C dX9_act_78 rfl ?_
          refine z_getI C dX9_act_79 zf_X9_174 (zkc i) (by omega) ?_
          refine z_iconst (v := 2) C dX9_act_82 (by decide) ?_
          refine z_icmp_ne (tgt := 92) C dX9_act_83 (by decide) (fun q83 => ?_) (fun q83 => ?_)
          · refine zs_qvret C E dX9_act_92 ?_
            refine ⟨rfl, rfl, ?_⟩
            unfold zact
            rw [if_neg q83]
            exact zeq.rf _
          · have gs := gC.sg (iv := zch iv i t) gI.2 (by rw [q83]; decide)
            refine z_aload_n C dX9_act_86 rfl ?_
            refine z_aload_n C dX9_act_87 rfl ?_
            refine z_iload_n C dX9_act_88 rfl ?_
            refine zs_callVq C dX9_act_89 zm_X9_197 zyX9_obey (c_obey n (zch iv i t) _ i hi hn gI t gt ht2 gs (by rw [zt_nI gt (by omega)]; exact gC.2.2.2.2.2.2.2 (Or.inr (Or.inl q83))) m tl gG.1 gG.2.1 gG.2.2.1 gG.2.2.2.1 en gG.2.2.2.2.1 gG.2.2.2.2.2) zc_9 rfl zk_0 (by decide) (by decide) rfl rfl (Nat.le_of_ble_eq_true rfl) (by decide) (by decide) (fun v89 iv89 lw89 hq89 => ?_)
            obtain ⟨rfl, rfl, w89, hw89, rfl⟩ := hq89
            refine zs_qvret C E dX9_act_92 ?_
            refine ⟨rfl, rfl, ?_⟩
            unfold zact
            rw [if_pos q83]
            exact zeq.obf (fun q a b => hw89 q a b) i _ _
        · refine z_aload_n C dX9_act_73 rfl ?_
          refine z_aload_n C dX9_act_74 rfl ?_
          refine zs_callVv C dX9_act_75 zm_X9_193 zyX9_arrive (c_arrive n iv _ i hi hn hI (zaa (iv (91 + 3 * i))) (zdd (iv (91 + 3 * i))) had.1 had.2.1 had.2.2 (by rw [zt_nI ht (by omega)]; omega) (by rw [zt_nI ht (by omega)]; exact hC.2.2.2.2.2.2.2 (Or.inl q59))) zc_9 rfl zk_0 (by decide) (by decide) rfl rfl (Nat.le_of_ble_eq_true rfl) (by decide) (by decide) ?_
          have ev : zch iv i t = zarr iv i (zaa (iv (91 + 3 * i))) (zdd (iv (91 + 3 * i))) := by unfold zch; rw [if_neg (fun z => q4 z.1), if_neg (fun z => q32 z.1), if_pos ⟨q59, by omega⟩]
          refine z_eqv (iv1 := zch iv i t) ev.symm ?_
          obtain ⟨gI, gt, -, -, -, -, gCC, gG⟩ := hX.ch hi
          have gC := gCC i hi
          refine z_aload_n C dX9_act_78 rfl ?_
          refine z_getI C dX9_act_79 zf_X9_174 (zkc i) (by omega) ?_
          refine z_iconst (v := 2) C dX9_act_82 (by decide) ?_
          refine z_icmp_ne (tgt := 92) C dX9_act_83 (by decide) (fun q83 => ?_) (fun q83 => ?_)
          · refine zs_qvret C E dX9_act_92 ?_
            refine ⟨rfl, rfl, ?_⟩
            unfold zact
            rw [if_neg q83]
            exact zeq.rf _
          · have gs := gC.sg (iv := zch iv i t) gI.2 (by rw [q83]; decide)
            refine z_aload_n C dX9_act_86 rfl ?_
            refine z_aload_n C dX9_act_87 rfl ?_
            refine z_iload_n C dX9_act_88 rfl ?_
            refine zs_callVq C dX9_act_89 zm_X9_197 zyX9_obey (c_obey n (zch iv i t) _ i hi hn gI t gt ht2 gs (by rw [zt_nI gt (by omega)]; exact gC.2.2.2.2.2.2.2 (Or.inr (Or.inl q83))) m tl gG.1 gG.2.1 gG.2.2.1 gG.2.2.2.1 en gG.2.2.2.2.1 gG.2.2.2.2.2) zc_9 rfl zk_0 (by decide) (by decide) rfl rfl (Nat.le_of_ble_eq_true rfl) (by decide) (by decide) (fun v89 iv89 lw89 hq89 => ?_)
            obtain ⟨rfl, rfl, w89, hw89, rfl⟩ := hq89
            refine zs_qvret C E dX9_act_92 ?_
            refine ⟨rfl, rfl, ?_⟩
            unfold zact
            rw [if_pos q83]
            exact zeq.obf (fun q a b => hw89 q a b) i _ _
    · refine z_aload_n C dX9_act_35 rfl ?_
      refine z_getI C dX9_act_36 zf_X9_187 (zkc i) (by omega) ?_
      refine z_aload_n C dX9_act_39 rfl ?_
      refine z_getI C dX9_act_40 zf_X9_115 zk_0 (by decide) ?_
      refine zt_icmp_gt (tgt := 54) C dX9_act_43 rfl rfl (by decide) (fun q43 => ?_) (fun q43 => ?_)
      · refine z_aload_n C dX9_act_54 rfl ?_
        refine z_getI C dX9_act_55 zf_X9_174 (zkc i) (by omega) ?_
        refine z_iconst (v := 1) C dX9_act_58 (by decide) ?_
        refine z_icmp_ne (tgt := 78) C dX9_act_59 (by decide) (fun q59 => ?_) (fun q59 => ?_)
        · have ev : zch iv i t = iv := by unfold zch; rw [if_neg (fun z => q4 z.1), if_neg (fun z => by have := z.2; omega), if_neg (fun z => q59 z.1)]
          refine z_eqv (iv1 := zch iv i t) ev.symm ?_
          obtain ⟨gI, gt, -, -, -, -, gCC, gG⟩ := hX.ch hi
          have gC := gCC i hi
          refine z_aload_n C dX9_act_78 rfl ?_
          refine z_getI C dX9_act_79 zf_X9_174 (zkc i) (by omega) ?_
          refine z_iconst (v := 2) C dX9_act_82 (by decide) ?_
          refine z_icmp_ne (tgt := 92) C dX9_act_83 (by decide) (fun q83 => ?_) (fun q83 => ?_)
          · refine zs_qvret C E dX9_act_92 ?_
            refine ⟨rfl, rfl, ?_⟩
            unfold zact
            rw [if_neg q83]
            exact zeq.rf _
          · have gs := gC.sg (iv := zch iv i t) gI.2 (by rw [q83]; decide)
            refine z_aload_n C dX9_act_86 rfl ?_
            refine z_aload_n C dX9_act_87 rfl ?_
            refine z_iload_n C dX9_act_88 rfl ?_
            refine zs_callVq C dX9_act_89 zm_X9_197 zyX9_obey (c_obey n (zch iv i t) _ i hi hn gI t gt ht2 gs (by rw [zt_nI gt (by omega)]; exact gC.2.2.2.2.2.2.2 (Or.inr (Or.inl q83))) m tl gG.1 gG.2.1 gG.2.2.1 gG.2.2.2.1 en gG.2.2.2.2.1 gG.2.2.2.2.2) zc_9 rfl zk_0 (by decide) (by decide) rfl rfl (Nat.le_of_ble_eq_true rfl) (by decide) (by decide) (fun v89 iv89 lw89 hq89 => ?_)
            obtain ⟨rfl, rfl, w89, hw89, rfl⟩ := hq89
            refine zs_qvret C E dX9_act_92 ?_
            refine ⟨rfl, rfl, ?_⟩
            unfold zact
            rw [if_pos q83]
            exact zeq.obf (fun q a b => hw89 q a b) i _ _
        · exact absurd (q32.symm.trans q59) (by decide)
      · refine z_aload_n C dX9_act_46 rfl ?_
        refine z_iconst (v := 1) C dX9_act_47 (by decide) ?_
        refine z_putI C dX9_act_48 zf_X9_174 (zkc i) (by omega) ?_
        refine z_goto (tgt := 78) C dX9_act_51 (by decide) ?_
        have ev : zch iv i t = zu iv (91 + 3 * i) 5 1 := by unfold zch; rw [if_neg (fun z => q4 z.1), if_pos ⟨q32, by omega⟩]
        refine z_eqv (iv1 := zch iv i t) ev.symm ?_
        obtain ⟨gI, gt, -, -, -, -, gCC, gG⟩ := hX.ch hi
        have gC := gCC i hi
        refine z_aload_n C dX9_act_78 rfl ?_
        refine z_getI C dX9_act_79 zf_X9_174 (zkc i) (by omega) ?_
        refine z_iconst (v := 2) C dX9_act_82 (by decide) ?_
        refine z_icmp_ne (tgt := 92) C dX9_act_83 (by decide) (fun q83 => ?_) (fun q83 => ?_)
        · refine zs_qvret C E dX9_act_92 ?_
          refine ⟨rfl, rfl, ?_⟩
          unfold zact
          rw [if_neg q83]
          exact zeq.rf _
        · have gs := gC.sg (iv := zch iv i t) gI.2 (by rw [q83]; decide)
          refine z_aload_n C dX9_act_86 rfl ?_
          refine z_aload_n C dX9_act_87 rfl ?_
          refine z_iload_n C dX9_act_88 rfl ?_
          refine zs_callVq C dX9_act_89 zm_X9_197 zyX9_obey (c_obey n (zch iv i t) _ i hi hn gI t gt ht2 gs (by rw [zt_nI gt (by omega)]; exact gC.2.2.2.2.2.2.2 (Or.inr (Or.inl q83))) m tl gG.1 gG.2.1 gG.2.2.1 gG.2.2.2.1 en gG.2.2.2.2.1 gG.2.2.2.2.2) zc_9 rfl zk_0 (by decide) (by decide) rfl rfl (Nat.le_of_ble_eq_true rfl) (by decide) (by decide) (fun v89 iv89 lw89 hq89 => ?_)
          obtain ⟨rfl, rfl, w89, hw89, rfl⟩ := hq89
          refine zs_qvret C E dX9_act_92 ?_
          refine ⟨rfl, rfl, ?_⟩
          unfold zact
          rw [if_pos q83]
          exact zeq.obf (fun q a b => hw89 q a b) i _ _
  · refine z_aload_n C dX9_act_7 rfl ?_
    refine z_getI C dX9_act_8 zf_X9_181 (zkc i) (by omega) ?_
    refine z_aload_n C dX9_act_11 rfl ?_
    refine z_getI C dX9_act_12 zf_X9_115 zk_0 (by decide) ?_
    refine zt_icmp_gt (tgt := 27) C dX9_act_15 rfl rfl (by decide) (fun q15 => ?_) (fun q15 => ?_)
    · refine z_aload_n C dX9_act_27 rfl ?_
      refine z_getI C dX9_act_28 zf_X9_174 (zkc i) (by omega) ?_
      refine z_iconst (v := 3) C dX9_act_31 (by decide) ?_
      refine z_icmp_ne (tgt := 54) C dX9_act_32 (by decide) (fun q32 => ?_) (fun q32 => ?_)
      · refine z_aload_n C dX9_act_54 rfl ?_
        refine z_getI C dX9_act_55 zf_X9_174 (zkc i) (by omega) ?_
        refine z_iconst (v := 1) C dX9_act_58 (by decide) ?_
        refine z_icmp_ne (tgt := 78) C dX9_act_59 (by decide) (fun q59 => ?_) (fun q59 => ?_)
        · have ev : zch iv i t = iv := by unfold zch; rw [if_neg (fun z => by have := z.2; omega), if_neg (fun z => q32 z.1), if_neg (fun z => q59 z.1)]
          refine z_eqv (iv1 := zch iv i t) ev.symm ?_
          obtain ⟨gI, gt, -, -, -, -, gCC, gG⟩ := hX.ch hi
          have gC := gCC i hi
          refine z_aload_n C dX9_act_78 rfl ?_
          refine z_getI C dX9_act_79 zf_X9_174 (zkc i) (by omega) ?_
          refine z_iconst (v := 2) C dX9_act_82 (by decide) ?_
          refine z_icmp_ne (tgt := 92) C dX9_act_83 (by decide) (fun q83 => ?_) (fun q83 => ?_)
          · refine zs_qvret C E dX9_act_92 ?_
            refine ⟨rfl, rfl, ?_⟩
            unfold zact
            rw [if_neg q83]
            exact zeq.rf _
          · have gs := gC.sg (iv := zch iv i t) gI.2 (by rw [q83]; decide)
            refine z_aload_n C dX9_act_86 rfl ?_
            refine z_aload_n C dX9_act_87 rfl ?_
            refine z_iload_n C dX9_act_88 rfl ?_
            refine zs_callVq C dX9_act_89 zm_X9_197 zyX9_obey (c_obey n (zch iv i t) _ i hi hn gI t gt ht2 gs (by rw [zt_nI gt (by omega)]; exact gC.2.2.2.2.2.2.2 (Or.inr (Or.inl q83))) m tl gG.1 gG.2.1 gG.2.2.1 gG.2.2.2.1 en gG.2.2.2.2.1 gG.2.2.2.2.2) zc_9 rfl zk_0 (by decide) (by decide) rfl rfl (Nat.le_of_ble_eq_true rfl) (by decide) (by decide) (fun v89 iv89 lw89 hq89 => ?_)
            obtain ⟨rfl, rfl, w89, hw89, rfl⟩ := hq89
            refine zs_qvret C E dX9_act_92 ?_
            refine ⟨rfl, rfl, ?_⟩
            unfold zact
            rw [if_pos q83]
            exact zeq.obf (fun q a b => hw89 q a b) i _ _
        · exact absurd (q4.symm.trans q59) (by decide)
      · exact absurd (q4.symm.trans q32) (by decide)
    · refine z_aload_n C dX9_act_18 rfl ?_
      refine z_aload_n C dX9_act_19 rfl ?_
      refine z_iload_n C dX9_act_20 rfl ?_
      refine zs_callVv C dX9_act_21 zm_X9_184 zyX9_setOut (c_setOut n iv _ i hi hn hI t ht ht2 hs) zc_9 rfl zk_0 (by decide) (by decide) rfl rfl (Nat.le_of_ble_eq_true rfl) (by decide) (by decide) ?_
      refine z_goto (tgt := 78) C dX9_act_24 (by decide) ?_
      have ev : zch iv i t = zset iv i t := if_pos ⟨q4, by omega⟩
      refine z_eqv (iv1 := zch iv i t) ev.symm ?_
      obtain ⟨gI, gt, -, -, -, -, gCC, gG⟩ := hX.ch hi
      have gC := gCC i hi
      refine z_aload_n C dX9_act_78 rfl ?_
      refine z_getI C dX9_act_79 zf_X9_174 (zkc i) (by omega) ?_
      refine z_iconst (v := 2) C dX9_act_82 (by decide) ?_
      refine z_icmp_ne (tgt := 92) C dX9_act_83 (by decide) (fun q83 => ?_) (fun q83 => ?_)
      · refine zs_qvret C E dX9_act_92 ?_
        refine ⟨rfl, rfl, ?_⟩
        unfold zact
        rw [if_neg q83]
        exact zeq.rf _
      · have gs := gC.sg (iv := zch iv i t) gI.2 (by rw [q83]; decide)
        refine z_aload_n C dX9_act_86 rfl ?_
        refine z_aload_n C dX9_act_87 rfl ?_
        refine z_iload_n C dX9_act_88 rfl ?_
        refine zs_callVq C dX9_act_89 zm_X9_197 zyX9_obey (c_obey n (zch iv i t) _ i hi hn gI t gt ht2 gs (by rw [zt_nI gt (by omega)]; exact gC.2.2.2.2.2.2.2 (Or.inr (Or.inl q83))) m tl gG.1 gG.2.1 gG.2.2.1 gG.2.2.2.1 en gG.2.2.2.2.1 gG.2.2.2.2.2) zc_9 rfl zk_0 (by decide) (by decide) rfl rfl (Nat.le_of_ble_eq_true rfl) (by decide) (by decide) (fun v89 iv89 lw89 hq89 => ?_)
        obtain ⟨rfl, rfl, w89, hw89, rfl⟩ := hq89
        refine zs_qvret C E dX9_act_92 ?_
        refine ⟨rfl, rfl, ?_⟩
        unfold zact
        rw [if_pos q83]
        exact zeq.obf (fun q a b => hw89 q a b) i _ _

/-- the first k coaches act -/
def zfold (v : zI) (t tl : Nat) : Nat → zI
  | 0 => v
  | k + 1 => if zfold v t tl k (91 + 3 * k) 5 = 4 then zfold v t tl k else zact (zfold v t tl k) k t tl
/-- how many of them become done -/
def zdn (v : zI) (t tl : Nat) : Nat → Int32
  | 0 => 0
  | k + 1 => if zfold v t tl k (91 + 3 * k) 5 = 4 then zdn v t tl k else zdn v t tl k + (if zact (zfold v t tl k) k t tl (91 + 3 * k) 5 = 4 then 1 else 0)
theorem zfold_s (v : zI) (t tl k : Nat) : zfold v t tl (k + 1) = if zfold v t tl k (91 + 3 * k) 5 = 4 then zfold v t tl k else zact (zfold v t tl k) k t tl := rfl
theorem zdn_s (v : zI) (t tl k : Nat) : zdn v t tl (k + 1) = if zfold v t tl k (91 + 3 * k) 5 = 4 then zdn v t tl k else zdn v t tl k + (if zact (zfold v t tl k) k t tl (91 + 3 * k) 5 = 4 then 1 else 0) := rfl
theorem zXI.fold {n t m tl : Nat} {en : Nat → Nat} {v : zI} (h : zXI n t m tl en v) : ∀ k, k ≤ n → zXI n t m tl en (zfold v t tl k)
  | 0, _ => h
  | k + 1, hk => by
    have ih := h.fold k (by omega)
    rw [zfold_s]
    split
    · exact ih
    · exact ih.act (by omega)
/-- what is seen beyond the ten names is never asked -/
theorem zopd_seen {f g : Nat → Int32} (h : ∀ j, j < 10 → f j = g j) (kd : Int32) : zopd f kd = zopd g kd := by
  unfold zopd
  split
  · rfl
  · split
    · next q => exact h _ (by have := zcl_int q.1; omega)
    · rfl
theorem zev_seen {f g : Nat → Int32} (h : ∀ j, j < 10 → f j = g j) (K : Nat → Int32) : ∀ (k i : Nat) (s : List Int32), zev f K i k s = zev g K i k s
  | 0, _, _ => rfl
  | k + 1, i, s => by
    have e : zit f (K i) s = zit g (K i) s := by
      unfold zit
      rw [zopd_seen h]
    rw [zev, zev, e]
    exact zev_seen h K k _ _
theorem zcho_seen {f g : Nat → Int32} (h : ∀ j, j < 10 → f j = g j) {K en ch : Nat → Int32} : ∀ (k l fr : Nat), zcho f K en ch l fr k = zcho g K en ch l fr k
  | 0, _, _ => rfl
  | k + 1, l, fr => by
    rw [zcho, zcho, zev_seen h, zcho_seen h k]
theorem zeq.best {u v : zI} (h : zeq u v) (i t : Nat) : zbest u i t = zbest v i t := by
  unfold zbest
  rw [h 9 (by decide) (by decide), h 8 (by decide) (by decide), h.co]
theorem zeq.ord {u v : zI} (h : zeq u v) (i t tl : Nat) : zord u i t tl = zord v i t tl := by
  have hf : zfrs u i t = zfrs v i t := by
    unfold zfrs
    rw [h.best, h 7 (by decide) (by decide), h 8 (by decide) (by decide)]
  have hl : zlook u i (zfrs u i t) 28 = zlook v i (zfrs v i t) 28 → zord0 u i t tl = zord0 v i t tl := by
    intro e
    unfold zord0
    rw [e, h 24 (by decide) (by decide), h 25 (by decide) (by decide), h 26 (by decide) (by decide)]
  have h0 : zord0 u i t tl = zord0 v i t tl := by
    unfold zord0
    rw [h 24 (by decide) (by decide), h 25 (by decide) (by decide), h 26 (by decide) (by decide)]
    exact zcho_seen (fun j hj => by
      unfold zlook
      rw [hf, h.sg, h.sv, h.co, h 0 (by decide) (by decide), h 2 (by decide) (by decide), h 4 (by decide) (by decide)]
      simp only [zu_s]
      match j, hj with
      | 0, _ => rfl
      | 1, _ => rfl
      | 2, _ => rfl
      | 3, _ => rfl
      | 4, _ => rfl
      | 5, _ => rfl
      | 6, _ => rfl
      | 7, _ => rfl
      | 8, _ => rfl
      | 9, _ => rfl) _ _ _
  unfold zord
  rw [h0, hf, h.sv]
theorem zeq.set {u v : zI} (h : zeq u v) (i t : Nat) : zeq (zset u i t) (zset v i t) := by
  unfold zset
  rw [h.best]
  split
  · rw [h.co]; exact h.zu _ _ rfl
  · refine zeq.dep ?_ i 0
    unfold zharn
    exact ((h.zu _ _ rfl).zu _ _ rfl).zu _ _ rfl
theorem zaddp_eq {u v : zI} (h : zeq u v) (i : Nat) : ∀ m, zeq (zaddp u (91 + 3 * i) m) (zaddp v (91 + 3 * i) m)
  | 0 => h
  | m + 1 => by
    have ih := zaddp_eq h i m
    unfold zaddp
    exact ih.zu _ _ (by rw [ih (91 + 3 * i + 1) (by omega) (by omega), h (91 + 3 * i + 2) (by omega) (by omega)])
theorem zeq.arr {u v : zI} (h : zeq u v) (i a d : Nat) : zeq (zarr u i a d) (zarr v i a d) := by
  have h1 : zeq (zar1 u i) (zar1 v i) := by
    unfold zar1
    rw [h.co]
    exact zaddp_eq ((h.zu _ _ rfl).zu _ _ rfl) i 5
  have ht : ztoldx u i a d = ztoldx v i a d := ztoldx_c (h 2 (by decide) (by decide)) (h 3 (by decide) (by decide)) (by rw [h.co]) (by rw [h.co])
  have h2 : zeq (zar2 u i a d) (zar2 v i a d) := by
    unfold zar2
    rw [ht, h 0 (by decide) (by decide)]
    exact (h1.zu _ _ rfl).zu _ _ rfl
  unfold zarr
  rw [h.co]
  split
  · exact (((h2.zu _ _ rfl).zu _ _ rfl).zu _ _ rfl).zu _ _ rfl
  · exact h2.zu _ _ rfl
theorem zeq.ch {u v : zI} (h : zeq u v) (i t : Nat) : zeq (zch u i t) (zch v i t) := by
  unfold zch
  rw [h.co, h 0 (by decide) (by decide)]
  split
  · exact h.set i t
  · split
    · exact h.zu _ _ rfl
    · split
      · exact h.arr i _ _
      · exact h
theorem zeq.act {u v : zI} (h : zeq u v) (i t tl : Nat) : zeq (zact u i t tl) (zact v i t tl) := by
  have h1 := h.ch i t
  unfold zact
  rw [h1.co, h1.best, h1.ord]
  split
  · exact h1.obf i _ _
  · exact h1

theorem zfold_0 (v : zI) (t tl : Nat) : ∀ k, zfold v t tl k 0 = v 0
  | 0 => rfl
  | k + 1 => by
    rw [zfold_s]
    split
    · exact zfold_0 v t tl k
    · rw [zact_o _ _ _ _ (by decide) (by decide) (by decide) (by omega) (by omega) (by omega), zfold_0 v t tl k]

theorem z_drop3 {a b c d : Option Value} : ∀ (k : Nat) (v : Value), [a, b, c, none][k]? = some (some v) → [a, b, c, d][k]? = some (some v) := by
  intro k v hv
  match k, hv with
  | 0, hv => exact hv
  | 1, hv => exact hv
  | 2, hv => exact hv
  | 3, hv => simp at hv
  | k + 4, hv => simp at hv

set_option maxHeartbeats 1000000 in
set_option maxRecDepth 4000 in
theorem lp_minute (n : Nat) (v0 : zI) (lw : zG) (t m tl : Nat) (en : Nat → Nat) (hX : zXI n t m tl en v0) {X : zX} (C : zC X cX9_passMinute 4 RX9 (some .int) "passMinute" 5 0 0) (E : zEnd X (91 + 3 * n) 0 0 (zQ n (fun v iv2 lw2 => v = some (.int (zdn v0 t tl n)) ∧ lw2 = lw ∧ zeq iv2 (zu (zfold v0 t tl n) 0 10 (v0 0 10 + 1))))) : ∀ (k : Nat) (i : Nat) (cur : zI), i + k = n → zeq cur (zfold v0 t tl i) → zJs X n 4 15 [some (.ref 0), some (.int (zdn v0 t tl i)), some (.int (nI i)), none] [] cur lw := by
  intro k
  induction k with
  | zero =>
    intro i cur hk hc
    have hY := hX.fold i (by omega)
    have hnn := hX.2.2.2.2.2.1
    have hw0 : zfold v0 t tl i 0 = v0 0 := zfold_0 v0 t tl i
    refine z_iload_n C dX9_passMinute_15 rfl ?_
    refine z_aload_n C dX9_passMinute_16 rfl ?_
    refine z_getI C dX9_passMinute_17 zf_X9_76 zk_0 (by decide) ?_
    refine zt_icmp_ge (tgt := 69) C dX9_passMinute_20 (nI_toInt (by omega)) (zt_nI (by rw [hc 0 (by decide) (by decide)]; exact hY.2.2.2.2.1) (by omega)) (by decide) (fun q20 => ?_) (fun q20 => ?_)
    · refine z_aload_n C dX9_passMinute_69 rfl ?_
      refine z_dup C dX9_passMinute_70 rfl ?_
      refine z_getI C dX9_passMinute_71 zf_X9_115 zk_0 (by decide) ?_
      refine z_iconst (v := 1) C dX9_passMinute_74 (by decide) ?_
      refine z_iadd C dX9_passMinute_75 ?_
      refine z_putI C dX9_passMinute_76 zf_X9_115 zk_0 (by decide) ?_
      refine z_iload_n C dX9_passMinute_79 rfl ?_
      refine zs_qiret C E dX9_passMinute_80 rfl ?_
      refine ⟨by rw [show i = n by omega], rfl, ?_⟩
      have ei : i = n := by omega
      subst ei
      rw [hc 0 (by decide) (by decide), hw0]
      exact hc.zu 0 10 rfl
    · exfalso; omega
  | succ k ih =>
    intro i cur hk hc
    have hY := hX.fold i (by omega)
    have hnn := hX.2.2.2.2.2.1
    have hw0 : zfold v0 t tl i 0 = v0 0 := zfold_0 v0 t tl i
    refine z_iload_n C dX9_passMinute_15 rfl ?_
    refine z_aload_n C dX9_passMinute_16 rfl ?_
    refine z_getI C dX9_passMinute_17 zf_X9_76 zk_0 (by decide) ?_
    refine zt_icmp_ge (tgt := 69) C dX9_passMinute_20 (nI_toInt (by omega)) (zt_nI (by rw [hc 0 (by decide) (by decide)]; exact hY.2.2.2.2.1) (by omega)) (by decide) (fun q20 => ?_) (fun q20 => ?_)
    · exfalso; omega
    · have hi : i < n := by omega
      have hn : n ≤ 8 := hnn
      refine z_aload_n C dX9_passMinute_23 rfl ?_
      refine z_iload_n C dX9_passMinute_24 rfl ?_
      refine zs_callVR C dX9_passMinute_25 zm_X9_122 zyX9_coachOf (c_coachOf1 n cur _ (by rw [hc 0 (by decide) (by decide)]; exact hY.2.2.2.2.1) hY.2.2.2.2.2.1 i hi) zc_9 rfl zk_0 (by decide) (by decide) rfl rfl (Nat.le_of_ble_eq_true rfl) (by decide) (by decide) ?_
      refine z_astore_n (lv' := [some (.ref 0), some (.int _), some (.int _), some (.ref (91 + 3 * i))]) C dX9_passMinute_28 (by decide) rfl ?_
      refine z_aload_n C dX9_passMinute_29 rfl ?_
      refine z_ifnull C dX9_passMinute_30 ?_
      refine z_aload_n C dX9_passMinute_33 rfl ?_
      refine z_getI C dX9_passMinute_34 zf_X9_174 (zkc i) (by omega) ?_
      refine z_iconst (v := 4) C dX9_passMinute_37 (by decide) ?_
      refine z_icmp_eq (tgt := 63) C dX9_passMinute_38 (by decide) (fun q38 => ?_) (fun q38 => ?_)
      · refine z_iinc (y := 1) (lv' := [some (.ref 0), some (.int _), some (.int _), some (.ref (91 + 3 * i))]) C dX9_passMinute_63 rfl (by decide) (by decide) rfl ?_
        refine z_goto (tgt := 15) C dX9_passMinute_66 (by decide) ?_
        refine z_sub z_drop3 ?_
        rw [nI_1 i]
        rw [hc.co i] at q38
        have e1 : zfold v0 t tl (i + 1) = zfold v0 t tl i := by rw [zfold_s, if_pos q38]
        have e2 : zdn v0 t tl (i + 1) = zdn v0 t tl i := by rw [zdn_s, if_pos q38]
        rw [← e2]
        exact ih (i + 1) cur (by omega) (by rw [e1]; exact hc)
      · refine z_aload_n C dX9_passMinute_41 rfl ?_
        refine z_aload_n C dX9_passMinute_42 rfl ?_
        refine z_iload_n C dX9_passMinute_43 rfl ?_
        refine zs_callVq C dX9_passMinute_44 zm_X9_177 zyX9_act (c_act n cur _ t m tl en (hY.eq hc) i hi q38) zc_9 rfl zk_0 (by decide) (by decide) rfl rfl (Nat.le_of_ble_eq_true rfl) (by decide) (by decide) (fun v44 iv44 lw44 hq44 => ?_)
        obtain ⟨rfl, rfl, he44⟩ := hq44
        refine z_iload_n C dX9_passMinute_47 rfl ?_
        refine z_aload_n C dX9_passMinute_48 rfl ?_
        refine z_getI C dX9_passMinute_49 zf_X9_174 (zkc i) (by omega) ?_
        refine z_iconst (v := 4) C dX9_passMinute_52 (by decide) ?_
        refine z_icmp_ne (tgt := 60) C dX9_passMinute_53 (by decide) (fun q53 => ?_) (fun q53 => ?_)
        · refine z_iconst (v := 0) C dX9_passMinute_60 (by decide) ?_
          refine z_iadd C dX9_passMinute_61 ?_
          refine z_istore_n (lv' := [some (.ref 0), some (.int _), some (.int _), some (.ref (91 + 3 * i))]) C dX9_passMinute_62 (by decide) rfl ?_
          refine z_iinc (y := 1) (lv' := [some (.ref 0), some (.int _), some (.int _), some (.ref (91 + 3 * i))]) C dX9_passMinute_63 rfl (by decide) (by decide) rfl ?_
          refine z_goto (tgt := 15) C dX9_passMinute_66 (by decide) ?_
          refine z_sub z_drop3 ?_
          rw [nI_1 i]
          rw [hc.co i] at q38
          have ha := hc.act i t tl
          have hb := he44.tr ha
          rw [hb.co i] at q53
          have e1 : zfold v0 t tl (i + 1) = zact (zfold v0 t tl i) i t tl := by rw [zfold_s, if_neg q38]
          have e2 : zdn v0 t tl (i + 1) = zdn v0 t tl i + 0 := by rw [zdn_s, if_neg q38, if_neg q53]
          rw [← e2]
          exact ih (i + 1) iv44 (by omega) (by rw [e1]; exact hb)
        · refine z_iconst (v := 1) C dX9_passMinute_56 (by decide) ?_
          refine z_goto (tgt := 61) C dX9_passMinute_57 (by decide) ?_
          refine z_iadd C dX9_passMinute_61 ?_
          refine z_istore_n (lv' := [some (.ref 0), some (.int _), some (.int _), some (.ref (91 + 3 * i))]) C dX9_passMinute_62 (by decide) rfl ?_
          refine z_iinc (y := 1) (lv' := [some (.ref 0), some (.int _), some (.int _), some (.ref (91 + 3 * i))]) C dX9_passMinute_63 rfl (by decide) (by decide) rfl ?_
          refine z_goto (tgt := 15) C dX9_passMinute_66 (by decide) ?_
          refine z_sub z_drop3 ?_
          rw [nI_1 i]
          rw [hc.co i] at q38
          have ha := hc.act i t tl
          have hb := he44.tr ha
          rw [hb.co i] at q53
          have e1 : zfold v0 t tl (i + 1) = zact (zfold v0 t tl i) i t tl := by rw [zfold_s, if_neg q38]
          have e2 : zdn v0 t tl (i + 1) = zdn v0 t tl i + 1 := by rw [zdn_s, if_neg q38, if_pos q53]
          rw [← e2]
          exact ih (i + 1) iv44 (by omega) (by rw [e1]; exact hb)

theorem zXI.rest {n t m tl : Nat} {en : Nat → Nat} {iv : zI} (h : zXI n t m tl en iv) : zXI n t m tl en (zrest iv t) := by
  obtain ⟨a1, a2, a3, a4, a5, a6, a7, a8⟩ := h
  have o : ∀ q, q ≠ 6 → q ≠ 8 → zrest iv t q = iv q := fun q h1 h2 => zrest_o iv h1 h2 t
  refine ⟨by rw [o 1 (by decide) (by decide)]; exact a1, by rw [o 7 (by decide) (by decide)]; exact a2, a3, by rw [o 1 (by decide) (by decide), o 9 (by decide) (by decide)]; exact a4, by rw [o 0 (by decide) (by decide)]; exact a5, a6, fun i hi => ?_, a8.c (o 23 (by decide) (by decide)) (o 24 (by decide) (by decide))⟩
  rw [o 1 (by decide) (by decide), o (91 + 3 * i) (by omega) (by omega)]
  exact a7 i hi
/-- a minute of the class -/
def zminu (iv : zI) (n t tl : Nat) : zI := zu (zfold (zrest iv t) t tl n) 0 10 (zrest iv t 0 10 + 1)

set_option maxRecDepth 4000 in
theorem c_minute (n : Nat) (iv : zI) (lw : zG) (t m tl : Nat) (en : Nat → Nat) (hX : zXI n t m tl en iv) : zMs yX9_passMinute cX9_passMinute 4 (some .int) 5 [.ref 0] n iv lw (fun v iv2 lw2 => v = some (.int (zdn (zrest iv t) t tl n)) ∧ lw2 = lw ∧ zeq iv2 (zminu iv n t tl)) := by
  refine zM.of (by decide) (Nat.le_of_ble_eq_true rfl) (fun X C E => ?_)
  change zJs X n 4 0 [some (.ref 0), none, none, none] [] iv lw
  refine z_aload_n C dX9_passMinute_0 rfl ?_
  refine zs_getR C dX9_passMinute_1 zf_X9_19 zk_0 (by decide) (zr_0_1 n) ?_
  refine z_aload_n C dX9_passMinute_4 rfl ?_
  refine zs_getR C dX9_passMinute_5 zf_X9_10 zk_0 (by decide) (zr_0_0 n) ?_
  refine zs_callVv C dX9_passMinute_8 zm_X9_170 zyX7_rest (c_rest n iv _ hX.1 t hX.2.1 hX.2.2.1 hX.2.2.2.1) zc_7 rfl zk_7 (by decide) (by decide) rfl rfl (Nat.le_of_ble_eq_true rfl) (by decide) (by decide) ?_
  refine z_iconst (v := 0) C dX9_passMinute_11 (by decide) ?_
  refine z_istore_n (lv' := [some (.ref 0), some (.int _), none, none]) C dX9_passMinute_12 (by decide) rfl ?_
  refine z_iconst (v := 0) C dX9_passMinute_13 (by decide) ?_
  refine z_istore_n (lv' := [some (.ref 0), some (.int _), some (.int _), none]) C dX9_passMinute_14 (by decide) rfl ?_
  exact lp_minute n (zrest iv t) lw t m tl en hX.rest (zC_le (by decide) C) E n 0 _ (by omega) (zeq.rf _)

theorem zXI.minute {n t m tl : Nat} {en : Nat → Nat} {iv : zI} (h : zXI n t m tl en iv) : zXI n t m tl en (zminu iv n t tl) := by
  obtain ⟨a1, a2, a3, a4, a5, a6, a7, a8⟩ := h.rest.fold n (Nat.le_refl _)
  unfold zminu
  have o : ∀ q, q ≠ 0 → zu (zfold (zrest iv t) t tl n) 0 10 (zrest iv t 0 10 + 1) q = zfold (zrest iv t) t tl n q := fun q hq => zu_n _ _ _ hq
  refine ⟨by rw [o 1 (by decide)]; exact a1, by rw [o 7 (by decide)]; exact a2, a3, by rw [o 1 (by decide), o 9 (by decide)]; exact a4, by rw [zu_s, pk_un (by decide)]; exact a5, a6, fun i hi => ?_, a8.c (o 23 (by decide)) (o 24 (by decide))⟩
  rw [o 1 (by decide), o (91 + 3 * i) (by omega)]
  exact a7 i hi
theorem zeq.rs {u v : zI} (h : zeq u v) : ∀ m, zeq (zrest u m) (zrest v m)
  | 0 => h
  | m + 1 => by
    have ih := h.rs m
    unfold zrest zrs
    rw [ih 9 (by decide) (by decide), ih 8 (by decide) (by decide), ih 6 (by decide) (by decide)]
    split
    · split
      · exact (ih.zu _ _ rfl).zu _ _ rfl
      · exact ih.zu _ _ rfl
    · exact ih
theorem zeq.fold {u v : zI} (h : zeq u v) (t tl : Nat) : ∀ k, zeq (zfold u t tl k) (zfold v t tl k)
  | 0 => h
  | k + 1 => by
    have ih := h.fold t tl k
    rw [zfold_s, zfold_s, ih.co k]
    split
    · exact ih
    · exact ih.act k t tl
theorem zeq.dn {u v : zI} (h : zeq u v) (t tl : Nat) : ∀ k, zdn u t tl k = zdn v t tl k
  | 0 => rfl
  | k + 1 => by
    have ih := h.fold t tl k
    rw [zdn_s, zdn_s, ih.co k, h.dn t tl k, (ih.act k t tl).co k]
theorem zeq.minu {u v : zI} (h : zeq u v) (n t tl : Nat) : zeq (zminu u n t tl) (zminu v n t tl) := by
  unfold zminu
  exact ((h.rs t).fold t tl n).zu _ _ (by rw [h.rs t 0 (by decide) (by decide)])
def zmins (iv : zI) (n t tl : Nat) : Nat → zI
  | 0 => iv
  | k + 1 => zminu (zmins iv n t tl k) n t tl
def zdns (iv : zI) (n t tl : Nat) : Nat → Int32
  | 0 => 0
  | k + 1 => zdns iv n t tl k + zdn (zrest (zmins iv n t tl k) t) t tl n
theorem zXI.minutes {n t m tl : Nat} {en : Nat → Nat} {iv : zI} (h : zXI n t m tl en iv) : ∀ k, zXI n t m tl en (zmins iv n t tl k)
  | 0 => h
  | k + 1 => (h.minutes k).minute

set_option maxRecDepth 4000 in
theorem lp_run (n : Nat) (iv : zI) (lw : zG) (t m tl : Nat) (en : Nat → Nat) (hX : zXI n t m tl en iv) (mm : Nat) (hm : mm ≤ 1500) {X : zX} (C : zC X cX9_run 4 RX9 (some .int) "run" 6 0 0) (E : zEnd X (91 + 3 * n) 0 0 (zQ n (fun v iv2 lw2 => v = some (.int (zdns iv n t tl mm)) ∧ lw2 = lw ∧ zeq iv2 (zmins iv n t tl mm)))) : ∀ (k : Nat) (i : Nat) (cur : zI), i + k = mm → zeq cur (zmins iv n t tl i) → zJs X n 4 17 [some (.ref 0), some (.int (nI mm)), some (.int (zdns iv n t tl i)), some (.int (nI i))] [] cur lw := by
  intro k
  induction k with
  | zero =>
    intro i cur hk hc
    refine z_iload_n C dX9_run_17 rfl ?_
    refine z_iload_n C dX9_run_18 rfl ?_
    refine zt_icmp_ge (tgt := 35) C dX9_run_19 (nI_toInt (by omega)) (nI_toInt (by omega)) (by decide) (fun q19 => ?_) (fun q19 => ?_)
    · refine z_iload_n C dX9_run_35 rfl ?_
      refine zs_qiret C E dX9_run_36 rfl ?_
      exact ⟨by rw [show i = mm by omega], rfl, by rw [← show i = mm by omega]; exact hc⟩
    · exfalso; omega
  | succ k ih =>
    intro i cur hk hc
    refine z_iload_n C dX9_run_17 rfl ?_
    refine z_iload_n C dX9_run_18 rfl ?_
    refine zt_icmp_ge (tgt := 35) C dX9_run_19 (nI_toInt (by omega)) (nI_toInt (by omega)) (by decide) (fun q19 => ?_) (fun q19 => ?_)
    · exfalso; omega
    · refine z_iload_n C dX9_run_22 rfl ?_
      refine z_aload_n C dX9_run_23 rfl ?_
      refine zs_callVq C dX9_run_24 zm_X9_166 zyX9_passMinute (c_minute n cur _ t m tl en ((hX.minutes i).eq hc)) zc_9 rfl zk_0 (by decide) (by decide) rfl rfl (Nat.le_of_ble_eq_true rfl) (by decide) (by decide) (fun v24 iv24 lw24 hq24 => ?_)
      obtain ⟨rfl, rfl, he24⟩ := hq24
      refine z_iadd C dX9_run_27 ?_
      refine z_istore_n (lv' := [some (.ref 0), some (.int _), some (.int _), some (.int _)]) C dX9_run_28 (by decide) rfl ?_
      refine z_iinc (y := 1) (lv' := [some (.ref 0), some (.int _), some (.int _), some (.int _)]) C dX9_run_29 rfl (by decide) (by decide) rfl ?_
      refine z_goto (tgt := 17) C dX9_run_32 (by decide) ?_
      rw [nI_1 i]
      have e2 : zdns iv n t tl (i + 1) = zdns iv n t tl i + zdn (zrest cur t) t tl n := by
        show zdns iv n t tl i + zdn (zrest (zmins iv n t tl i) t) t tl n = _
        rw [(hc.rs t).dn]
      rw [← e2]
      exact ih (i + 1) iv24 (by omega) (he24.tr (hc.minu n t tl))

set_option maxRecDepth 4000 in
theorem x_run1 (n : Nat) (iv : zI) (lw : zG) (t m tl : Nat) (en : Nat → Nat) (hX : zXI n t m tl en iv) (mm : Nat) (hm : mm ≤ 1500) : zMs yX9_run cX9_run 4 (some .int) 6 [.ref 0, .int (nI mm)] n iv lw (fun v iv2 lw2 => v = some (.int (zdns iv n t tl mm)) ∧ lw2 = lw ∧ zeq iv2 (zmins iv n t tl mm)) := by
  refine zM.of (by decide) (Nat.le_of_ble_eq_true rfl) (fun X C E => ?_)
  change zJs X n 4 0 [some (.ref 0), some (.int (nI mm)), none, none] [] iv lw
  refine z_iload_n C dX9_run_0 rfl ?_
  refine zt_if_lt (tgt := 11) C dX9_run_1 (nI_toInt (by omega)) (by decide) (fun q1 => ?_) (fun q1 => ?_)
  · exfalso; omega
  · refine z_iload_n C dX9_run_4 rfl ?_
    refine z_sipush (v := 1500) C dX9_run_5 (by decide) ?_
    refine zt_icmp_le (tgt := 13) C dX9_run_8 (nI_toInt (by omega)) (show (1500 : Int32).toInt = 1500 by decide) (by decide) (fun q8 => ?_) (fun q8 => ?_)
    · refine z_iconst (v := 0) C dX9_run_13 (by decide) ?_
      refine z_istore_n (lv' := [some (.ref 0), some (.int _), some (.int _), none]) C dX9_run_14 (by decide) rfl ?_
      refine z_iconst (v := 0) C dX9_run_15 (by decide) ?_
      refine z_istore_n (lv' := [some (.ref 0), some (.int _), some (.int _), some (.int _)]) C dX9_run_16 (by decide) rfl ?_
      exact lp_run n iv lw t m tl en hX mm hm (zC_le (by decide) C) E mm 0 iv (by omega) (zeq.rf _)
    · exfalso; omega

set_option maxRecDepth 4000 in
theorem x_run0 (n : Nat) (iv : zI) (lw : zG) (mm : Int32) (hm : ¬ (0 ≤ mm.toInt ∧ mm.toInt ≤ 1500)) : zMi yX9_run cX9_run 4 (some .int) 6 [.ref 0, .int mm] n iv lw (-1) iv lw := by
  refine zM.of (by decide) (Nat.le_of_ble_eq_true rfl) (fun X C E => ?_)
  change zJs X n 4 0 [some (.ref 0), some (.int mm), none, none] [] iv lw
  refine z_iload_n C dX9_run_0 rfl ?_
  refine zt_if_lt (tgt := 11) C dX9_run_1 rfl (by decide) (fun q1 => ?_) (fun q1 => ?_)
  · refine z_iconst (v := (-1)) C dX9_run_11 (by decide) ?_
    refine zs_iret C E dX9_run_12 rfl ?_ ?_ ?_
    · rfl
    · rfl
    · rfl
  · refine z_iload_n C dX9_run_4 rfl ?_
    refine z_sipush (v := 1500) C dX9_run_5 (by decide) ?_
    refine zt_icmp_le (tgt := 13) C dX9_run_8 rfl (show (1500 : Int32).toInt = 1500 by decide) (by decide) (fun q8 => ?_) (fun q8 => ?_)
    · exfalso; omega
    · refine z_iconst (v := (-1)) C dX9_run_11 (by decide) ?_
      refine zs_iret C E dX9_run_12 rfl ?_ ?_ ?_
      · rfl
      · rfl
      · rfl
