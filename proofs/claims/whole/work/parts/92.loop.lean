set_option maxHeartbeats 2000000 in
set_option maxRecDepth 8000 in
theorem law_loop (X : zX) {nm : String} (L : Nat) (xs : Nat → Int32) (C : zC X cL_law 4 RL (some .boolean) nm 100 600000 7302250) (B : zLw X L xs) (hL : L ≤ 3072) : ∀ (k n c : Nat) (iv : zI) (lw : zG), L < 6 * (c + k) + 6 → c ≤ 512 → zRw n c iv → zJ X 0 4 18 [some (.ref 1030), some (.ref 0), some (.ref 41), some (.int (nI (6 * c)))] [] (91 + 3 * n) skd iv (srf n) lw (100 + 3 * c) (10000 + 25 * c) := by
  intro k
  induction k with
  | zero =>
    intro n c iv lw hk hc hR
    refine z_iload_n C dL_law_18 rfl ?_
    refine z_aload_n C dL_law_19 rfl ?_
    refine z_slen C B dL_law_20 ?_
    refine z_bipush (v := 6) C dL_law_21 (by decide) ?_
    refine z_isub C dL_law_23 ?_
    refine zt_icmp_gt (tgt := 1015) (a := (6 * c : Nat)) (b := (L : Int) - 6) C dL_law_24 (nI_toInt (by omega)) (by rw [zt_sub (by rw [nI_toInt (by omega), show Int32.toInt 6 = 6 by decide]; omega) (by rw [nI_toInt (by omega), show Int32.toInt 6 = 6 by decide]; omega), nI_toInt (by omega), show Int32.toInt 6 = 6 by decide]) (by decide) (fun q => ?_) (fun q => ?_)
    · refine z_iconst (v := 1) C dL_law_1015 (by decide) ?_
      exact z_lret C B dL_law_1016 (by omega) (by omega)
    · exfalso; omega
  | succ k ih =>
    intro n c iv lw hk hc hR
    refine z_iload_n C dL_law_18 rfl ?_
    refine z_aload_n C dL_law_19 rfl ?_
    refine z_slen C B dL_law_20 ?_
    refine z_bipush (v := 6) C dL_law_21 (by decide) ?_
    refine z_isub C dL_law_23 ?_
    refine zt_icmp_gt (tgt := 1015) (a := (6 * c : Nat)) (b := (L : Int) - 6) C dL_law_24 (nI_toInt (by omega)) (by rw [zt_sub (by rw [nI_toInt (by omega), show Int32.toInt 6 = 6 by decide]; omega) (by rw [nI_toInt (by omega), show Int32.toInt 6 = 6 by decide]; omega), nI_toInt (by omega), show Int32.toInt 6 = 6 by decide]) (by decide) (fun q => ?_) (fun q => ?_)
    · refine z_iconst (v := 1) C dL_law_1015 (by decide) ?_
      exact z_lret C B dL_law_1016 (by omega) (by omega)
    · have hl : 6 * c + 5 < L := by omega
      have kk : ∀ (n2 : Nat) (iv2 : zI) (lw2 : zG), zRw n2 (c + 1) iv2 → zJ X 0 4 1009 [some (.ref 1030), some (.ref 0), some (.ref 41), some (.int (nI (6 * c)))] [] (91 + 3 * n2) skd iv2 (srf n2) lw2 (103 + 3 * c) (10025 + 25 * c) := fun n2 iv2 lw2 hR2 => by
        refine z_iinc (y := 6) (lv' := [some (.ref 1030), some (.ref 0), some (.ref 41), some (.int _)]) C dL_law_1009 rfl (by decide) (by decide) rfl ?_
        refine z_goto (tgt := 18) C dL_law_1012 (by decide) ?_
        have e := ih n2 (c + 1) iv2 lw2 (by omega) (by omega) hR2
        rw [show 6 * (c + 1) = 6 * c + 6 by omega, ← zad6 c 6, show 100 + 3 * (c + 1) = 103 + 3 * c by omega, show 10000 + 25 * (c + 1) = 10025 + 25 * c by omega] at e
        exact e
      refine z_aload_n C dL_law_27 rfl ?_
      refine z_iload_n C dL_law_28 rfl ?_
      refine z_sld C B dL_law_29 (vp_in_nI (by omega) (by omega)) ?_
      refine z_bipush (v := 31) C dL_law_30 (by decide) ?_
      refine z_iand C dL_law_32 ?_
      generalize xs (nI (6 * c)).toNatClampNeg &&& 31 = x
      by_cases qs0 : x = 0
      · refine z_tabIn (tgt := 148) C dL_law_33 (by rw [qs0]; decide) (by rw [qs0]; decide) (by rw [qs0]; rfl) (by decide) ?_
        exact lc_stage X L xs n c iv lw C B hl hL hR kk
      by_cases qs1 : x = 1
      · refine z_tabIn (tgt := 191) C dL_law_33 (by rw [qs1]; decide) (by rw [qs1]; decide) (by rw [qs1]; rfl) (by decide) ?_
        exact lc_first X L xs n c iv lw C B hl hL hR kk
      by_cases qs2 : x = 2
      · refine z_tabIn (tgt := 234) C dL_law_33 (by rw [qs2]; decide) (by rw [qs2]; decide) (by rw [qs2]; rfl) (by decide) ?_
        exact lc_mud X L xs n c iv lw C B hl hL hR kk
      by_cases qs3 : x = 3
      · refine z_tabIn (tgt := 267) C dL_law_33 (by rw [qs3]; decide) (by rw [qs3]; decide) (by rw [qs3]; rfl) (by decide) ?_
        exact lc_oats X L xs n c iv lw C B hl hL hR kk
      by_cases qs4 : x = 4
      · refine z_tabIn (tgt := 300) C dL_law_33 (by rw [qs4]; decide) (by rw [qs4]; decide) (by rw [qs4]; rfl) (by decide) ?_
        exact lc_team X L xs n c iv lw C B hl hL hR kk
      by_cases qs5 : x = 5
      · refine z_tabIn (tgt := 333) C dL_law_33 (by rw [qs5]; decide) (by rw [qs5]; decide) (by rw [qs5]; rfl) (by decide) ?_
        exact lc_coach X L xs n c iv lw C B hl hL hR kk
      by_cases qs6 : x = 6
      · refine z_tabIn (tgt := 396) C dL_law_33 (by rw [qs6]; decide) (by rw [qs6]; decide) (by rw [qs6]; rfl) (by decide) ?_
        exact lc_feed X L xs n c iv lw C B hl hL hR kk
      by_cases qs7 : x = 7
      · refine z_tabIn (tgt := 459) C dL_law_33 (by rw [qs7]; decide) (by rw [qs7]; decide) (by rw [qs7]; rfl) (by decide) ?_
        exact lc_end X L xs n c iv lw C B hl hL hR kk
      by_cases qs8 : x = 8
      · refine z_tabIn (tgt := 482) C dL_law_33 (by rw [qs8]; decide) (by rw [qs8]; decide) (by rw [qs8]; rfl) (by decide) ?_
        exact lc_orders X L xs n c iv lw C B hl hL hR kk
      by_cases qs9 : x = 9
      · refine z_tabIn (tgt := 495) C dL_law_33 (by rw [qs9]; decide) (by rw [qs9]; decide) (by rw [qs9]; rfl) (by decide) ?_
        exact lc_fault X L xs n c iv lw C B hl hL hR kk
      by_cases qs10 : x = 10
      · refine z_tabIn (tgt := 518) C dL_law_33 (by rw [qs10]; decide) (by rw [qs10]; decide) (by rw [qs10]; rfl) (by decide) ?_
        exact lc_run X L xs n c iv lw C B hl hL hR kk
      by_cases qs11 : x = 11
      · refine z_tabIn (tgt := 541) C dL_law_33 (by rw [qs11]; decide) (by rw [qs11]; decide) (by rw [qs11]; rfl) (by decide) ?_
        exact lc_where X L xs n c iv lw C B hl hL hR kk
      by_cases qs12 : x = 12
      · refine z_tabIn (tgt := 574) C dL_law_33 (by rw [qs12]; decide) (by rw [qs12]; decide) (by rw [qs12]; rfl) (by decide) ?_
        exact lc_part X L xs n c iv lw C B hl hL hR kk
      by_cases qs13 : x = 13
      · refine z_tabIn (tgt := 607) C dL_law_33 (by rw [qs13]; decide) (by rw [qs13]; decide) (by rw [qs13]; rfl) (by decide) ?_
        exact lc_told X L xs n c iv lw C B hl hL hR kk
      by_cases qs14 : x = 14
      · refine z_tabIn (tgt := 640) C dL_law_33 (by rw [qs14]; decide) (by rw [qs14]; decide) (by rw [qs14]; rfl) (by decide) ?_
        exact lc_horses X L xs n c iv lw C B hl hL hR kk
      by_cases qs15 : x = 15
      · refine z_tabIn (tgt := 673) C dL_law_33 (by rw [qs15]; decide) (by rw [qs15]; decide) (by rw [qs15]; rfl) (by decide) ?_
        exact lc_trip X L xs n c iv lw C B hl hL hR kk
      by_cases qs16 : x = 16
      · refine z_tabIn (tgt := 732) C dL_law_33 (by rw [qs16]; decide) (by rw [qs16]; decide) (by rw [qs16]; rfl) (by decide) ?_
        exact lc_clear X L xs n c iv lw C B hl hL hR kk
      by_cases qs17 : x = 17
      · refine z_tabIn (tgt := 745) C dL_law_33 (by rw [qs17]; decide) (by rw [qs17]; decide) (by rw [qs17]; rfl) (by decide) ?_
        exact lc_behind X L xs n c iv lw C B hl hL hR kk
      by_cases qs18 : x = 18
      · refine z_tabIn (tgt := 788) C dL_law_33 (by rw [qs18]; decide) (by rw [qs18]; decide) (by rw [qs18]; rfl) (by decide) ?_
        exact lc_fewest X L xs n c iv lw C B hl hL hR kk
      by_cases qs19 : x = 19
      · refine z_tabIn (tgt := 811) C dL_law_33 (by rw [qs19]; decide) (by rw [qs19]; decide) (by rw [qs19]; rfl) (by decide) ?_
        exact lc_book X L xs n c iv lw C B hl hL hR kk
      by_cases qs20 : x = 20
      · refine z_tabIn (tgt := 854) C dL_law_33 (by rw [qs20]; decide) (by rw [qs20]; decide) (by rw [qs20]; rfl) (by decide) ?_
        exact lc_untell X L xs n c iv lw C B hl hL hR kk
      by_cases qs21 : x = 21
      · refine z_tabIn (tgt := 877) C dL_law_33 (by rw [qs21]; decide) (by rw [qs21]; decide) (by rw [qs21]; rfl) (by decide) ?_
        exact lc_free X L xs n c iv lw C B hl hL hR kk
      by_cases qs22 : x = 22
      · refine z_tabIn (tgt := 920) C dL_law_33 (by rw [qs22]; decide) (by rw [qs22]; decide) (by rw [qs22]; rfl) (by decide) ?_
        exact lc_parted X L xs n c iv lw C B hl hL hR kk
      by_cases qs23 : x = 23
      · refine z_tabIn (tgt := 953) C dL_law_33 (by rw [qs23]; decide) (by rw [qs23]; decide) (by rw [qs23]; rfl) (by decide) ?_
        exact lc_about X L xs n c iv lw C B hl hL hR kk
      by_cases qs24 : x = 24
      · refine z_tabIn (tgt := 976) C dL_law_33 (by rw [qs24]; decide) (by rw [qs24]; decide) (by rw [qs24]; rfl) (by decide) ?_
        exact lc_road X L xs n c iv lw C B hl hL hR kk
      have qo : x.toInt < 0 ∨ 24 < x.toInt := by
        have h0 : ¬ x.toInt = 0 := fun z => qs0 (Int32.toInt_inj.mp z)
        have h1 : ¬ x.toInt = 1 := fun z => qs1 (Int32.toInt_inj.mp z)
        have h2 : ¬ x.toInt = 2 := fun z => qs2 (Int32.toInt_inj.mp z)
        have h3 : ¬ x.toInt = 3 := fun z => qs3 (Int32.toInt_inj.mp z)
        have h4 : ¬ x.toInt = 4 := fun z => qs4 (Int32.toInt_inj.mp z)
        have h5 : ¬ x.toInt = 5 := fun z => qs5 (Int32.toInt_inj.mp z)
        have h6 : ¬ x.toInt = 6 := fun z => qs6 (Int32.toInt_inj.mp z)
        have h7 : ¬ x.toInt = 7 := fun z => qs7 (Int32.toInt_inj.mp z)
        have h8 : ¬ x.toInt = 8 := fun z => qs8 (Int32.toInt_inj.mp z)
        have h9 : ¬ x.toInt = 9 := fun z => qs9 (Int32.toInt_inj.mp z)
        have h10 : ¬ x.toInt = 10 := fun z => qs10 (Int32.toInt_inj.mp z)
        have h11 : ¬ x.toInt = 11 := fun z => qs11 (Int32.toInt_inj.mp z)
        have h12 : ¬ x.toInt = 12 := fun z => qs12 (Int32.toInt_inj.mp z)
        have h13 : ¬ x.toInt = 13 := fun z => qs13 (Int32.toInt_inj.mp z)
        have h14 : ¬ x.toInt = 14 := fun z => qs14 (Int32.toInt_inj.mp z)
        have h15 : ¬ x.toInt = 15 := fun z => qs15 (Int32.toInt_inj.mp z)
        have h16 : ¬ x.toInt = 16 := fun z => qs16 (Int32.toInt_inj.mp z)
        have h17 : ¬ x.toInt = 17 := fun z => qs17 (Int32.toInt_inj.mp z)
        have h18 : ¬ x.toInt = 18 := fun z => qs18 (Int32.toInt_inj.mp z)
        have h19 : ¬ x.toInt = 19 := fun z => qs19 (Int32.toInt_inj.mp z)
        have h20 : ¬ x.toInt = 20 := fun z => qs20 (Int32.toInt_inj.mp z)
        have h21 : ¬ x.toInt = 21 := fun z => qs21 (Int32.toInt_inj.mp z)
        have h22 : ¬ x.toInt = 22 := fun z => qs22 (Int32.toInt_inj.mp z)
        have h23 : ¬ x.toInt = 23 := fun z => qs23 (Int32.toInt_inj.mp z)
        have h24 : ¬ x.toInt = 24 := fun z => qs24 (Int32.toInt_inj.mp z)
        omega
      refine z_tabOut (tgt := 1009) C dL_law_33 qo (by decide) ?_
      exact z_widen (by omega) (by omega) (kk n iv lw hR.up)
