/-! calls that change the road, teams, tape, trips -/
theorem zCI.mono {inns inns2 t t2 : Int} {f : Nat → Int32} (h : zCI inns t f) (hi : inns ≤ inns2) (ht : t ≤ t2) : zCI inns2 t2 f := by
  obtain ⟨h1, h2, h3, h4, h5, h6, h7, h8⟩ := h
  exact ⟨⟨h1.1, by omega⟩, ⟨h2.1, by omega⟩, h3, h4, h5, h6, h7, fun z => by have := h8 z; omega⟩
theorem zSim.rb {S S41 : List Nat} {n t t2 : Nat} {ls : zLi} {iv iv2 : zI} (h : zSim n t ls iv iv) (hf : zFr S S41 iv iv2) (hS : S.all (fun q => !(q == 0 || (decide (23 ≤ q) && decide (q ≤ 26)) || (decide (64 ≤ q) && decide (q ≤ 67)))) = true) (h41 : S41.all (fun j => !(j == 0 || j == 30)) = true) (hrh : zRh iv2 iv2) (hro : zRo iv2 iv2) (hrt : zRt iv2 iv2 t2) (hCI : ∀ i, i < n → zCI (iv2 1 0).toInt t2 (iv2 (91 + 3 * i))) (hj : ∀ j, j < n → zRj iv2 iv2 j (iv 0 10).toInt) : zSim n t2 ls iv2 iv2 := by
  obtain ⟨hX, hh, ho, ht, hck, hc, hg, -⟩ := h
  have e0 := hf.1 0 (by decide) (zall hS rfl)
  have hg2 : zRg iv2 iv2 ls := hg.o (hf.1 23 (by decide) (zall hS rfl)) (hf.1 24 (by decide) (zall hS rfl)) (hf.1 25 (by decide) (zall hS rfl)) (hf.1 26 (by decide) (zall hS rfl)) (hf.2 30 (zall h41 rfl)) (hf.1 64 (by decide) (zall hS rfl)) (hf.1 65 (by decide) (zall hS rfl)) (hf.1 66 (by decide) (zall hS rfl)) (hf.1 67 (by decide) (zall hS rfl))
  refine ⟨⟨hrh.2.1, hrt.1, hrt.2.2.1, hrt.2.2.2.2.2.2.2, by rw [e0]; exact hX.2.2.2.2.1, hX.2.2.2.2.2.1, hCI, hg2.gi.1⟩, hrh, hro, hrt, by rw [hf.2 0 (zall h41 rfl), e0]; exact hck, by rw [e0]; exact hc, hg2, fun j hjn => by rw [e0]; exact hj j hjn⟩
theorem zFr.c91 {S S41 : List Nat} {iv iv2 : zI} (hf : zFr S S41 iv iv2) (hS : S.all (fun q => decide (q < 91)) = true) {q : Nat} (hq : 91 ≤ q) : iv2 q = iv q := hf.1 q (by omega) (fun z => by
  have := List.all_eq_true.mp hS q z
  simp only [decide_eq_true_eq] at this
  omega)
section ZK2
variable {n c : Nat} {iv : zI} {lw : zG}
/-- the road is laid anew at stage k, with n = 0 coaches; it has e inns then -/
theorem zRw.lay {iv2 : zI} (hR : zRw n c iv) (hn : n = 0) {k : Nat} {mi cl ma e : Int32} (hb : (1 ≤ mi.toInt ∧ mi.toInt ≤ 20) ∧ (0 ≤ cl.toInt ∧ cl.toInt ≤ 9) ∧ (0 ≤ ma.toInt ∧ ma.toInt < 4)) (he : (iv 1 0).toInt ≤ e.toInt ∧ e.toInt ≤ 8) (hk : ∀ j : Nat, (iv 1 0).toInt - 1 ≤ (j : Int) → (j : Int) < e.toInt - 1 → j = k) (hf : zFr [1, 2, 3, 5, 42, 43, 45] [1] iv iv2) (e1 : iv2 1 0 = e) (e41 : iv2 41 1 = e) (e2 : iv2 2 = upd (iv 2) k mi) (e3 : iv2 3 = upd (iv 3) k cl) (e5 : iv2 5 = upd (iv 5) k ma) (e42 : iv2 42 = upd (iv 42) k mi) (e43 : iv2 43 = upd (iv 43) k cl) (e45 : iv2 45 = upd (iv 45) k ma) : zRw n (c + 1) iv2 := by
  subst hn
  obtain ⟨t, ls, hs, hkk, hp, hff, hq, hbk⟩ := hR
  have hs0 := hs
  obtain ⟨hX, hh, ho, ht, hck, hc, hg, hj⟩ := hs
  obtain ⟨r1, r2, r42, r43, r44, r45, rb, rm⟩ := hh
  obtain ⟨t1, t2, t3, t4, t5, t6, t7, t8⟩ := ht
  have f4 := hf.1 4 (by decide) (by decide)
  refine ⟨t, ls, hs0.rb hf rfl rfl ?_ ?_ ?_ (fun i hi => absurd hi (by omega)) (fun i hi => absurd hi (by omega)), hf.k hkk rfl rfl, hf.p hp rfl rfl, hf.f hff rfl rfl, ?_, hf.b hbk rfl rfl⟩
  · refine ⟨e41.trans e1.symm, by rw [e1]; omega, by rw [e42, e2, r42], by rw [e43, e3, r43], by rw [hf.1 44 (by decide) (by decide), f4]; exact r44, by rw [e45, e5, r45], fun j => ?_, fun j hj2 => ?_⟩
    · have := rb j
      rw [e2, e3, e5, f4]
      by_cases q : j = k
      · subst q
        rw [pk_us, pk_us, pk_us]
        exact ⟨⟨by omega, hb.1.2⟩, hb.2.1, this.2.2.1, hb.2.2⟩
      · rw [pk_un q, pk_un q, pk_un q]
        exact this
    · rw [e1] at hj2
      rw [e2]
      by_cases q : j = k
      · subst q; rw [pk_us]; exact hb.1.1
      · rw [pk_un q]
        refine rm j ?_
        rcases Int.lt_or_le (j : Int) ((iv 1 0).toInt - 1) with z | z
        · exact z
        · exact absurd (hk j z hj2) q
  · unfold zRo
    rw [hf.1 46 (by decide) (by decide), hf.1 6 (by decide) (by decide)]
    exact ho
  · refine ⟨by rw [hf.1 7 (by decide) (by decide)]; exact t1, by rw [hf.2 7 (by decide)]; exact t2, t3, by rw [hf.1 47 (by decide) (by decide), hf.1 8 (by decide) (by decide)]; exact t4, by rw [hf.1 48 (by decide) (by decide), hf.1 9 (by decide) (by decide)]; exact t5, by rw [hf.1 49 (by decide) (by decide), hf.1 10 (by decide) (by decide)]; exact t6, by rw [hf.1 8 (by decide) (by decide)]; exact t7, ?_⟩
    rw [e1, hf.1 9 (by decide) (by decide)]
    exact fun j hj2 => (t8 j hj2).imp id (fun z => ⟨z.1, by omega⟩)
  · obtain ⟨q, q1, q2, q3, q4⟩ := hq
    refine ⟨q, by rw [hf.1 29 (by decide) (by decide)]; exact q1, by rw [hf.2 53 (by decide)]; exact q2, q3, fun j hj2 => ?_⟩
    rw [hf.1 30 (by decide) (by decide), hf.1 31 (by decide) (by decide), hf.1 32 (by decide) (by decide), hf.1 76 (by decide) (by decide), hf.1 77 (by decide) (by decide), hf.1 78 (by decide) (by decide), hf.1 79 (by decide) (by decide), e1]
    obtain ⟨⟨z1, z2, z3⟩, z4⟩ := q4 j hj2
    exact ⟨⟨z1, z2, by omega⟩, z4⟩
theorem k_stage (hR : zRw n c iv) (mi cl ma : Int32) : zCall n c iv lw yX9_stage cX9_stage 4 (some .int) yX10_stage cX10_stage 4 (some .int) [.int mi, .int cl, .int ma] := by
  obtain ⟨t, ls, ⟨hX, hh, -⟩, hk, -⟩ := id hR
  have hI := hh.2.1
  have h41 := hh.1
  have hn8 := hX.2.2.2.2.2.1
  have e3 : (iv 0 3).toInt = n := by rw [hX.2.2.2.2.1, nI_toInt (by omega)]
  have e11 : (iv 41 11).toInt = n := by rw [hk.1, nI_toInt (by omega)]
  have hx := x_stage n iv lw mi cl ma hI
  by_cases P : ¬ 0 < (iv 0 3).toInt ∧ (iv 1 0).toInt < 8 ∧ (1 ≤ mi.toInt ∧ mi.toInt ≤ 20 ∧ 0 ≤ cl.toInt ∧ cl.toInt ≤ 9 ∧ 0 ≤ ma.toInt ∧ ma.toInt < 4)
  · rw [if_pos P, if_pos P] at hx
    have hm := m_stage n (zlay (zu iv 1 0 (iv 1 0 + 1)) (iv 1 0 - 1).toNatClampNeg mi cl ma) lw mi cl ma (by show 2 ≤ (iv 41 1).toInt ∧ (iv 41 1).toInt ≤ 8; rw [h41]; exact hI)
    have Q : ¬ zlay (zu iv 1 0 (iv 1 0 + 1)) (iv 1 0 - 1).toNatClampNeg mi cl ma 41 1 = 8 ∧ ¬ 0 < (zlay (zu iv 1 0 (iv 1 0 + 1)) (iv 1 0 - 1).toNatClampNeg mi cl ma 41 11).toInt ∧ (1 ≤ mi.toInt ∧ mi.toInt ≤ 20 ∧ 0 ≤ cl.toInt ∧ cl.toInt ≤ 9 ∧ 0 ≤ ma.toInt ∧ ma.toInt ≤ 3) := by
      refine ⟨fun z => ?_, ?_, by omega⟩
      · have z : iv 41 1 = 8 := z
        rw [h41] at z
        rw [z] at P
        exact absurd P.2.1 (by decide)
      · show ¬ 0 < (iv 41 11).toInt
        omega
    rw [if_pos Q, if_pos Q] at hm
    have ek : (zlay (zu iv 1 0 (iv 1 0 + 1)) (iv 1 0 - 1).toNatClampNeg mi cl ma 41 1 - 1).toNatClampNeg = (iv 1 0 - 1).toNatClampNeg := by
      show (iv 41 1 - 1).toNatClampNeg = _
      rw [h41]
    rw [ek] at hm
    have p1 : (iv 1 0 + 1).toInt = (iv 1 0).toInt + 1 := zt_p1 (by omega)
    have pk : ((iv 1 0 - 1).toNatClampNeg : Int) = (iv 1 0).toInt - 1 := by
      rw [zcl_int (by rw [zt_m1 (by omega)]; omega), zt_m1 (by omega)]
    refine zCall.i hx hm h41.symm (hR.lay (k := (iv 1 0 - 1).toNatClampNeg) (mi := mi) (cl := cl) (ma := ma) (e := iv 1 0 + 1) (by omega) (by omega) (by omega) (fun j a b => by omega) ?_ rfl ?_ rfl rfl rfl rfl rfl rfl)
    · unfold zmlay zlay
      exact (((((((zFr.rf _ _ iv).u 1 _ _ (by decide) (by decide)).u 2 _ _ (by decide) (by decide)).u 3 _ _ (by decide) (by decide)).u 5 _ _ (by decide) (by decide)).u 42 _ _ (by decide) (by decide)).u 43 _ _ (by decide) (by decide)).u 45 _ _ (by decide) (by decide) |>.u41 1 _ (by decide)
    · rw [zu_ss]
      show iv 41 1 + 1 = iv 1 0 + 1
      rw [h41]
  · rw [if_neg P, if_neg P] at hx
    have hm := m_stage n iv lw mi cl ma (by rw [h41]; exact hI)
    have Q : ¬ (¬ iv 41 1 = 8 ∧ ¬ 0 < (iv 41 11).toInt ∧ (1 ≤ mi.toInt ∧ mi.toInt ≤ 20 ∧ 0 ≤ cl.toInt ∧ cl.toInt ≤ 9 ∧ 0 ≤ ma.toInt ∧ ma.toInt ≤ 3)) := fun z => P ⟨by omega, by
      have : ¬ (iv 1 0).toInt = 8 := fun q => z.1 (by rw [h41]; exact Int32.toInt_inj.mp (by rw [q]; decide))
      omega, by omega⟩
    rw [if_neg Q, if_neg Q] at hm
    exact zCall.p hR hx hm rfl
theorem k_first (hR : zRw n c iv) (mi cl ma : Int32) : zCall n c iv lw yX9_first cX9_first 4 (some .boolean) yX10_first cX10_first 4 (some .boolean) [.int mi, .int cl, .int ma] := by
  obtain ⟨t, ls, ⟨hX, hh, -⟩, hk, -⟩ := id hR
  have hI := hh.2.1
  have hn8 := hX.2.2.2.2.2.1
  have e3 : (iv 0 3).toInt = n := by rw [hX.2.2.2.2.1, nI_toInt (by omega)]
  have e11 : (iv 41 11).toInt = n := by rw [hk.1, nI_toInt (by omega)]
  have hx := x_first n iv lw mi cl ma hI
  by_cases P : ¬ 0 < (iv 0 3).toInt ∧ (1 ≤ mi.toInt ∧ mi.toInt ≤ 20 ∧ 0 ≤ cl.toInt ∧ cl.toInt ≤ 9 ∧ 0 ≤ ma.toInt ∧ ma.toInt < 4)
  · rw [if_pos P, zb_t P] at hx
    have hm := m_first n (zlay iv 0 mi cl ma) lw mi cl ma
    have Q : ¬ 0 < (zlay iv 0 mi cl ma 41 11).toInt ∧ (1 ≤ mi.toInt ∧ mi.toInt ≤ 20 ∧ 0 ≤ cl.toInt ∧ cl.toInt ≤ 9 ∧ 0 ≤ ma.toInt ∧ ma.toInt ≤ 3) := ⟨by show ¬ 0 < (iv 41 11).toInt; omega, by omega⟩
    rw [if_pos Q, zb_t Q] at hm
    refine zCall.i hx hm rfl (hR.lay (k := 0) (mi := mi) (cl := cl) (ma := ma) (e := iv 1 0) (by omega) (by omega) (by omega) (fun j a b => by omega) ?_ rfl hh.1 rfl rfl rfl rfl rfl rfl)
    unfold zmlay zlay
    exact ((((((zFr.rf _ _ iv).u 2 _ _ (by decide) (by decide)).u 3 _ _ (by decide) (by decide)).u 5 _ _ (by decide) (by decide)).u 42 _ _ (by decide) (by decide)).u 43 _ _ (by decide) (by decide)).u 45 _ _ (by decide) (by decide)
  · rw [if_neg P, zb_f P] at hx
    have hm := m_first n iv lw mi cl ma
    have Q : ¬ (¬ 0 < (iv 41 11).toInt ∧ (1 ≤ mi.toInt ∧ mi.toInt ≤ 20 ∧ 0 ≤ cl.toInt ∧ cl.toInt ≤ 9 ∧ 0 ≤ ma.toInt ∧ ma.toInt ≤ 3)) := fun z => P ⟨by omega, by omega⟩
    rw [if_neg Q, zb_f Q] at hm
    exact zCall.p hR hx hm rfl
theorem k_mud (hR : zRw n c iv) (sg de : Int32) : zCall n c iv lw yX9_mud cX9_mud 3 (some .boolean) yX10_mud cX10_mud 3 (some .boolean) [.int sg, .int de] := by
  obtain ⟨t, ls, hs, hk, hp, hff, hq, hbk⟩ := id hR
  obtain ⟨hX, hh, ho, ht, hck, hc, hg, hj⟩ := id hs
  have hI := hh.2.1
  have h41 := hh.1
  have hx := x_mud n iv lw sg de hI
  by_cases P : 0 ≤ sg.toInt ∧ sg.toInt < (iv 1 0).toInt - 1 ∧ 0 ≤ de.toInt ∧ de.toInt ≤ 9
  · rw [if_pos P, zb_t P] at hx
    have hm := m_mud n (zu iv 4 sg.toNatClampNeg de) lw sg de (by show 2 ≤ (iv 41 1).toInt ∧ (iv 41 1).toInt ≤ 8; rw [h41]; exact hI)
    have Q : 0 ≤ sg.toInt ∧ sg.toInt < (zu iv 4 sg.toNatClampNeg de 41 1).toInt - 1 ∧ 0 ≤ de.toInt ∧ de.toInt ≤ 9 := by
      show 0 ≤ sg.toInt ∧ sg.toInt < (iv 41 1).toInt - 1 ∧ 0 ≤ de.toInt ∧ de.toInt ≤ 9
      rw [h41]; exact P
    rw [if_pos Q, zb_t Q] at hm
    have hf : zFr [4, 44] [] iv (zu (zu iv 4 sg.toNatClampNeg de) 44 sg.toNatClampNeg de) := ((zFr.rf _ _ iv).u 4 _ _ (by decide) (by decide)).u 44 _ _ (by decide) (by decide)
    refine zCall.i hx hm rfl ⟨t, ls, hs.rb hf rfl rfl ?_ ?_ ?_ (fun i hi => ?_) (fun j hjn => hf.j (hj j hjn) rfl), hf.k hk rfl rfl, hf.p hp rfl rfl, hf.f hff rfl rfl, hf.q hq rfl rfl, hf.b hbk rfl rfl⟩
    · obtain ⟨r1, r2, r42, r43, r44, r45, rb, rm⟩ := hh
      refine ⟨r1, r2, r42, r43, ?_, r45, fun j => ?_, rm⟩
      · rw [zu_s, zu_n _ _ _ (by decide), zu_n _ _ _ (by decide), zu_s, r44]
      · have := rb j
        refine ⟨this.1, this.2.1, ?_, this.2.2.2⟩
        rw [zu_n _ _ _ (by decide), zu_s]
        by_cases q : j = sg.toNatClampNeg
        · subst q; rw [pk_us]; exact ⟨P.2.2.1, P.2.2.2⟩
        · rw [pk_un q]; exact this.2.2.1
    · exact ho
    · exact ht
    · have e := hf.c91 rfl (q := 91 + 3 * i) (by omega)
      rw [e]
      exact hX.2.2.2.2.2.2.1 i hi
  · rw [if_neg P, zb_f P] at hx
    have hm := m_mud n iv lw sg de (by rw [h41]; exact hI)
    have Q : ¬ (0 ≤ sg.toInt ∧ sg.toInt < (iv 41 1).toInt - 1 ∧ 0 ≤ de.toInt ∧ de.toInt ≤ 9) := by rw [h41]; exact P
    rw [if_neg Q, zb_f Q] at hm
    exact zCall.p hR hx hm rfl
theorem k_oats (hR : zRw n c iv) (inn am : Int32) : zCall n c iv lw yX9_oats cX9_oats 3 (some .boolean) yX10_oats cX10_oats 3 (some .boolean) [.int inn, .int am] := by
  obtain ⟨t, ls, hs, hk, hp, hff, hq, hbk⟩ := id hR
  obtain ⟨hX, hh, ho, ht, hck, hc, hg, hj⟩ := id hs
  have hI := hh.2.1
  have h41 := hh.1
  have hx := x_oats n iv lw inn am hI (fun k _ => ho.2 k)
  by_cases P : 0 ≤ inn.toInt ∧ inn.toInt < (iv 1 0).toInt ∧ 0 ≤ am.toInt ∧ am.toInt ≤ 100000 - (iv 6 inn.toNatClampNeg).toInt
  · rw [if_pos P, zb_t P] at hx
    have hm := m_oats n (zu iv 6 inn.toNatClampNeg (iv 6 inn.toNatClampNeg + am)) lw inn am (by show 2 ≤ (iv 41 1).toInt ∧ (iv 41 1).toInt ≤ 8; rw [h41]; exact hI) (fun k _ => by show 0 ≤ (iv 46 k).toInt ∧ (iv 46 k).toInt ≤ 100000; rw [ho.1]; exact ho.2 k)
    have Q : 0 ≤ inn.toInt ∧ inn.toInt < (zu iv 6 inn.toNatClampNeg (iv 6 inn.toNatClampNeg + am) 41 1).toInt ∧ 0 ≤ am.toInt ∧ am.toInt ≤ 100000 - (zu iv 6 inn.toNatClampNeg (iv 6 inn.toNatClampNeg + am) 46 inn.toNatClampNeg).toInt := by
      show 0 ≤ inn.toInt ∧ inn.toInt < (iv 41 1).toInt ∧ 0 ≤ am.toInt ∧ am.toInt ≤ 100000 - (iv 46 inn.toNatClampNeg).toInt
      rw [h41, ho.1]; exact P
    rw [if_pos Q, zb_t Q] at hm
    have hf : zFr [6, 46] [] iv (zu (zu iv 6 inn.toNatClampNeg (iv 6 inn.toNatClampNeg + am)) 46 inn.toNatClampNeg (zu iv 6 inn.toNatClampNeg (iv 6 inn.toNatClampNeg + am) 46 inn.toNatClampNeg + am)) := ((zFr.rf _ _ iv).u 6 _ _ (by decide) (by decide)).u 46 _ _ (by decide) (by decide)
    refine zCall.i hx hm rfl ⟨t, ls, hs.rb hf rfl rfl hh ?_ ht (fun i hi => ?_) (fun j hjn => hf.j (hj j hjn) rfl), hf.k hk rfl rfl, hf.p hp rfl rfl, hf.f hff rfl rfl, hf.q hq rfl rfl, hf.b hbk rfl rfl⟩
    · refine ⟨?_, fun k => ?_⟩
      · rw [zu_s, zu_n _ _ _ (by decide), zu_n _ _ _ (by decide), zu_s, ho.1]
      · rw [zu_n _ _ _ (by decide), zu_s]
        have := ho.2 inn.toNatClampNeg
        by_cases q : k = inn.toNatClampNeg
        · subst q
          rw [pk_us, zt_add (by omega) (by omega)]
          omega
        · rw [pk_un q]; exact ho.2 k
    · have e := hf.c91 rfl (q := 91 + 3 * i) (by omega)
      rw [e]
      exact hX.2.2.2.2.2.2.1 i hi
  · rw [if_neg P, zb_f P] at hx
    have hm := m_oats n iv lw inn am (by rw [h41]; exact hI) (fun k _ => by rw [ho.1]; exact ho.2 k)
    have Q : ¬ (0 ≤ inn.toInt ∧ inn.toInt < (iv 41 1).toInt ∧ 0 ≤ am.toInt ∧ am.toInt ≤ 100000 - (iv 46 inn.toNatClampNeg).toInt) := by rw [h41, ho.1]; exact P
    rw [if_neg Q, zb_f Q] at hm
    exact zCall.p hR hx hm rfl
theorem k_team (hR : zRw n c iv) (inn st : Int32) : zCall n c iv lw yX9_team cX9_team 3 (some .int) yX10_team cX10_team 3 (some .int) [.int inn, .int st] := by
  obtain ⟨t, ls, hs, hk, hp, hff, hq, hbk⟩ := id hR
  obtain ⟨hX, hh, ho, ht, hck, hc, hg, hj⟩ := id hs
  have h41 := hh.1
  obtain ⟨t1, t2, t3, t4, t5, t6, t7, t8⟩ := id ht
  have et : (iv 7 0).toInt = t := by rw [t1, nI_toInt (by omega)]
  have et2 : (iv 41 7).toInt = t := by rw [t2, nI_toInt (by omega)]
  have hx := x_team n iv lw inn st (by omega)
  by_cases P : (0 ≤ inn.toInt ∧ inn.toInt < (iv 1 0).toInt) ∧ (iv 7 0).toInt < 20 ∧ 0 ≤ st.toInt ∧ st.toInt ≤ 1000
  · rw [if_pos P, if_pos P, t1, nI_clamp (by omega), nI_1] at hx
    have hm := m_team n (zu (zu (zu (zu iv 8 t st) 9 t inn) 10 t (-1)) 7 0 (nI (t + 1))) lw inn st (by show 0 ≤ (iv 41 7).toInt ∧ (iv 41 7).toInt ≤ 20; omega)
    have Q : ¬ zu (zu (zu (zu iv 8 t st) 9 t inn) 10 t (-1)) 7 0 (nI (t + 1)) 41 7 = 20 ∧ (0 ≤ inn.toInt ∧ inn.toInt < (zu (zu (zu (zu iv 8 t st) 9 t inn) 10 t (-1)) 7 0 (nI (t + 1)) 41 1).toInt) ∧ 0 ≤ st.toInt ∧ st.toInt ≤ 1000 := by
      refine ⟨fun z => ?_, ?_, P.2.2⟩
      · have z : iv 41 7 = 20 := z
        rw [z] at et2
        rw [show Int32.toInt 20 = 20 by decide] at et2
        omega
      · show 0 ≤ inn.toInt ∧ inn.toInt < (iv 41 1).toInt
        rw [h41]; exact P.1
    rw [if_pos Q, if_pos Q] at hm
    have e7 : zu (zu (zu (zu iv 8 t st) 9 t inn) 10 t (-1)) 7 0 (nI (t + 1)) 41 7 = nI t := t2
    rw [e7, nI_clamp (by omega), nI_1] at hm
    have hf : zFr [7, 8, 9, 10, 47, 48, 49] [7] iv (zu (zu (zu (zu (zu (zu (zu (zu iv 8 t st) 9 t inn) 10 t (-1)) 7 0 (nI (t + 1))) 47 t st) 48 t inn) 49 t (-1)) 41 7 (nI (t + 1))) := ((((((((zFr.rf _ _ iv).u 8 _ _ (by decide) (by decide)).u 9 _ _ (by decide) (by decide)).u 10 _ _ (by decide) (by decide)).u 7 _ _ (by decide) (by decide)).u 47 _ _ (by decide) (by decide)).u 48 _ _ (by decide) (by decide)).u 49 _ _ (by decide) (by decide)).u41 7 _ (by decide)
    refine zCall.i hx hm rfl ⟨t + 1, ls, hs.rb hf rfl rfl hh ho ?_ (fun i hi => ?_) (fun j hjn => hf.j (hj j hjn) rfl), hf.k hk rfl rfl, hf.p hp rfl rfl, hf.f hff rfl rfl, hf.q hq rfl rfl, hf.b hbk rfl rfl⟩
    · refine ⟨rfl, rfl, by omega, ?_, ?_, ?_, fun k => ?_, fun k hk2 => ?_⟩
      · show upd (iv 47) t st = upd (iv 8) t st
        rw [t4]
      · show upd (iv 48) t inn = upd (iv 9) t inn
        rw [t5]
      · show upd (iv 49) t (-1) = upd (iv 10) t (-1)
        rw [t6]
      · show 0 ≤ (upd (iv 8) t st k).toInt ∧ (upd (iv 8) t st k).toInt ≤ 1000
        by_cases q : k = t
        · subst q; rw [pk_us]; exact P.2.2
        · rw [pk_un q]; exact t7 k
      · show upd (iv 9) t inn k = -1 ∨ (0 ≤ (upd (iv 9) t inn k).toInt ∧ (upd (iv 9) t inn k).toInt < (iv 1 0).toInt)
        by_cases q : k = t
        · subst q; rw [pk_us]; exact Or.inr P.1
        · rw [pk_un q]; exact t8 k (by omega)
    · have e := hf.c91 rfl (q := 91 + 3 * i) (by omega)
      rw [e]
      exact (hX.2.2.2.2.2.2.1 i hi).mono (Int.le_refl _) (by omega)
  · rw [if_neg P, if_neg P] at hx
    have hm := m_team n iv lw inn st (by omega)
    have Q : ¬ (¬ iv 41 7 = 20 ∧ (0 ≤ inn.toInt ∧ inn.toInt < (iv 41 1).toInt) ∧ 0 ≤ st.toInt ∧ st.toInt ≤ 1000) := fun z => P ⟨by rw [← h41]; exact z.2.1, by
      have : ¬ (iv 41 7).toInt = 20 := fun q => z.1 (Int32.toInt_inj.mp (by rw [q]; decide))
      omega, z.2.2⟩
    rw [if_neg Q, if_neg Q] at hm
    exact zCall.p hR hx hm rfl
end ZK2
