/-! run and orders -/
section ZK6
variable {n c : Nat} {iv : zI} {lw : zG}
theorem zSim.mi {n t : Nat} {ls : zLi} {u w : zI} (h : zSim n t ls u w) (h11 : w 41 11 = nI n) : zMI n t ls.length (zfa ls) w := by
  obtain ⟨hX, hh, ho, ht, hck, hc, hg, hj⟩ := h
  refine ⟨by rw [hh.1]; exact hh.2.1, ht.2.1, ht.2.2.1, by rw [hh.1, ht.2.2.2.2.1]; exact ht.2.2.2.2.2.2.2, h11, hX.2.2.2.2.2.1, fun i hi => ?_, hg.gi.2⟩
  obtain ⟨⟨a1, a2, a3, a4, a5⟩, ⟨b1, b2, b3, b4⟩, -⟩ := hj i hi
  have := hX.2.2.2.2.2.2.1 i hi
  unfold zCI at this ⊢
  show (0 ≤ (w 52 i).toInt ∧ (w 52 i).toInt < (w 41 1).toInt) ∧ (0 ≤ (w 53 i).toInt ∧ (w 53 i).toInt < (w 41 1).toInt) ∧ ¬ (w 52 i).toInt = (w 53 i).toInt ∧ ((w 52 i).toInt < (w 53 i).toInt → (w 52 i).toInt ≤ (w 56 i).toInt ∧ (w 56 i).toInt ≤ (w 53 i).toInt) ∧ (¬ (w 52 i).toInt < (w 53 i).toInt → (w 53 i).toInt ≤ (w 56 i).toInt ∧ (w 56 i).toInt ≤ (w 52 i).toInt) ∧ (w 55 i = 0 ∨ w 55 i = 1 ∨ w 55 i = 2 ∨ w 55 i = 3 ∨ w 55 i = 4) ∧ (¬ w 55 i = 4 → ¬ (w 56 i).toInt = (w 53 i).toInt) ∧ (w 55 i = 1 ∨ w 55 i = 2 ∨ w 55 i = 3 → 0 ≤ (w 57 i).toInt ∧ (w 57 i).toInt < t)
  rw [a3, a4, b1, b2, b3, hh.1]
  exact this
/-- only the class's cells of u count, and the reference's of w -/
theorem zSim.o {n t : Nat} {ls : zLi} {u w u2 w2 : zI} (h : zSim n t ls u w) (hu : ∀ q, (q < 27 ∨ 91 ≤ q) → u2 q = u q) (hw : ∀ q, 41 ≤ q → q < 68 → w2 q = w q) : zSim n t ls u2 w2 := by
  obtain ⟨hX, hh, ho, ht, hck, hc, hg, hj⟩ := h
  have e0 := hu 0 (by omega)
  have e41 := hw 41 (by decide) (by decide)
  refine ⟨?_, hh.o (hu 1 (by omega)) (hu 2 (by omega)) (hu 3 (by omega)) (hu 4 (by omega)) (hu 5 (by omega)) (by rw [e41]) (hw 42 (by decide) (by decide)) (hw 43 (by decide) (by decide)) (hw 44 (by decide) (by decide)) (hw 45 (by decide) (by decide)), ?_, ht.o (hu 1 (by omega)) (hu 7 (by omega)) (hu 8 (by omega)) (hu 9 (by omega)) (hu 10 (by omega)) (by rw [e41]) (hw 47 (by decide) (by decide)) (hw 48 (by decide) (by decide)) (hw 49 (by decide) (by decide)), by rw [e41, e0]; exact hck, by rw [e0]; exact hc, hg.o (hu 23 (by omega)) (hu 24 (by omega)) (hu 25 (by omega)) (hu 26 (by omega)) (by rw [e41]) (hw 64 (by decide) (by decide)) (hw 65 (by decide) (by decide)) (hw 66 (by decide) (by decide)) (hw 67 (by decide) (by decide)), fun j hjn => ?_⟩
  · unfold zXI zGI
    rw [e0, hu 1 (by omega), hu 7 (by omega), hu 9 (by omega), hu 23 (by omega), hu 24 (by omega)]
    obtain ⟨x1, x2, x3, x4, x5, x6, x7, x8⟩ := hX
    exact ⟨x1, x2, x3, x4, x5, x6, fun i hi => by rw [hu _ (by omega)]; exact x7 i hi, x8⟩
  · unfold zRo
    rw [hw 46 (by decide) (by decide), hu 6 (by omega)]
    exact ho
  · rw [e0]
    exact (hj j hjn).o (hu _ (by omega)) (hu _ (by omega)) (hu _ (by omega)) (fun q a b => by rw [hw q (by omega) (by omega)]) (fun p hp => ⟨by rw [hw 62 (by decide) (by decide)], by rw [hw 63 (by decide) (by decide)]⟩) (hw 42 (by decide) (by decide)) (hw 43 (by decide) (by decide))
theorem k_run (hR : zRw n c iv) (hc5 : c ≤ 512) (m : Int32) : zCall n c iv lw yX9_run cX9_run 4 (some .int) yX10_run cX10_run 5 (some .int) [.int m] := by
  obtain ⟨t, ls, hs, hk, hp, hff, hq, hbk⟩ := id hR
  by_cases P : 0 ≤ m.toInt ∧ m.toInt ≤ 1500
  · have em := znI_cl P.1
    have cm := zcl_int P.1
    generalize m.toNatClampNeg = mm at em cm
    subst em
    have hmm : mm ≤ 1500 := by omega
    have hck1 := hk.2.1
    refine zCall.q (x_run1 n iv lw t _ _ _ hs.1 mm hmm) (fun v iv1 lw1 hq1 => ?_)
    obtain ⟨rfl, rfl, hz⟩ := hq1
    obtain ⟨g1, g2, g3, g4⟩ := hs.mins mm (by omega)
    -- the class's minutes leave the reference's cells
    have hsu : zSim n t ls iv iv1 := hs.o (fun _ _ => rfl) (fun q a b => by
      rw [hz q (by omega) (by omega)]
      exact g2.1 q (by omega) (by omega) (by omega) (by omega) (by omega) (by omega))
    have h11 : iv1 41 11 = nI n := by
      rw [hz 41 (by decide) (by decide), g2.1 41 (by decide) (by decide) (by decide) (by decide) (by decide) (by decide)]
      exact hk.1
    obtain ⟨f1, f2, f3, f4⟩ := hsu.mins mm (by omega)
    refine ⟨_, rfl, 5, by decide, zMs.weak (m_run1 n iv1 _ t _ _ (hsu.mi h11) mm hmm) (fun v2 iv2 lw2 hq2 => ?_)⟩
    obtain ⟨e1, -, hz2⟩ := hq2
    rw [← f4] at e1
    -- cells of iv2
    have eu : ∀ q, q < 91 → q ≠ 27 → q ≠ 28 → (q < 41 ∨ 91 ≤ q) → iv2 q = zmins iv n t ls.length mm q := fun q a b d e => by
      rw [hz2 q (by omega) (by omega), f2.2.2.1 q (by omega) (by omega) (by omega), hz q b d]
    have eu2 : ∀ q, 91 ≤ q → iv2 q = zmins iv n t ls.length mm q := fun q a => by
      rw [hz2 q (by omega) (by omega), f2.2.2.1 q (by omega) (by omega) (by omega), hz q (by omega) (by omega)]
    have ew : ∀ q, q ≠ 74 → q ≠ 75 → iv2 q = zmmins iv1 n t ls.length (zfa ls) mm q := fun q a b => hz2 q a b
    have hsim : zSim n t ls iv2 iv2 := f1.o (fun q a => by
      rcases a with a | a
      · exact eu q (by omega) (by omega) (by omega) (by omega)
      · exact eu2 q a) (fun q a b => ew q (by omega) (by omega))
    have i1 : ∀ q, 41 ≤ q → q < 91 → iv1 q = iv q := fun q a b => by
      rw [hz q (by omega) (by omega)]
      exact g2.1 q (by omega) (by omega) (by omega) (by omega) (by omega) (by omega)
    have w41 : ∀ j, j ≠ 0 → iv2 41 j = iv 41 j := fun j hj => by
      rw [ew 41 (by decide) (by decide), f2.2.2.2.1 j hj, i1 41 (by decide) (by decide)]
    have wq : ∀ q, 63 < q → q < 91 → q ≠ 74 → q ≠ 75 → iv2 q = iv q := fun q a b d e => by
      rw [ew q d e, f2.2.2.1 q (by omega) (by omega) (by omega), i1 q (by omega) b]
    have uq : ∀ q, q < 41 → q ≠ 0 → q ≠ 6 → q ≠ 8 → q ≠ 9 → q ≠ 10 → q ≠ 27 → q ≠ 28 → iv2 q = iv q := fun q a b d e f g h i => by
      rw [eu q (by omega) h i (by omega)]
      exact g2.1 q (by omega) b d e f g
    refine ⟨e1, t, ls, hsim, ⟨?_, ?_, fun i hi => ?_⟩, ?_, ?_, ?_, ?_⟩
    · rw [w41 11 (by decide)]; exact hk.1
    · rw [eu 0 (by decide) (by decide) (by decide) (by decide), g3]
      have : ((c + 1 : Nat) : Int) = (c : Int) + 1 := by omega
      rw [this]
      omega
    · obtain ⟨z1, z2, z3⟩ := hk.2.2 i hi
      rw [ew 60 (by decide) (by decide), ew 61 (by decide) (by decide), ew 62 (by decide) (by decide), ew 63 (by decide) (by decide), f2.2.2.2.2.1 60 i (by decide) (by decide) hi, f2.2.2.2.2.1 61 i (by decide) (by decide) hi, i1 60 (by decide) (by decide), i1 61 (by decide) (by decide)]
      refine ⟨z1, z2, fun p hp2 => ?_⟩
      rw [f2.2.2.2.2.2 62 _ (by decide) (by decide) (by omega), f2.2.2.2.2.2 63 _ (by decide) (by decide) (by omega), i1 62 (by decide) (by decide), i1 63 (by decide) (by decide)]
      exact z3 p hp2
    · unfold zRp
      rw [uq 12 (by decide) (by decide) (by decide) (by decide) (by decide) (by decide) (by decide) (by decide), uq 13 (by decide) (by decide) (by decide) (by decide) (by decide) (by decide) (by decide) (by decide), wq 72 (by decide) (by decide) (by decide) (by decide), w41 39 (by decide)]
      exact hp
    · unfold zRf
      rw [uq 14 (by decide) (by decide) (by decide) (by decide) (by decide) (by decide) (by decide) (by decide), w41 40 (by decide), w41 41 (by decide)]
      exact hff
    · unfold zRq
      rw [uq 1 (by decide) (by decide) (by decide) (by decide) (by decide) (by decide) (by decide) (by decide), uq 29 (by decide) (by decide) (by decide) (by decide) (by decide) (by decide) (by decide) (by decide), uq 30 (by decide) (by decide) (by decide) (by decide) (by decide) (by decide) (by decide) (by decide), uq 31 (by decide) (by decide) (by decide) (by decide) (by decide) (by decide) (by decide) (by decide), uq 32 (by decide) (by decide) (by decide) (by decide) (by decide) (by decide) (by decide) (by decide), wq 76 (by decide) (by decide) (by decide) (by decide), wq 77 (by decide) (by decide) (by decide) (by decide), wq 78 (by decide) (by decide) (by decide) (by decide), wq 79 (by decide) (by decide) (by decide) (by decide), w41 53 (by decide)]
      exact hq
    · unfold zRb
      rw [uq 35 (by decide) (by decide) (by decide) (by decide) (by decide) (by decide) (by decide) (by decide), uq 36 (by decide) (by decide) (by decide) (by decide) (by decide) (by decide) (by decide) (by decide), uq 37 (by decide) (by decide) (by decide) (by decide) (by decide) (by decide) (by decide) (by decide), uq 38 (by decide) (by decide) (by decide) (by decide) (by decide) (by decide) (by decide) (by decide), uq 39 (by decide) (by decide) (by decide) (by decide) (by decide) (by decide) (by decide) (by decide), uq 40 (by decide) (by decide) (by decide) (by decide) (by decide) (by decide) (by decide) (by decide), wq 84 (by decide) (by decide) (by decide) (by decide), wq 85 (by decide) (by decide) (by decide) (by decide), wq 86 (by decide) (by decide) (by decide) (by decide), wq 87 (by decide) (by decide) (by decide) (by decide), wq 88 (by decide) (by decide) (by decide) (by decide), wq 89 (by decide) (by decide) (by decide) (by decide), w41 62 (by decide)]
      exact hbk
  · exact zCall.p hR (x_run0 n iv lw m P) (m_run0 n iv lw m P) rfl
theorem k_orders (hR : zRw n c iv) : zCall n c iv lw yX9_orders cX9_orders 2 (some .int) yX10_orders cX10_orders 2 (some .int) [] := by
  obtain ⟨t, ls, hs, hk, ⟨s, p1, p2, p3, p4⟩, hff, hq, hbk⟩ := id hR
  refine zCall.q (x_orders n iv lw s p1 p3 (fun j => (p4.at p3 j).2.2.2.2.2)) (fun v iv1 lw1 hq1 => ?_)
  obtain ⟨-, hf1, h12, N, o, hN, hO⟩ := hq1
  have i1 : ∀ q, q ≠ 12 → q ≠ 14 → q ≠ 15 → q ≠ 16 → q ≠ 17 → q ≠ 18 → q ≠ 19 → q ≠ 20 → q ≠ 21 → q ≠ 23 → q ≠ 24 → q ≠ 25 → q ≠ 26 → iv1 q = iv q := hf1
  have i41 : iv1 41 = iv 41 := hf1 41 (by decide) (by decide) (by decide) (by decide) (by decide) (by decide) (by decide) (by decide) (by decide) (by decide) (by decide) (by decide) (by decide)
  have i72 : iv1 72 = iv 72 := hf1 72 (by decide) (by decide) (by decide) (by decide) (by decide) (by decide) (by decide) (by decide) (by decide) (by decide) (by decide) (by decide) (by decide)
  have i13 : iv1 13 = iv 13 := hf1 13 (by decide) (by decide) (by decide) (by decide) (by decide) (by decide) (by decide) (by decide) (by decide) (by decide) (by decide) (by decide) (by decide)
  have hm := m_orders n iv1 lw1 (iv 13) s (by rw [i41]; exact p2) p3 (by rw [i72]; exact p4) N o hN
  have hv : ∃ r, v = some (.int r) := by
    match o, hO with
    | .inl f, hO => exact ⟨_, hO.1⟩
    | .inr l2, hO => exact ⟨_, hO.1⟩
  obtain ⟨r, hv⟩ := hv
  refine ⟨r, hv, 5, by decide, zMs.weak hm (fun v2 iv2 lw2 hq2 => ?_)⟩
  obtain ⟨g1, g2, g3, g4⟩ := hq2
  -- cells of iv2
  have ec : ∀ q, q ≠ 41 → (q < 64 ∨ 73 < q) → iv2 q = iv1 q := fun q a b => (g1 q a b).trans (zoe_n iv1 s a)
  have e41 : ∀ j, j ≠ 30 → j ≠ 39 → (j < 35 ∨ 37 < j) → (j < 40 ∨ 46 < j) → (j < 49 ∨ 50 < j) → iv2 41 j = iv 41 j := fun j a0 a a1 a2 a3 => by
    rw [g2 j a0 a1 a2 a3, zoe_j iv1 s (by omega) a (by omega) (by omega) (by omega) (by omega) (by omega) (by omega), i41]
  have e39 : iv2 41 39 = 0 := (g2 39 (by decide) (by decide) (by decide) (by decide)).trans rfl
  have ecu : ∀ q, q ≠ 41 → q ≠ 12 → (q < 14 ∨ 26 < q) → (q < 64 ∨ 73 < q) → iv2 q = iv q := fun q a b d e => (ec q a e).trans (i1 q b (by omega) (by omega) (by omega) (by omega) (by omega) (by omega) (by omega) (by omega) (by omega) (by omega) (by omega) (by omega))
  have e72 : iv2 72 = iv 72 := g3.trans ((zoe_n iv1 s (by decide)).trans i72)
  have hpp : zRp iv2 := ⟨0, by rw [ec 12 (by decide) (by decide), h12]; exact pk_us, e39, by decide, by rw [ecu 13 (by decide) (by decide) (by decide) (by decide), e72]; exact p4⟩
  have hqq : zRq iv2 := by
    unfold zRq
    rw [ecu 1 (by decide) (by decide) (by decide) (by decide), ecu 29 (by decide) (by decide) (by decide) (by decide), ecu 30 (by decide) (by decide) (by decide) (by decide), ecu 31 (by decide) (by decide) (by decide) (by decide), ecu 32 (by decide) (by decide) (by decide) (by decide), ecu 76 (by decide) (by decide) (by decide) (by decide), ecu 77 (by decide) (by decide) (by decide) (by decide), ecu 78 (by decide) (by decide) (by decide) (by decide), ecu 79 (by decide) (by decide) (by decide) (by decide), e41 53 (by decide) (by decide) (by decide) (by decide) (by decide)]
    exact hq
  have hbb : zRb iv2 := by
    unfold zRb
    rw [ecu 35 (by decide) (by decide) (by decide) (by decide), ecu 36 (by decide) (by decide) (by decide) (by decide), ecu 37 (by decide) (by decide) (by decide) (by decide), ecu 38 (by decide) (by decide) (by decide) (by decide), ecu 39 (by decide) (by decide) (by decide) (by decide), ecu 40 (by decide) (by decide) (by decide) (by decide), ecu 84 (by decide) (by decide) (by decide) (by decide), ecu 85 (by decide) (by decide) (by decide) (by decide), ecu 86 (by decide) (by decide) (by decide) (by decide), ecu 87 (by decide) (by decide) (by decide) (by decide), ecu 88 (by decide) (by decide) (by decide) (by decide), ecu 89 (by decide) (by decide) (by decide) (by decide), e41 62 (by decide) (by decide) (by decide) (by decide) (by decide)]
    exact hbk
  have hkk : zRk n (c + 1) iv2 := by
    refine ⟨by rw [e41 11 (by decide) (by decide) (by decide) (by decide) (by decide)]; exact hk.1, ?_, fun i hi => ?_⟩
    · rw [ecu 0 (by decide) (by decide) (by decide) (by decide)]
      have := hk.2.1
      omega
    · rw [ecu 60 (by decide) (by decide) (by decide) (by decide), ecu 61 (by decide) (by decide) (by decide) (by decide), ecu 62 (by decide) (by decide) (by decide) (by decide), ecu 63 (by decide) (by decide) (by decide) (by decide)]
      exact hk.2.2 i hi
  -- the guide
  have key : v2 = some (.int r) ∧ zRf iv2 ∧ ∃ ls2, zRg iv2 iv2 ls2 := by
    match o, hN, hO, g4 with
    | .inl f, hN, ⟨o1, o2, o3, o4, o5, o6, o7⟩, ⟨m1, m2, m3, m4, m5, m6, m7, m8⟩ =>
      rw [o1] at hv
      have hr : r = -1 := by cases hv; rfl
      refine ⟨by rw [m1, hr], ⟨by rw [m2, ec 14 (by decide) (by decide), o2], by rw [m3, ec 14 (by decide) (by decide), o3]⟩, ls, hs.2.2.2.2.2.2.1.o (by rw [ec 23 (by decide) (by decide), o4]) (by rw [ec 24 (by decide) (by decide), o5]) (by rw [ec 25 (by decide) (by decide), o6]) (by rw [ec 26 (by decide) (by decide), o7]) ?_ ?_ ?_ ?_ ?_⟩
      · rw [m4, zoe_j iv1 s (by decide) (by decide) (by decide) (by decide) (by decide) (by decide) (by decide) (by decide), i41]
      · rw [m5, zoe_n iv1 s (by decide)]; exact i1 64 (by decide) (by decide) (by decide) (by decide) (by decide) (by decide) (by decide) (by decide) (by decide) (by decide) (by decide) (by decide) (by decide)
      · rw [m6, zoe_n iv1 s (by decide)]; exact i1 65 (by decide) (by decide) (by decide) (by decide) (by decide) (by decide) (by decide) (by decide) (by decide) (by decide) (by decide) (by decide) (by decide)
      · rw [m7, zoe_n iv1 s (by decide)]; exact i1 66 (by decide) (by decide) (by decide) (by decide) (by decide) (by decide) (by decide) (by decide) (by decide) (by decide) (by decide) (by decide) (by decide)
      · rw [m8, zoe_n iv1 s (by decide)]; exact i1 67 (by decide) (by decide) (by decide) (by decide) (by decide) (by decide) (by decide) (by decide) (by decide) (by decide) (by decide) (by decide) (by decide)
    | .inr l2, hN, ⟨o1, o2, o3, o4, o5, o6, o7⟩, ⟨m1, m2, m3, m4⟩ =>
      rw [o1] at hv
      have hr : r = nI l2.length := by cases hv; rfl
      refine ⟨by rw [m1, hr], ⟨by rw [m2, ec 14 (by decide) (by decide), o2], by rw [m3, ec 14 (by decide) (by decide), o3]⟩, l2, ?_, m4, o5, zLns_vl hN rfl, o6, o7⟩
      unfold zDr at o4 ⊢
      rw [ec 23 (by decide) (by decide), ec 24 (by decide) (by decide), ec 25 (by decide) (by decide), ec 26 (by decide) (by decide)]
      exact o4
  obtain ⟨k1, k2, ls2, k3⟩ := key
  refine ⟨k1, t, ls2, ?_, hkk, hpp, k2, hqq, hbb⟩
  obtain ⟨hX, hh, ho, ht, hck, hc, hg, hj⟩ := hs
  have e0 := ecu 0 (by decide) (by decide) (by decide) (by decide)
  have hh2 : zRh iv2 iv2 := hh.o (ecu 1 (by decide) (by decide) (by decide) (by decide)) (ecu 2 (by decide) (by decide) (by decide) (by decide)) (ecu 3 (by decide) (by decide) (by decide) (by decide)) (ecu 4 (by decide) (by decide) (by decide) (by decide)) (ecu 5 (by decide) (by decide) (by decide) (by decide)) (e41 1 (by decide) (by decide) (by decide) (by decide) (by decide)) (ecu 42 (by decide) (by decide) (by decide) (by decide)) (ecu 43 (by decide) (by decide) (by decide) (by decide)) (ecu 44 (by decide) (by decide) (by decide) (by decide)) (ecu 45 (by decide) (by decide) (by decide) (by decide))
  have ht2 : zRt iv2 iv2 t := ht.o (ecu 1 (by decide) (by decide) (by decide) (by decide)) (ecu 7 (by decide) (by decide) (by decide) (by decide)) (ecu 8 (by decide) (by decide) (by decide) (by decide)) (ecu 9 (by decide) (by decide) (by decide) (by decide)) (ecu 10 (by decide) (by decide) (by decide) (by decide)) (e41 7 (by decide) (by decide) (by decide) (by decide) (by decide)) (ecu 47 (by decide) (by decide) (by decide) (by decide)) (ecu 48 (by decide) (by decide) (by decide) (by decide)) (ecu 49 (by decide) (by decide) (by decide) (by decide))
  refine ⟨⟨hh2.2.1, ht2.1, ht2.2.2.1, ht2.2.2.2.2.2.2.2, by rw [e0]; exact hX.2.2.2.2.1, hX.2.2.2.2.2.1, fun i hi => ?_, k3.gi.1⟩, hh2, ?_, ht2, by rw [e41 0 (by decide) (by decide) (by decide) (by decide) (by decide), e0]; exact hck, by rw [e0]; exact hc, k3, fun j hjn => ?_⟩
  · have e91 := ecu (91 + 3 * i) (by omega) (by omega) (by omega) (by omega)
    have e1 := ecu 1 (by decide) (by decide) (by decide) (by decide)
    rw [e91, e1]
    exact hX.2.2.2.2.2.2.1 i hi
  · unfold zRo
    rw [ecu 46 (by decide) (by decide) (by decide) (by decide), ecu 6 (by decide) (by decide) (by decide) (by decide)]
    exact ho
  · rw [e0]
    exact (hj j hjn).o (ecu _ (by omega) (by omega) (by omega) (by omega)) (ecu _ (by omega) (by omega) (by omega) (by omega)) (ecu _ (by omega) (by omega) (by omega) (by omega)) (fun q a b => by rw [ecu q (by omega) (by omega) (by omega) (by omega)]) (fun p hp => ⟨by rw [ecu 62 (by decide) (by decide) (by decide) (by decide)], by rw [ecu 63 (by decide) (by decide) (by decide) (by decide)]⟩) (ecu 42 (by decide) (by decide) (by decide) (by decide)) (ecu 43 (by decide) (by decide) (by decide) (by decide))
end ZK6
