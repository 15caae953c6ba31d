section ZK5
variable {n c : Nat} {iv : zI} {lw : zG}
set_option maxHeartbeats 8000000 in
theorem k_book (hR : zRw n c iv) (co a d : Int32) : zCall n c iv lw yX9_book cX9_book 8 (some .int) yX10_book cX10_book 5 (some .int) [.int co, .int a, .int d] := by
  obtain ⟨t, ls, hs, hk, hp, hff, hq, ⟨b, b1, b2, b3, b4, b5⟩⟩ := id hR
  obtain ⟨hX, hh, ho, ht, hck, hc, hg, hj⟩ := id hs
  have hn := hX.2.2.2.2.2.1
  have h03 := hX.2.2.2.2.1
  rcases zco_c hR co with ⟨i, hi, rfl⟩ | ⟨h1, h2⟩
  · obtain ⟨⟨a1, a2, a3, a4, a5⟩, -⟩ := hj i hi
    obtain ⟨⟨k1, k1'⟩, ⟨k2, k2'⟩, k3, k5, k6, -⟩ := hX.2.2.2.2.2.2.1 i hi
    have hI := hh.2.1
    have el := zlo_t (iv (91 + 3 * i) 2) (iv (91 + 3 * i) 3)
    have eh := zhi_t (iv (91 + 3 * i) 2) (iv (91 + 3 * i) 3)
    have e62 : (iv 41 62).toInt = b := by rw [b2, nI_toInt (by omega)]
    by_cases P : (((zlo (iv (91 + 3 * i) 2) (iv (91 + 3 * i) 3)).toInt ≤ a.toInt ∧ a.toInt ≤ (zhi (iv (91 + 3 * i) 2) (iv (91 + 3 * i) 3)).toInt) ∧ ((zlo (iv (91 + 3 * i) 2) (iv (91 + 3 * i) 3)).toInt ≤ d.toInt ∧ d.toInt ≤ (zhi (iv (91 + 3 * i) 2) (iv (91 + 3 * i) 3)).toInt) ∧ (((iv (91 + 3 * i) 2).toInt < (iv (91 + 3 * i) 3).toInt ∧ a.toInt < d.toInt) ∨ (¬ (iv (91 + 3 * i) 2).toInt < (iv (91 + 3 * i) 3).toInt ∧ d.toInt < a.toInt)))
    · have P0 := P
      rw [el, eh] at P
      have hse := zseats_b (iv (91 + 3 * i) 0)
      have hlo0 : 0 ≤ (if (iv (91 + 3 * i) 3).toInt < (iv (91 + 3 * i) 2).toInt then (iv (91 + 3 * i) 3).toInt else (iv (91 + 3 * i) 2).toInt) := by split <;> omega
      have hhi0 : (if (iv (91 + 3 * i) 2).toInt < (iv (91 + 3 * i) 3).toInt then (iv (91 + 3 * i) 3).toInt else (iv (91 + 3 * i) 2).toInt) < (iv 1 0).toInt := by split <;> omega
      have ha0 : 0 ≤ a.toInt ∧ a.toInt < (iv 1 0).toInt := by omega
      have hd0 : 0 ≤ d.toInt ∧ d.toInt < (iv 1 0).toInt := by omega
      have ea := znI_cl ha0.1
      have ca := zcl_int ha0.1
      have ed := znI_cl hd0.1
      have cd := zcl_int hd0.1
      have gl := zlo_t a d
      have gh := zhi_t a d
      have hs01 := fun s : Nat => zsum_01 (ztk_01 (iv 36) (iv 37) (iv 38) (iv 39) (iv 40) (nI i) (nI s) (iv 0 10)) b (by omega)
      have hdn : ∀ s : Nat, (1 ≤ (zdown (zseats (iv 50 i)) (zmtk (iv 84) (iv 85) (iv 86) (iv 87) (iv 88) (iv 89) (nI i) (nI s) (iv 41 0)) b).toInt) ↔ (zsum (ztk (iv 36) (iv 37) (iv 38) (iv 39) (iv 40) (nI i) (nI s) (iv 0 10)) b).toInt < (zseats (iv (91 + 3 * i) 0)).toInt := fun s => by
        rw [hck, a1, zdown_sum (g := ztk (iv 36) (iv 37) (iv 38) (iv 39) (iv 40) (nI i) (nI s) (iv 0 10)) _ (ztk_01 _ _ _ _ _ _ _ _) b (fun k hk2 => ztk_same b4 (nI i) (nI s) (iv 0 10) hk2)]
        have := hs01 s
        rw [zt_sub (by omega) (by omega)]
        omega
      by_cases hfull : b = 100
      · have hm2 := m_book2 n iv lw hk.1 hn i hi a d (fun z => z.1 (by rw [b2, hfull]; rfl))
        have main : ∀ (l e : Nat), zlo a d = nI l → zhi a d = nI (l + e) → l + e ≤ 8 → zCall n c iv lw yX9_book cX9_book 8 (some .int) yX10_book cX10_book 5 (some .int) [.int (nI i), .int a, .int d] := fun l e q1 q2 q3 =>
          zCall.p hR (x_book1 n iv lw h03 hn i hi a d b b1 b3 l e q1 q2 q3 P0 (-1) iv ⟨fun _ => by rw [if_neg (by omega), if_neg (by omega)]; exact ⟨rfl, rfl⟩, fun _ => ⟨rfl, rfl⟩⟩) hm2 rfl
        rcases P.2.2 with ⟨U, V⟩ | ⟨U, V⟩
        · refine main a.toNatClampNeg (d.toNatClampNeg - a.toNatClampNeg) ?_ ?_ (by omega)
          · rw [ea]; exact Int32.toInt_inj.mp (by rw [gl, if_neg (by omega)])
          · rw [show a.toNatClampNeg + (d.toNatClampNeg - a.toNatClampNeg) = d.toNatClampNeg by omega, ed]; exact Int32.toInt_inj.mp (by rw [gh, if_pos V])
        · refine main d.toNatClampNeg (a.toNatClampNeg - d.toNatClampNeg) ?_ ?_ (by omega)
          · rw [ed]; exact Int32.toInt_inj.mp (by rw [gl, if_pos V])
          · rw [show d.toNatClampNeg + (a.toNatClampNeg - d.toNatClampNeg) = a.toNatClampNeg by omega, ea]; exact Int32.toInt_inj.mp (by rw [gh, if_neg (by omega)])
      · have hb100 : b < 100 := by omega
        have h62 : ¬ iv 41 62 = 100 := fun z => by rw [z] at e62; rw [show Int32.toInt 100 = 100 by decide] at e62; omega
        rcases P.2.2 with ⟨U, V⟩ | ⟨U, V⟩
        · rw [if_neg (by omega), if_pos U] at P
          have hd2 : a.toNatClampNeg + (d.toNatClampNeg - a.toNatClampNeg) = d.toNatClampNeg := by omega
          have q1 : zlo a d = nI a.toNatClampNeg := by rw [ea]; exact Int32.toInt_inj.mp (by rw [gl, if_neg (by omega)])
          have q2 : zhi a d = nI (a.toNatClampNeg + (d.toNatClampNeg - a.toNatClampNeg)) := by rw [hd2, ed]; exact Int32.toInt_inj.mp (by rw [gh, if_pos V])
          have hp1 : ¬ iv 41 62 = 100 ∧ (0 ≤ a.toInt ∧ a.toInt < (iv 41 1).toInt) ∧ (0 ≤ d.toInt ∧ d.toInt < (iv 41 1).toInt) ∧ (((iv 52 i).toInt < (iv 53 i).toInt ∧ (iv 52 i).toInt ≤ a.toInt ∧ a.toInt ≤ (iv 53 i).toInt) ∨ (¬ (iv 52 i).toInt < (iv 53 i).toInt ∧ a.toInt ≤ (iv 52 i).toInt ∧ (iv 53 i).toInt ≤ a.toInt)) ∧ (((iv 52 i).toInt < (iv 53 i).toInt ∧ (iv 52 i).toInt ≤ d.toInt ∧ d.toInt ≤ (iv 53 i).toInt) ∨ (¬ (iv 52 i).toInt < (iv 53 i).toInt ∧ d.toInt ≤ (iv 52 i).toInt ∧ (iv 53 i).toInt ≤ d.toInt)) ∧ 0 < ((d - a) * zstep (iv 52 i) (iv 53 i)).toInt := by
            rw [a3, a4, hh.1]
            refine ⟨h62, ha0, hd0, Or.inl ⟨U, P.1⟩, Or.inl ⟨U, P.2.1⟩, ?_⟩
            unfold zstep
            rw [if_pos U, Int32.mul_one, zt_sub (by omega) (by omega)]
            omega
          by_cases R : zroom (zseats (iv (91 + 3 * i) 0)) (fun s => (zsum (ztk (iv 36) (iv 37) (iv 38) (iv 39) (iv 40) (nI i) (nI s) (iv 0 10)) b)) a.toNatClampNeg (d.toNatClampNeg - a.toNatClampNeg)
          · have hx := x_book1 n iv lw h03 hn i hi a d b b1 b3 _ _ q1 q2 (by omega) P0 (nI b) (zbook iv (nI i) (zlo a d) (zhi a d) (iv 0 10)) ⟨fun _ => by rw [if_pos hb100, if_pos hb100, q1, q2]; exact ⟨b1.symm, rfl⟩, fun z => absurd R z⟩
            have ho1 : ∀ q, 41 < q → q < 91 → zbook iv (nI i) (zlo a d) (zhi a d) (iv 0 10) q = iv q := fun q z1 z2 => by
              unfold zbook
              rw [zu_n _ _ _ (by omega), zu_n _ _ _ (by omega), zu_n _ _ _ (by omega), zu_n _ _ _ (by omega), zu_n _ _ _ (by omega), zu_n _ _ _ (by omega)]
            have ho41 : zbook iv (nI i) (zlo a d) (zhi a d) (iv 0 10) 41 = iv 41 := rfl
            have hm := m_book1U n (zbook iv (nI i) (zlo a d) (zhi a d) (iv 0 10)) lw (by rw [ho41]; exact hk.1) hn i hi d.toNatClampNeg a.toNatClampNeg (d.toNatClampNeg - a.toNatClampNeg) (by rw [ho1 52 (by decide) (by decide), ho1 53 (by decide) (by decide), a3, a4]; exact U) hd2 (by omega) b (by rw [ho41]; exact b2) b3 (by rw [ea, ed, ho41, ho1 52 (by decide) (by decide), ho1 53 (by decide) (by decide)]; exact hp1) (nI b) (zmbook (zbook iv (nI i) (zlo a d) (zhi a d) (iv 0 10)) (nI i) a d) (by
              rw [ea, ed, ho41, ho1 50 (by decide) (by decide), ho1 84 (by decide) (by decide), ho1 85 (by decide) (by decide), ho1 86 (by decide) (by decide), ho1 87 (by decide) (by decide), ho1 88 (by decide) (by decide), ho1 89 (by decide) (by decide)]
              exact ⟨fun _ => ⟨b2.symm, rfl⟩, fun z => absurd (fun m hm => (hdn _).mpr ((zroom_iff _ _).mp R m hm)) z⟩)
            rw [ea, ed] at hm
            exact zCall.i hx hm rfl (hR.bk b1 hb100 rfl rfl)
          · have hx := x_book1 n iv lw h03 hn i hi a d b b1 b3 _ _ q1 q2 (by omega) P0 (-1) iv ⟨fun z => absurd z R, fun _ => ⟨rfl, rfl⟩⟩
            have hm := m_book1U n iv lw hk.1 hn i hi d.toNatClampNeg a.toNatClampNeg (d.toNatClampNeg - a.toNatClampNeg) (by rw [a3, a4]; exact U) hd2 (by omega) b b2 b3 (by rw [ea, ed]; exact hp1) (-1) iv ⟨fun z => absurd ((zroom_iff _ _).mpr (fun m hm => (hdn _).mp (z m hm))) R, fun _ => ⟨rfl, rfl⟩⟩
            rw [ea, ed] at hm
            exact zCall.p hR hx hm rfl
        · rw [if_pos (by omega), if_neg U] at P
          have hd2 : d.toNatClampNeg + (a.toNatClampNeg - d.toNatClampNeg) = a.toNatClampNeg := by omega
          have q1 : zlo a d = nI d.toNatClampNeg := by rw [ed]; exact Int32.toInt_inj.mp (by rw [gl, if_pos V])
          have q2 : zhi a d = nI (d.toNatClampNeg + (a.toNatClampNeg - d.toNatClampNeg)) := by rw [hd2, ea]; exact Int32.toInt_inj.mp (by rw [gh, if_neg (by omega)])
          have hp1 : ¬ iv 41 62 = 100 ∧ (0 ≤ a.toInt ∧ a.toInt < (iv 41 1).toInt) ∧ (0 ≤ d.toInt ∧ d.toInt < (iv 41 1).toInt) ∧ (((iv 52 i).toInt < (iv 53 i).toInt ∧ (iv 52 i).toInt ≤ a.toInt ∧ a.toInt ≤ (iv 53 i).toInt) ∨ (¬ (iv 52 i).toInt < (iv 53 i).toInt ∧ a.toInt ≤ (iv 52 i).toInt ∧ (iv 53 i).toInt ≤ a.toInt)) ∧ (((iv 52 i).toInt < (iv 53 i).toInt ∧ (iv 52 i).toInt ≤ d.toInt ∧ d.toInt ≤ (iv 53 i).toInt) ∨ (¬ (iv 52 i).toInt < (iv 53 i).toInt ∧ d.toInt ≤ (iv 52 i).toInt ∧ (iv 53 i).toInt ≤ d.toInt)) ∧ 0 < ((d - a) * zstep (iv 52 i) (iv 53 i)).toInt := by
            rw [a3, a4, hh.1]
            refine ⟨h62, ha0, hd0, Or.inr ⟨U, P.1.2, P.1.1⟩, Or.inr ⟨U, P.2.1.2, P.2.1.1⟩, ?_⟩
            unfold zstep
            have e0 : (d - a).toInt = d.toInt - a.toInt := zt_sub (by omega) (by omega)
            rw [if_neg U, zt_mul (by rw [e0, show Int32.toInt (-1) = -1 by decide]; omega) (by rw [e0, show Int32.toInt (-1) = -1 by decide]; omega), e0, show Int32.toInt (-1) = -1 by decide]
            omega
          have hrev : (∀ m, m < a.toNatClampNeg - d.toNatClampNeg → (zsum (ztk (iv 36) (iv 37) (iv 38) (iv 39) (iv 40) (nI i) (nI (d.toNatClampNeg + m)) (iv 0 10)) b).toInt < (zseats (iv (91 + 3 * i) 0)).toInt) ↔ ∀ m, m < a.toNatClampNeg - d.toNatClampNeg → (zsum (ztk (iv 36) (iv 37) (iv 38) (iv 39) (iv 40) (nI i) (nI (a.toNatClampNeg - (m + 1))) (iv 0 10)) b).toInt < (zseats (iv (91 + 3 * i) 0)).toInt := by
            constructor
            · intro h m hm
              have := h (a.toNatClampNeg - d.toNatClampNeg - (m + 1)) (by omega)
              rw [show d.toNatClampNeg + (a.toNatClampNeg - d.toNatClampNeg - (m + 1)) = a.toNatClampNeg - (m + 1) by omega] at this
              exact this
            · intro h m hm
              have := h (a.toNatClampNeg - d.toNatClampNeg - (m + 1)) (by omega)
              rw [show a.toNatClampNeg - (a.toNatClampNeg - d.toNatClampNeg - (m + 1) + 1) = d.toNatClampNeg + m by omega] at this
              exact this
          by_cases R : zroom (zseats (iv (91 + 3 * i) 0)) (fun s => (zsum (ztk (iv 36) (iv 37) (iv 38) (iv 39) (iv 40) (nI i) (nI s) (iv 0 10)) b)) d.toNatClampNeg (a.toNatClampNeg - d.toNatClampNeg)
          · have hx := x_book1 n iv lw h03 hn i hi a d b b1 b3 _ _ q1 q2 (by omega) P0 (nI b) (zbook iv (nI i) (zlo a d) (zhi a d) (iv 0 10)) ⟨fun _ => by rw [if_pos hb100, if_pos hb100, q1, q2]; exact ⟨b1.symm, rfl⟩, fun z => absurd R z⟩
            have ho1 : ∀ q, 41 < q → q < 91 → zbook iv (nI i) (zlo a d) (zhi a d) (iv 0 10) q = iv q := fun q z1 z2 => by
              unfold zbook
              rw [zu_n _ _ _ (by omega), zu_n _ _ _ (by omega), zu_n _ _ _ (by omega), zu_n _ _ _ (by omega), zu_n _ _ _ (by omega), zu_n _ _ _ (by omega)]
            have ho41 : zbook iv (nI i) (zlo a d) (zhi a d) (iv 0 10) 41 = iv 41 := rfl
            have hm := m_book1D n (zbook iv (nI i) (zlo a d) (zhi a d) (iv 0 10)) lw (by rw [ho41]; exact hk.1) hn i hi d.toNatClampNeg a.toNatClampNeg (a.toNatClampNeg - d.toNatClampNeg) (by rw [ho1 52 (by decide) (by decide), ho1 53 (by decide) (by decide), a3, a4]; exact U) hd2 (by omega) b (by rw [ho41]; exact b2) b3 (by rw [ea, ed, ho41, ho1 52 (by decide) (by decide), ho1 53 (by decide) (by decide)]; exact hp1) (nI b) (zmbook (zbook iv (nI i) (zlo a d) (zhi a d) (iv 0 10)) (nI i) a d) (by
              rw [ea, ed, ho41, ho1 50 (by decide) (by decide), ho1 84 (by decide) (by decide), ho1 85 (by decide) (by decide), ho1 86 (by decide) (by decide), ho1 87 (by decide) (by decide), ho1 88 (by decide) (by decide), ho1 89 (by decide) (by decide)]
              exact ⟨fun _ => ⟨b2.symm, rfl⟩, fun z => absurd (fun m hm => (hdn _).mpr (hrev.mp ((zroom_iff _ _).mp R) m hm)) z⟩)
            rw [ea, ed] at hm
            exact zCall.i hx hm rfl (hR.bk b1 hb100 rfl rfl)
          · have hx := x_book1 n iv lw h03 hn i hi a d b b1 b3 _ _ q1 q2 (by omega) P0 (-1) iv ⟨fun z => absurd z R, fun _ => ⟨rfl, rfl⟩⟩
            have hm := m_book1D n iv lw hk.1 hn i hi d.toNatClampNeg a.toNatClampNeg (a.toNatClampNeg - d.toNatClampNeg) (by rw [a3, a4]; exact U) hd2 (by omega) b b2 b3 (by rw [ea, ed]; exact hp1) (-1) iv ⟨fun z => absurd ((zroom_iff _ _).mpr (hrev.mpr (fun m hm => (hdn _).mp (z m hm)))) R, fun _ => ⟨rfl, rfl⟩⟩
            rw [ea, ed] at hm
            exact zCall.p hR hx hm rfl
    · refine zCall.p hR (x_book2 n iv lw h03 hn i hi a d P) (m_book2 n iv lw hk.1 hn i hi a d (fun z => P ?_)) rfl
      rw [a3, a4, hh.1] at z
      obtain ⟨z1, z2, z3, z4, z5, z6⟩ := z
      rw [el, eh]
      unfold zstep at z6
      rcases z4 with ⟨u, v⟩ | ⟨u, v⟩
      · rcases z5 with ⟨u2, v2⟩ | ⟨u2, v2⟩
        · rw [if_pos u, Int32.mul_one, zt_sub (by omega) (by omega)] at z6
          rw [if_neg (by omega), if_pos u]
          exact ⟨v, v2, Or.inl ⟨u, by omega⟩⟩
        · exact absurd u u2
      · rcases z5 with ⟨u2, v2⟩ | ⟨u2, v2⟩
        · exact absurd u2 u
        · have e0 : (d - a).toInt = d.toInt - a.toInt := zt_sub (by omega) (by omega)
          rw [if_neg u, zt_mul (by rw [e0, show Int32.toInt (-1) = -1 by decide]; omega) (by rw [e0, show Int32.toInt (-1) = -1 by decide]; omega), e0, show Int32.toInt (-1) = -1 by decide] at z6
          rw [if_pos (by omega), if_neg u]
          exact ⟨⟨v.2, v.1⟩, ⟨v2.2, v2.1⟩, Or.inr ⟨u, by omega⟩⟩
  · exact zCall.p hR (x_book0 n iv lw h03 hn co h1 a d) (m_book0 n iv lw co a d h2) rfl
end ZK5
