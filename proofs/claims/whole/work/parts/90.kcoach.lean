/-! coach, either way -/
section ZK7
variable {n c : Nat} {iv : zI} {lw : zG}
theorem k_coach0 (hR : zRw n c iv) (ki lo fr to st : Int32) (hP : ¬ zPco n (iv 1 0).toInt (iv 0 10) ki lo fr to st) : zMs yX10_coach cX10_coach 7 (some .int) 1 [.ref 41, .int ki, .int lo, .int fr, .int to, .int st] n iv lw (fun v iv2 _ => v = some (.int (-1)) ∧ zRw n (c + 1) iv2) := by
  obtain ⟨t, ls, ⟨hX, hh, -, -, hck, -⟩, hk, -⟩ := id hR
  refine zMs.weak (m_coach0 n iv lw hk.1 hX.2.2.2.2.2.1 ki lo fr to st (by rw [hh.1, hck]; exact hP)) (fun v iv2 lw2 hq => ?_)
  obtain ⟨e1, e2, -⟩ := hq
  rw [e2]
  exact ⟨e1, hR.up⟩
theorem k_coach1 (hR : zRw n c iv) (ki lo fr to st : Int32) (hP : zPco n (iv 1 0).toInt (iv 0 10) ki lo fr to st) : zMs yX10_coach cX10_coach 7 (some .int) 1 [.ref 41, .int ki, .int lo, .int fr, .int to, .int st] (n + 1) (zcoach iv n ki lo fr to st) lw (fun v iv2 _ => v = some (.int (nI n)) ∧ zRw (n + 1) (c + 1) iv2) := by
  obtain ⟨t, ls, ⟨hX, hh, ho, ht, hck, hc, hg, hj⟩, hk, hp, hff, hq, hbk⟩ := id hR
  have hn8 : n < 8 := by have := hP.1; omega
  have z1 : ∀ q, q < 91 + 3 * n → q ≠ 0 → zcoach iv n ki lo fr to st q = iv q := fun q a b => by
    unfold zcoach
    rw [zu_n _ _ _ b, if_neg (by omega), if_neg (by omega)]
  have z41 := z1 41 (by omega) (by decide)
  have z0 : zcoach iv n ki lo fr to st 0 = upd (iv 0) 3 (nI (n + 1)) := by
    unfold zcoach
    rw [zu_s, if_neg (by omega), if_neg (by omega)]
  have zn : zcoach iv n ki lo fr to st (91 + 3 * n) = zco0 ki lo fr to st := by
    unfold zcoach
    rw [zu_n _ _ _ (by omega), if_pos rfl]
  have zn1 : zcoach iv n ki lo fr to st (91 + 3 * n + 1) = fun _ => 0 := by
    unfold zcoach
    rw [zu_n _ _ _ (by omega), if_neg (by omega), if_pos (Or.inl rfl)]
  have zn2 : zcoach iv n ki lo fr to st (91 + 3 * n + 2) = fun _ => 0 := by
    unfold zcoach
    rw [zu_n _ _ _ (by omega), if_neg (by omega), if_pos (Or.inr rfl)]
  refine zMs.weak (m_coach2 (n + 1) n (zcoach iv n ki lo fr to st) lw (by rw [z41]; exact hk.1) (by omega) ki lo fr to st (by rw [z41, hh.1, hck]; exact hP)) (fun v iv2 lw2 hq2 => ?_)
  obtain ⟨e1, e2, -⟩ := hq2
  have o1 : ∀ q, q ≠ 41 → (q < 50 ∨ 59 < q) → iv2 q = zcoach iv n ki lo fr to st q := fun q a b => by
    rw [e2]
    unfold zmcoach
    rw [zu_n _ _ _ a, zu_n _ _ _ (by omega), zu_n _ _ _ (by omega), zu_n _ _ _ (by omega), zu_n _ _ _ (by omega), zu_n _ _ _ (by omega), zu_n _ _ _ (by omega), zu_n _ _ _ (by omega), zu_n _ _ _ (by omega), zu_n _ _ _ (by omega), zu_n _ _ _ (by omega)]
  have o2 : ∀ q, q < 91 + 3 * n → q ≠ 0 → q ≠ 41 → (q < 50 ∨ 59 < q) → iv2 q = iv q := fun q a b d e => (o1 q d e).trans (z1 q a b)
  have o41 : ∀ j, j ≠ 11 → iv2 41 j = iv 41 j := fun j a => by
    rw [e2]
    unfold zmcoach
    rw [zu_s, pk_un a, ← z41]
    rfl
  have e41 : iv2 41 11 = nI (n + 1) := by rw [e2]; exact zu_ss _ _ _ _
  have a50 : iv2 50 = upd (iv 50) n ki := by rw [e2, ← z1 50 (by omega) (by decide)]; rfl
  have a51 : iv2 51 = upd (iv 51) n lo := by rw [e2, ← z1 51 (by omega) (by decide)]; rfl
  have a52 : iv2 52 = upd (iv 52) n fr := by rw [e2, ← z1 52 (by omega) (by decide)]; rfl
  have a53 : iv2 53 = upd (iv 53) n to := by rw [e2, ← z1 53 (by omega) (by decide)]; rfl
  have a54 : iv2 54 = upd (iv 54) n st := by rw [e2, ← z1 54 (by omega) (by decide)]; rfl
  have a55 : iv2 55 = upd (iv 55) n 0 := by rw [e2, ← z1 55 (by omega) (by decide)]; rfl
  have a56 : iv2 56 = upd (iv 56) n fr := by rw [e2, ← z1 56 (by omega) (by decide)]; rfl
  have a57 : iv2 57 = upd (iv 57) n (-1) := by rw [e2, ← z1 57 (by omega) (by decide)]; rfl
  have a58 : iv2 58 = upd (iv 58) n (-1) := by rw [e2, ← z1 58 (by omega) (by decide)]; rfl
  have a59 : iv2 59 = upd (iv 59) n (-1) := by rw [e2, ← z1 59 (by omega) (by decide)]; rfl
  have i0 : iv2 0 = upd (iv 0) 3 (nI (n + 1)) := (o1 0 (by decide) (by decide)).trans z0
  have i10 : iv2 0 10 = iv 0 10 := by rw [i0, pk_un (by decide)]
  have cn := (o1 (91 + 3 * n) (by omega) (by omega)).trans zn
  have cn1 := (o1 (91 + 3 * n + 1) (by omega) (by omega)).trans zn1
  have cn2 := (o1 (91 + 3 * n + 2) (by omega) (by omega)).trans zn2
  obtain ⟨w60, w61, w62⟩ := hk.2.2 n (Nat.le_refl _)
  have hh2 : zRh iv2 iv2 := hh.o (o2 1 (by omega) (by decide) (by decide) (by decide)) (o2 2 (by omega) (by decide) (by decide) (by decide)) (o2 3 (by omega) (by decide) (by decide) (by decide)) (o2 4 (by omega) (by decide) (by decide) (by decide)) (o2 5 (by omega) (by decide) (by decide) (by decide)) (o41 1 (by decide)) (o2 42 (by omega) (by decide) (by decide) (by decide)) (o2 43 (by omega) (by decide) (by decide) (by decide)) (o2 44 (by omega) (by decide) (by decide) (by decide)) (o2 45 (by omega) (by decide) (by decide) (by decide))
  have ht2 : zRt iv2 iv2 t := ht.o (o2 1 (by omega) (by decide) (by decide) (by decide)) (o2 7 (by omega) (by decide) (by decide) (by decide)) (o2 8 (by omega) (by decide) (by decide) (by decide)) (o2 9 (by omega) (by decide) (by decide) (by decide)) (o2 10 (by omega) (by decide) (by decide) (by decide)) (o41 7 (by decide)) (o2 47 (by omega) (by decide) (by decide) (by decide)) (o2 48 (by omega) (by decide) (by decide) (by decide)) (o2 49 (by omega) (by decide) (by decide) (by decide))
  have hg2 : zRg iv2 iv2 ls := hg.o (o2 23 (by omega) (by decide) (by decide) (by decide)) (o2 24 (by omega) (by decide) (by decide) (by decide)) (o2 25 (by omega) (by decide) (by decide) (by decide)) (o2 26 (by omega) (by decide) (by decide) (by decide)) (o41 30 (by decide)) (o2 64 (by omega) (by decide) (by decide) (by decide)) (o2 65 (by omega) (by decide) (by decide) (by decide)) (o2 66 (by omega) (by decide) (by decide) (by decide)) (o2 67 (by omega) (by decide) (by decide) (by decide))
  obtain ⟨p1, p2, p3, p4, p5, p6, p7⟩ := hP
  have e1i := o2 1 (by omega) (by decide) (by decide) (by decide)
  have p7' : ¬ fr.toInt = to.toInt := fun z => p7 (Int32.toInt_inj.mp z)
  refine ⟨e1, t, ls, ⟨⟨hh2.2.1, ht2.1, ht2.2.2.1, ht2.2.2.2.2.2.2.2, by rw [i0, pk_us], by omega, fun i hi => ?_, hg2.gi.1⟩, hh2, ?_, ht2, by rw [o41 0 (by decide), i10]; exact hck, by rw [i10]; exact hc, hg2, fun j hjn => ?_⟩, ⟨e41, ?_, fun i hi => ?_⟩, ?_, ?_, ?_, ?_⟩
  · by_cases q : i = n
    · subst q
      rw [cn, e1i]
      refine ⟨p5, p6, p7', fun z => ⟨Int.le_refl _, Int.le_of_lt z⟩, fun z => ⟨?_, Int.le_refl _⟩, Or.inl rfl, fun _ => p7', fun z => by rcases z with z | z | z <;> exact absurd z (show ¬ (0 : Int32) = _ by decide)⟩
      show to.toInt ≤ fr.toInt
      have z : ¬ fr.toInt < to.toInt := z
      omega
    · rw [o2 (91 + 3 * i) (by omega) (by omega) (by omega) (by omega), e1i]
      exact hX.2.2.2.2.2.2.1 i (by omega)
  · unfold zRo
    rw [o2 46 (by omega) (by decide) (by decide) (by decide), o2 6 (by omega) (by decide) (by decide) (by decide)]
    exact ho
  · rw [i10]
    by_cases q : j = n
    · subst q
      unfold zRj
      rw [cn, cn1, cn2, a50, a51, a52, a53, a54, a55, a56, a57, a58, a59, o2 60 (by omega) (by decide) (by decide) (by decide), o2 61 (by omega) (by decide) (by decide) (by decide), o2 62 (by omega) (by decide) (by decide) (by decide), o2 63 (by omega) (by decide) (by decide) (by decide), pk_us, pk_us, pk_us, pk_us, pk_us, pk_us, pk_us, pk_us]
      refine ⟨⟨rfl, rfl, rfl, rfl, rfl⟩, ⟨rfl, rfl, rfl, w61⟩, ⟨p2, p3, by show 0 ≤ st.toInt ∧ st.toInt ≤ 10000000; omega⟩, ⟨fun z => absurd z (show ¬ (0 : Int32) = 1 by decide), fun z => absurd z (show ¬ (0 : Int32) = 3 by decide)⟩, ?_, fun p hp2 => ⟨(w62 p hp2).1, ?_⟩, fun z => absurd z (show ¬ (0 : Int32) = 2 by decide)⟩
      · rw [if_neg (show ¬ zco0 ki lo fr to st 5 = 1 from (show ¬ (0 : Int32) = 1 by decide))]
        exact w60
      · rw [if_neg (show ¬ (zco0 ki lo fr to st 5 = 1 ∨ zco0 ki lo fr to st 5 = 3) from fun z => z.elim (show ¬ (0 : Int32) = 1 by decide) (show ¬ (0 : Int32) = 3 by decide))]
        exact (w62 p hp2).2
    · refine (hj j (by omega)).o (o2 _ (by omega) (by omega) (by omega) (by omega)) (o2 _ (by omega) (by omega) (by omega) (by omega)) (o2 _ (by omega) (by omega) (by omega) (by omega)) (fun q2 x y => ?_) (fun p hp2 => ⟨by rw [o2 62 (by omega) (by decide) (by decide) (by decide)], by rw [o2 63 (by omega) (by decide) (by decide) (by decide)]⟩) (o2 42 (by omega) (by decide) (by decide) (by decide)) (o2 43 (by omega) (by decide) (by decide) (by decide))
      have hq2 : q2 = 50 ∨ q2 = 51 ∨ q2 = 52 ∨ q2 = 53 ∨ q2 = 54 ∨ q2 = 55 ∨ q2 = 56 ∨ q2 = 57 ∨ q2 = 58 ∨ q2 = 59 ∨ q2 = 60 ∨ q2 = 61 := by omega
      rcases hq2 with z | z | z | z | z | z | z | z | z | z | z | z <;> subst z
      · rw [a50, pk_un q]
      · rw [a51, pk_un q]
      · rw [a52, pk_un q]
      · rw [a53, pk_un q]
      · rw [a54, pk_un q]
      · rw [a55, pk_un q]
      · rw [a56, pk_un q]
      · rw [a57, pk_un q]
      · rw [a58, pk_un q]
      · rw [a59, pk_un q]
      · rw [o2 60 (by omega) (by decide) (by decide) (by decide)]
      · rw [o2 61 (by omega) (by decide) (by decide) (by decide)]
  · rw [i10]
    have := hk.2.1
    omega
  · rw [o2 60 (by omega) (by decide) (by decide) (by decide), o2 61 (by omega) (by decide) (by decide) (by decide), o2 62 (by omega) (by decide) (by decide) (by decide), o2 63 (by omega) (by decide) (by decide) (by decide)]
    exact hk.2.2 i (by omega)
  · unfold zRp
    rw [o2 12 (by omega) (by decide) (by decide) (by decide), o2 13 (by omega) (by decide) (by decide) (by decide), o2 72 (by omega) (by decide) (by decide) (by decide), o41 39 (by decide)]
    exact hp
  · unfold zRf
    rw [o2 14 (by omega) (by decide) (by decide) (by decide), o41 40 (by decide), o41 41 (by decide)]
    exact hff
  · unfold zRq
    rw [e1i, o2 29 (by omega) (by decide) (by decide) (by decide), o2 30 (by omega) (by decide) (by decide) (by decide), o2 31 (by omega) (by decide) (by decide) (by decide), o2 32 (by omega) (by decide) (by decide) (by decide), o2 76 (by omega) (by decide) (by decide) (by decide), o2 77 (by omega) (by decide) (by decide) (by decide), o2 78 (by omega) (by decide) (by decide) (by decide), o2 79 (by omega) (by decide) (by decide) (by decide), o41 53 (by decide)]
    exact hq
  · unfold zRb
    rw [o2 35 (by omega) (by decide) (by decide) (by decide), o2 36 (by omega) (by decide) (by decide) (by decide), o2 37 (by omega) (by decide) (by decide) (by decide), o2 38 (by omega) (by decide) (by decide) (by decide), o2 39 (by omega) (by decide) (by decide) (by decide), o2 40 (by omega) (by decide) (by decide) (by decide), o2 84 (by omega) (by decide) (by decide) (by decide), o2 85 (by omega) (by decide) (by decide) (by decide), o2 86 (by omega) (by decide) (by decide) (by decide), o2 87 (by omega) (by decide) (by decide) (by decide), o2 88 (by omega) (by decide) (by decide) (by decide), o2 89 (by omega) (by decide) (by decide) (by decide), o41 62 (by decide)]
    exact hbk
/-- as the constructors leave it -/
theorem zRw_0 {iv : zI} (h : ∀ k, k < 91 → iv k = zI0 k) : zRw 0 0 iv := by
  have e : ∀ k, k < 91 → iv k = zI0 k := h
  have zz : ∀ k, k < 91 → k ≠ 1 → k ≠ 2 → k ≠ 14 → k ≠ 41 → k ≠ 42 → iv k = fun _ => 0 := fun k a b1 b2 b3 b4 b5 => by
    rw [e k a]
    unfold zI0
    rw [if_neg b1, if_neg b2, if_neg b3, if_neg b4, if_neg b5]
  have i1 : iv 1 = upd (fun _ => 0) 0 2 := e 1 (by decide)
  have i2 : iv 2 = upd (fun _ => 0) 0 1 := e 2 (by decide)
  have i14 : iv 14 = upd (fun _ => 0) 6 (-1) := e 14 (by decide)
  have i41 : iv 41 = upd (upd (fun _ => 0) 1 2) 41 (-1) := e 41 (by decide)
  have i42 : iv 42 = upd (fun _ => 0) 0 1 := e 42 (by decide)
  have z : ∀ k, k < 91 → (k ≠ 1 ∧ k ≠ 2 ∧ k ≠ 14 ∧ k ≠ 41 ∧ k ≠ 42) → iv k = fun _ => 0 := fun k a b => zz k a b.1 b.2.1 b.2.2.1 b.2.2.2.1 b.2.2.2.2
  have hh : zRh iv iv := by
    refine ⟨by rw [i41, i1]; rfl, by rw [i1]; decide, by rw [i42, i2], by rw [z 43 (by decide) (by decide), z 3 (by decide) (by decide)], by rw [z 44 (by decide) (by decide), z 4 (by decide) (by decide)], by rw [z 45 (by decide) (by decide), z 5 (by decide) (by decide)], fun k => ?_, fun k hk => ?_⟩
    · rw [i2, z 3 (by decide) (by decide), z 4 (by decide) (by decide), z 5 (by decide) (by decide)]
      refine ⟨?_, show 0 ≤ (0 : Int32).toInt ∧ (0 : Int32).toInt ≤ 9 by decide, show 0 ≤ (0 : Int32).toInt ∧ (0 : Int32).toInt ≤ 9 by decide, show 0 ≤ (0 : Int32).toInt ∧ (0 : Int32).toInt < 4 by decide⟩
      by_cases q : k = 0
      · subst q; rw [pk_us]; decide
      · rw [pk_un q]; decide
    · rw [i1] at hk
      have hk : (k : Int) < 2 - 1 := hk
      have : k = 0 := by omega
      subst this
      rw [i2, pk_us]
      decide
  have hg : zRg iv iv [] := by
    refine ⟨⟨by rw [z 23 (by decide) (by decide)]; rfl, by rw [z 23 (by decide) (by decide)]; rfl, fun j hj => absurd hj (by simp [zfl]), fun l hl => absurd hl (by simp)⟩, ⟨by rw [i41]; rfl, fun j hj => absurd hj (by simp [zfl]), fun l hl => absurd hl (by simp), fun l hl => ?_⟩, fun x hx => absurd hx (by simp), fun x hx => absurd hx (by simp), by simp [zfl], by simp⟩
    rw [z 66 (by decide) (by decide), List.take_nil]
    rfl
  have ht : zRt iv iv 0 := ⟨by rw [z 7 (by decide) (by decide)]; rfl, by rw [i41]; rfl, by decide, by rw [z 47 (by decide) (by decide), z 8 (by decide) (by decide)], by rw [z 48 (by decide) (by decide), z 9 (by decide) (by decide)], by rw [z 49 (by decide) (by decide), z 10 (by decide) (by decide)], fun k => by rw [z 8 (by decide) (by decide)]; exact (show 0 ≤ (0 : Int32).toInt ∧ (0 : Int32).toInt ≤ 1000 by decide), fun k hk => absurd hk (by omega)⟩
  have i0 := z 0 (by decide) (by decide)
  refine ⟨0, [], ⟨⟨hh.2.1, ht.1, by decide, ht.2.2.2.2.2.2.2, by rw [i0]; rfl, by decide, fun i hi => absurd hi (by omega), hg.gi.1⟩, hh, ⟨by rw [z 46 (by decide) (by decide), z 6 (by decide) (by decide)], fun k => by rw [z 6 (by decide) (by decide)]; exact (show 0 ≤ (0 : Int32).toInt ∧ (0 : Int32).toInt ≤ 100000 by decide)⟩, ht, by rw [i41, i0]; rfl, by rw [i0]; decide, hg, fun j hj => absurd hj (by omega)⟩, ⟨by rw [i41]; rfl, by rw [i0]; decide, fun i _ => ?_⟩, ⟨0, by rw [z 12 (by decide) (by decide)]; rfl, by rw [i41]; rfl, by decide, fun j _ => ?_⟩, ⟨by rw [i41, i14]; rfl, by rw [i41, i14]; rfl⟩, ⟨0, by rw [z 29 (by decide) (by decide)]; rfl, by rw [i41]; rfl, by decide, fun k hk => absurd hk (by omega)⟩, ⟨0, by rw [z 35 (by decide) (by decide)]; rfl, by rw [i41]; rfl, by decide, fun k hk => absurd hk (by omega), fun k _ => by rw [z 89 (by decide) (by decide)]⟩⟩
  · rw [z 60 (by decide) (by decide), z 61 (by decide) (by decide), z 62 (by decide) (by decide), z 63 (by decide) (by decide)]
    exact ⟨rfl, rfl, fun p _ => ⟨rfl, rfl⟩⟩
  · rw [z 13 (by decide) (by decide), z 72 (by decide) (by decide)]
    exact (show (-128 ≤ (0 : Int32).toInt ∧ (0 : Int32).toInt < 128) ∧ (0 : Int32) = 0 &&& 255 by decide)
end ZK7
