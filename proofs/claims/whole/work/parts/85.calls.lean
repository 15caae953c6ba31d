/-! told, free, book -/
section ZK4
variable {n c : Nat} {iv : zI} {lw : zG}
theorem k_told (hR : zRw n c iv) (co wh : Int32) : zCall n c iv lw yX9_told cX9_told 4 (some .int) yX10_told cX10_told 3 (some .int) [.int co, .int wh] := by
  obtain ⟨t, ls, hs, hk, -⟩ := id hR
  obtain ⟨hX, hh, ho, ht, hck, hc, hg, hj⟩ := id hs
  have hn := hX.2.2.2.2.2.1
  have h03 := hX.2.2.2.2.1
  rcases zco_c hR co with ⟨i, hi, rfl⟩ | ⟨h1, h2⟩
  · obtain ⟨⟨a1, a2, a3, a4, a5⟩, -⟩ := hj i hi
    obtain ⟨⟨k1, k1'⟩, ⟨k2, k2'⟩, k3, k5, k6, -⟩ := hX.2.2.2.2.2.2.1 i hi
    have hI := hh.2.1
    have el := zlo_t (iv (91 + 3 * i) 2) (iv (91 + 3 * i) 3)
    have eh := zhi_t (iv (91 + 3 * i) 2) (iv (91 + 3 * i) 3)
    by_cases P : (zlo (iv (91 + 3 * i) 2) (iv (91 + 3 * i) 3)).toInt ≤ wh.toInt ∧ wh.toInt ≤ (zhi (iv (91 + 3 * i) 2) (iv (91 + 3 * i) 3)).toInt
    · rw [el, eh] at P
      have hw0 : 0 ≤ wh.toInt ∧ wh.toInt < (iv 1 0).toInt := by
        constructor
        · have := P.1; split at this <;> omega
        · have := P.2; split at this <;> omega
      have ewh := znI_cl hw0.1
      have cwh := zcl_int hw0.1
      have ef := znI_cl k1
      have cf := zcl_int k1
      have gl := zlo_t (iv (91 + 3 * i) 2) wh
      have gh := zhi_t (iv (91 + 3 * i) 2) wh
      by_cases U : (iv (91 + 3 * i) 2).toInt < (iv (91 + 3 * i) 3).toInt
      · rw [if_neg (by omega)] at P
        rw [if_pos U] at P
        have hd : (iv (91 + 3 * i) 2).toNatClampNeg + (wh.toNatClampNeg - (iv (91 + 3 * i) 2).toNatClampNeg) = wh.toNatClampNeg := by omega
        have q1 : zlo (iv (91 + 3 * i) 2) wh = nI (iv (91 + 3 * i) 2).toNatClampNeg := by rw [ef]; exact Int32.toInt_inj.mp (by rw [gl, if_neg (by omega)])
        have q2 : zhi (iv (91 + 3 * i) 2) wh = nI ((iv (91 + 3 * i) 2).toNatClampNeg + (wh.toNatClampNeg - (iv (91 + 3 * i) 2).toNatClampNeg)) := by
          rw [hd, ewh]
          apply Int32.toInt_inj.mp
          rw [gh]
          split <;> omega
        have hx := x_told1 n iv lw h03 hn i hi wh hI _ _ q1 q2 (by omega) (by rw [el, eh, if_neg (by omega), if_pos U]; exact P)
        have hm := m_told1U n iv lw hk.1 hn i hi wh.toNatClampNeg _ _ (by rw [a3]; exact ef.symm) (by rw [a3, a4]; exact U) hd (by omega) (by rw [ewh, hh.1, a3, a4]; exact ⟨hw0, Or.inl ⟨U, P⟩⟩)
        rw [ewh] at hm
        refine zCall.p hR hx hm ?_
        have e := ztold_same (u := iv) (w := iv) (i := i) (a := (iv (91 + 3 * i) 2).toNatClampNeg) (d := wh.toNatClampNeg - (iv (91 + 3 * i) 2).toNatClampNeg) (b := wh.toNatClampNeg) hh.2.2.1 hh.2.2.2.1 a1 a3 a4 a5 (by omega) (Or.inl ⟨U, ef.symm, hd.symm⟩)
        unfold ztoldx zmtold at e
        rw [a3, a4, if_pos U] at e
        exact e
      · rw [if_pos (by omega)] at P
        rw [if_neg U] at P
        have hd : wh.toNatClampNeg + ((iv (91 + 3 * i) 2).toNatClampNeg - wh.toNatClampNeg) = (iv (91 + 3 * i) 2).toNatClampNeg := by omega
        have q1 : zlo (iv (91 + 3 * i) 2) wh = nI wh.toNatClampNeg := by
          rw [ewh]
          apply Int32.toInt_inj.mp
          rw [gl]
          split <;> omega
        have q2 : zhi (iv (91 + 3 * i) 2) wh = nI (wh.toNatClampNeg + ((iv (91 + 3 * i) 2).toNatClampNeg - wh.toNatClampNeg)) := by
          rw [hd, ef]
          apply Int32.toInt_inj.mp
          rw [gh, if_neg (by omega)]
        have hx := x_told1 n iv lw h03 hn i hi wh hI _ _ q1 q2 (by omega) (by rw [el, eh, if_pos (by omega), if_neg U]; exact P)
        have hm := m_told1D n iv lw hk.1 hn i hi wh.toNatClampNeg (iv (91 + 3 * i) 2).toNatClampNeg ((iv (91 + 3 * i) 2).toNatClampNeg - wh.toNatClampNeg) (by rw [a3]; exact ef.symm) (by rw [a3, a4]; exact U) hd (by omega) (by rw [ewh, hh.1, a3, a4]; exact ⟨hw0, Or.inr ⟨U, P.2, P.1⟩⟩)
        rw [ewh] at hm
        refine zCall.p hR hx hm ?_
        have e := ztold_same (u := iv) (w := iv) (i := i) (a := wh.toNatClampNeg) (d := (iv (91 + 3 * i) 2).toNatClampNeg - wh.toNatClampNeg) (b := wh.toNatClampNeg) hh.2.2.1 hh.2.2.2.1 a1 a3 a4 a5 (by omega) (Or.inr ⟨U, by rw [hd]; exact ef.symm, rfl⟩)
        unfold ztoldx zmtold at e
        rw [a3, a4, if_neg U] at e
        exact e
    · refine zCall.p hR (x_told2 n iv lw h03 hn i hi wh P) (m_told2 n iv lw hk.1 hn i hi wh (fun z => P ?_)) rfl
      rw [a3, a4] at z
      rw [el, eh]
      rcases z.2 with ⟨u, v, w⟩ | ⟨u, v, w⟩
      · rw [if_neg (by omega), if_pos u]; exact ⟨v, w⟩
      · rw [if_pos (by omega), if_neg u]; exact ⟨w, v⟩
  · exact zCall.p hR (x_told0 n iv lw h03 hn co h1 wh) (m_told0 n iv lw co wh h2) rfl
theorem ztk_same {b : Nat} (h : ∀ k, k < b → iv 84 k = iv 36 k ∧ iv 37 k = zlo (iv 85 k) (iv 86 k) ∧ iv 38 k = zhi (iv 85 k) (iv 86 k) ∧ iv 87 k = iv 39 k ∧ ((iv 40 k = -1 ∧ iv 89 k = 0) ∨ (iv 89 k = 1 ∧ iv 88 k = iv 40 k ∧ 0 ≤ (iv 40 k).toInt))) (co sg mi : Int32) {k : Nat} (hk : k < b) : zmtk (iv 84) (iv 85) (iv 86) (iv 87) (iv 88) (iv 89) co sg mi k = ztk (iv 36) (iv 37) (iv 38) (iv 39) (iv 40) co sg mi k := by
  obtain ⟨h1, h2, h3, h4, h5⟩ := h k hk
  unfold zmtk ztk
  refine zb_c ?_
  rw [h1, h2, h3, h4, zlo_t, zhi_t]
  have e1 : (if (iv 85 k).toInt < (iv 86 k).toInt then iv 85 k else iv 86 k).toInt = if (iv 86 k).toInt < (iv 85 k).toInt then (iv 86 k).toInt else (iv 85 k).toInt := by
    by_cases z : (iv 85 k).toInt < (iv 86 k).toInt
    · rw [if_pos z, if_neg (by omega)]
    · rw [if_neg z]
      split <;> omega
  have e2 : (if (iv 85 k).toInt < (iv 86 k).toInt then iv 86 k else iv 85 k).toInt = if (iv 85 k).toInt < (iv 86 k).toInt then (iv 86 k).toInt else (iv 85 k).toInt := by split <;> rfl
  rw [e1, e2]
  refine and_congr Iff.rfl (and_congr Iff.rfl (and_congr Iff.rfl (and_congr Iff.rfl ?_)))
  rcases h5 with ⟨u1, u2⟩ | ⟨u1, u2, u3⟩
  · rw [u1, u2]
    exact ⟨fun _ => Or.inl rfl, fun _ z => z.1 rfl⟩
  · rw [u1, u2]
    refine ⟨fun z => Or.inr ?_, fun z q => ?_⟩
    · have : ¬ (iv 40 k).toInt ≤ mi.toInt := fun q => z ⟨by decide, q⟩
      omega
    · rcases z with z | z
      · rw [z] at u3; exact absurd u3 (by decide)
      · have := q.2; omega
theorem ztk_01 (a b d e f : Nat → Int32) (co sg mi : Int32) (k : Nat) : ztk a b d e f co sg mi k = 0 ∨ ztk a b d e f co sg mi k = 1 := by
  unfold ztk zb
  split
  · exact Or.inr rfl
  · exact Or.inl rfl
theorem zdown_sum {f g : Nat → Int32} (se : Int32) (hg : ∀ k, g k = 0 ∨ g k = 1) : ∀ m, (∀ k, k < m → f k = g k) → zdown se f m = se - zsum g m
  | 0, _ => by rw [zdown, zsum, Int32.sub_zero]
  | m + 1, h => by
    have ih := zdown_sum se hg m (fun k hk => h k (by omega))
    rw [show zdown se f (m + 1) = if f m = 0 then zdown se f m else zdown se f m + (-1) from rfl, zsum, ih, h m (by omega)]
    rcases hg m with z | z
    · rw [z, if_pos rfl, Int32.add_zero]
    · rw [z, if_neg (by decide), Int32.sub_eq_add_neg, Int32.sub_eq_add_neg, Int32.neg_add, Int32.sub_eq_add_neg (-zsum g m), Int32.add_assoc]
theorem zsum_01 {g : Nat → Int32} (hg : ∀ k, g k = 0 ∨ g k = 1) : ∀ m : Nat, m ≤ 1000 → 0 ≤ (zsum g m).toInt ∧ (zsum g m).toInt ≤ m
  | 0, _ => ⟨by show (0 : Int) ≤ (0 : Int32).toInt; decide, by show (0 : Int32).toInt ≤ 0; decide⟩
  | m + 1, hm => by
    obtain ⟨h1, h2⟩ := zsum_01 hg m (by omega)
    have h3 : 0 ≤ (g m).toInt ∧ (g m).toInt ≤ 1 := by rcases hg m with z | z <;> rw [z] <;> decide
    rw [zsum, zt_add (by omega) (by omega)]
    omega
theorem k_free (hR : zRw n c iv) (co sg mi : Int32) : zCall n c iv lw yX9_free cX9_free 5 (some .int) yX10_free cX10_free 4 (some .int) [.int co, .int sg, .int mi] := by
  obtain ⟨t, ls, hs, hk, hp, hff, hq, ⟨b, b1, b2, b3, b4, b5⟩⟩ := id hR
  obtain ⟨hX, hh, ho, ht, hck, hc, hg, hj⟩ := id hs
  have hn := hX.2.2.2.2.2.1
  have h03 := hX.2.2.2.2.1
  rcases zco_c hR co with ⟨i, hi, rfl⟩ | ⟨h1, h2⟩
  · obtain ⟨⟨a1, a2, a3, a4, a5⟩, -⟩ := hj i hi
    obtain ⟨⟨k1, k1'⟩, ⟨k2, k2'⟩, k3, k5, k6, -⟩ := hX.2.2.2.2.2.2.1 i hi
    have el := zlo_t (iv (91 + 3 * i) 2) (iv (91 + 3 * i) 3)
    have eh := zhi_t (iv (91 + 3 * i) 2) (iv (91 + 3 * i) 3)
    have hx := x_free1 n iv lw h03 hn i hi sg mi b b1 b3
    have hm := m_free1 n iv lw hk.1 hn i hi sg mi (by rw [hh.1]; exact hh.2.1) b b2 b3
    refine zCall.p hR hx hm ?_
    rw [a3, a4, hh.1, a1, zdown_sum (g := ztk (iv 36) (iv 37) (iv 38) (iv 39) (iv 40) (nI i) sg mi) _ (ztk_01 _ _ _ _ _ _ _ _) b (fun k hk2 => ztk_same b4 (nI i) sg mi hk2)]
    have key : ((zlo (iv (91 + 3 * i) 2) (iv (91 + 3 * i) 3)).toInt ≤ sg.toInt ∧ sg.toInt < (zhi (iv (91 + 3 * i) 2) (iv (91 + 3 * i) 3)).toInt) ↔ ((0 ≤ sg.toInt ∧ sg.toInt < (iv 1 0).toInt - 1) ∧ (((iv (91 + 3 * i) 2).toInt < (iv (91 + 3 * i) 3).toInt ∧ (iv (91 + 3 * i) 2).toInt ≤ sg.toInt ∧ sg.toInt < (iv (91 + 3 * i) 3).toInt) ∨ (¬ (iv (91 + 3 * i) 2).toInt < (iv (91 + 3 * i) 3).toInt ∧ (iv (91 + 3 * i) 3).toInt ≤ sg.toInt ∧ sg.toInt < (iv (91 + 3 * i) 2).toInt))) := by
      rw [el, eh]
      by_cases U : (iv (91 + 3 * i) 2).toInt < (iv (91 + 3 * i) 3).toInt
      · rw [if_neg (by omega), if_pos U]
        omega
      · rw [if_pos (by omega), if_neg U]
        omega
    by_cases P : (zlo (iv (91 + 3 * i) 2) (iv (91 + 3 * i) 3)).toInt ≤ sg.toInt ∧ sg.toInt < (zhi (iv (91 + 3 * i) 2) (iv (91 + 3 * i) 3)).toInt
    · rw [if_pos P, if_pos (key.mp P)]
    · rw [if_neg P, if_neg (fun z => P (key.mpr z))]
  · exact zCall.p hR (x_free0 n iv lw h03 hn co h1 sg mi) (m_free0 n iv lw co sg mi h2) rfl
theorem zroom_iff {se : Int32} {f : Nat → Int32} : ∀ d l, zroom se f l d ↔ ∀ m, m < d → (f (l + m)).toInt < se.toInt
  | 0, l => ⟨fun _ m hm => absurd hm (by omega), fun _ => trivial⟩
  | d + 1, l => by
    have ih := zroom_iff (se := se) (f := f) d (l + 1)
    constructor
    · intro h m hm
      match m, hm with
      | 0, _ => exact h.1
      | m + 1, hm =>
        have := ih.mp h.2 m (by omega)
        rw [show l + 1 + m = l + (m + 1) by omega] at this
        exact this
    · intro h
      refine ⟨h 0 (by omega), ih.mpr (fun m hm => ?_)⟩
      have := h (m + 1) (by omega)
      rw [show l + (m + 1) = l + 1 + m by omega] at this
      exact this
theorem zseats_b (k : Int32) : 4 ≤ (zseats k).toInt ∧ (zseats k).toInt ≤ 12 := by
  unfold zseats
  split
  · decide
  · split <;> decide
/-- a booking is entered -/
theorem zRw.bk {iv1 iv2 : zI} (hR : zRw n c iv) {b : Nat} (b1 : iv 35 0 = nI b) (hb : b < 100) {co x y : Int32} (e1 : iv1 = zbook iv co (zlo x y) (zhi x y) (iv 0 10)) (e2 : iv2 = zmbook iv1 co x y) : zRw n (c + 1) iv2 := by
  obtain ⟨t, ls, hs, hk, hp, hff, hq, ⟨b', b1', b2, b3, b4, b5⟩⟩ := hR
  have : b' = b := nI_inj4 (by omega) (by omega) (b1'.symm.trans b1)
  subst this
  have hck : iv 41 0 = iv 0 10 := hs.2.2.2.2.1
  unfold zbook at e1
  rw [b1, nI_clamp (by omega), nI_1] at e1
  have e62 : iv1 41 62 = nI b' := by rw [e1]; exact b2
  unfold zmbook at e2
  rw [e62, nI_clamp (by omega), nI_1] at e2
  have hf : zFr [35, 36, 37, 38, 39, 40, 84, 85, 86, 87] [62] iv iv2 := by
    rw [e2, e1]
    exact ((((((((((((zFr.rf _ _ iv).u 36 _ _ (by decide) (by decide)).u 37 _ _ (by decide) (by decide)).u 38 _ _ (by decide) (by decide)).u 39 _ _ (by decide) (by decide)).u 40 _ _ (by decide) (by decide)).u 35 _ _ (by decide) (by decide)).u 84 _ _ (by decide) (by decide)).u 85 _ _ (by decide) (by decide)).u 86 _ _ (by decide) (by decide)).u 87 _ _ (by decide) (by decide)).u41 62 _ (by decide))
  refine ⟨t, ls, hf.s hs rfl rfl, hf.k hk rfl rfl, hf.p hp rfl rfl, hf.f hff rfl rfl, hf.q hq rfl rfl, ⟨b' + 1, ?_, ?_, by omega, fun k hk2 => ?_, fun k hk2 => ?_⟩⟩
  · rw [e2, e1]; rfl
  · rw [e2]; rfl
  · rw [e2, e1]
    show upd (iv 84) b' co k = upd (iv 36) b' co k ∧ upd (iv 37) b' (zlo x y) k = zlo (upd (iv 85) b' x k) (upd (iv 86) b' y k) ∧ upd (iv 38) b' (zhi x y) k = zhi (upd (iv 85) b' x k) (upd (iv 86) b' y k) ∧ upd (iv 87) b' (iv 41 0) k = upd (iv 39) b' (iv 0 10) k ∧ ((upd (iv 40) b' (-1) k = -1 ∧ iv 89 k = 0) ∨ (iv 89 k = 1 ∧ iv 88 k = upd (iv 40) b' (-1) k ∧ 0 ≤ (upd (iv 40) b' (-1) k).toInt))
    by_cases z : k = b'
    · subst z
      rw [pk_us, pk_us, pk_us, pk_us, pk_us, pk_us, pk_us, pk_us, pk_us]
      exact ⟨rfl, rfl, rfl, hck, Or.inl ⟨rfl, b5 k (Nat.le_refl _)⟩⟩
    · rw [pk_un z, pk_un z, pk_un z, pk_un z, pk_un z, pk_un z, pk_un z, pk_un z, pk_un z]
      exact b4 k (by omega)
  · rw [hf.1 89 (by decide) (by decide)]
    exact b5 k (by omega)
end ZK4
