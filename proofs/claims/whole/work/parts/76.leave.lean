/-! a coach leaves, either way -/
theorem zdep_8 (iv : zI) (i : Nat) (ch : Int32) : zdep iv i ch 8 = upd (iv 8) (iv (91 + 3 * i) 7).toNatClampNeg (if 0 < zsv iv i - zco iv i then zsv iv i - zco iv i else 0) := by
  unfold zdep zd4 zd3 zd2 zreck
  rw [zu_n _ _ _ (by omega), zu_n _ _ _ (by omega), zu_n _ _ _ (by omega), zu_n _ _ _ (by omega), zu_n _ _ _ (by omega), zu_n _ _ _ (by omega), zu_n _ _ _ (by omega), zu_n _ _ _ (by omega)]
  unfold zd1
  rw [zu_s]
theorem zdep_p (iv : zI) (i : Nat) (ch : Int32) : zdep iv i ch (91 + 3 * i + 1) = iv (91 + 3 * i + 1) := zdep_o iv i ch (by omega) (by omega) (by omega)
theorem zd3_2 (iv : zI) (i : Nat) (ch : Int32) : zd3 iv i ch (91 + 3 * i + 2) 0 = iv 4 (zsg iv i).toNatClampNeg * iv 2 (zsg iv i).toNatClampNeg / 4 ∧ zd3 iv i ch (91 + 3 * i + 2) 1 = iv (91 + 3 * i) 1 / 10 ∧ zd3 iv i ch (91 + 3 * i + 2) 2 = zwe iv i ∧ zd3 iv i ch (91 + 3 * i + 2) 3 = iv (91 + 3 * i) 10 ∧ zd3 iv i ch (91 + 3 * i + 2) 4 = (if ch = 0 then 0 else 2) - (if iv (91 + 3 * i) 6 = iv (91 + 3 * i) 2 then 0 else 2) := by
  unfold zd3 zd2 zreck
  rw [zu_n _ _ _ (by omega), zu_s, zu_s, zu_s, zu_s, zu_s, zd1_o iv i (q := 91 + 3 * i) (by omega)]
  refine ⟨?_, ?_, ?_, ?_, ?_⟩
  · rw [pk_un (by decide), pk_un (by decide), pk_un (by decide), pk_un (by decide), pk_us]
  · rw [pk_un (by decide), pk_un (by decide), pk_un (by decide), pk_us]
  · rw [pk_un (by decide), pk_un (by decide), pk_us]
  · rw [pk_un (by decide), pk_us]
  · rw [pk_us]
theorem zdep_2 (iv : zI) (i : Nat) (ch : Int32) : zdep iv i ch (91 + 3 * i + 2) = zd3 iv i ch (91 + 3 * i + 2) := by
  unfold zdep zd4
  rw [zu_n _ _ _ (by omega), zu_n _ _ _ (by omega)]
theorem zdep_c8 (iv : zI) (i : Nat) (ch : Int32) : zdep iv i ch (91 + 3 * i) 8 = if ch = 0 then iv 0 10 else iv 0 10 + 2 := by
  unfold zdep zd4 zd3
  rw [zu_s, pk_un (by decide), zu_s, pk_un (by decide), zu_s, pk_us]
theorem zdep_c9 (iv : zI) (i : Nat) (ch : Int32) : zdep iv i ch (91 + 3 * i) 9 = (if ch = 0 then iv 0 10 else iv 0 10 + 2) + (iv 2 (zsg iv i).toNatClampNeg * zpace (iv (91 + 3 * i) 0) + 2 * iv 3 (zsg iv i).toNatClampNeg) + (iv 4 (zsg iv i).toNatClampNeg * iv 2 (zsg iv i).toNatClampNeg / 4 + iv (91 + 3 * i) 1 / 10 + zwe iv i) := by
  obtain ⟨e0, e1, e2, -⟩ := zd3_2 iv i ch
  unfold zdep zd4
  rw [zu_s, pk_un (by decide), zu_s, pk_us, e0, e1, e2]
theorem zmlv_47 (w : zI) (i : Nat) (a : Int32) : zmlv w i a 47 = upd (w 47) (w 57 i).toNatClampNeg (if (zmsv w i).toInt < (zmco w i).toInt then 0 else zmsv w i - zmco w i) := by
  unfold zmlv
  rw [zu_n _ _ _ (by decide), zu_n _ _ _ (by decide)]
  unfold zml3
  split
  · unfold zml2 zml1
    rw [zu_n _ _ _ (by decide), zu_n _ _ _ (by decide), zu_n _ _ _ (by decide), zu_n _ _ _ (by decide), zu_s]
  · unfold zml2 zml1
    rw [zu_n _ _ _ (by decide), zu_n _ _ _ (by decide), zu_n _ _ _ (by decide), zu_n _ _ _ (by decide), zu_n _ _ _ (by decide), zu_s]
theorem zmlv_58 (w : zI) (i : Nat) (a : Int32) : zmlv w i a 58 = upd (w 58) i a := by
  unfold zmlv
  rw [zu_s, zu_n _ _ _ (by decide), zml3_o _ _ (by decide) (by decide)]
theorem zmlv_59 (w : zI) (i : Nat) (a : Int32) : zmlv w i a 59 = upd (w 59) i (a + (w 42 (zmsg w i).toNatClampNeg * zpace (w 50 i) + 2 * w 43 (zmsg w i).toNatClampNeg) + zmmu w i + w 51 i / 10 + zmwe w i) := by
  unfold zmlv
  rw [zu_n _ _ _ (by decide), zu_s, zml3_o _ _ (by decide) (by decide)]
theorem zml2_63 (w : zI) (i : Nat) : zml2 w i 63 = upd (upd (upd (upd (w 63) (5 * i) (w 63 (5 * i) + zmmu w i)) (5 * i + 1) (w 63 (5 * i + 1) + w 51 i / 10)) (5 * i + 2) (w 63 (5 * i + 2) + zmwe w i)) (5 * i + 3) (w 63 (5 * i + 3) + w 60 i) := by
  unfold zml2
  rw [zu_s, zu_s, zu_s, zu_s]
  unfold zml1
  rw [zu_n _ _ _ (by decide)]
theorem zmlv_63 (w : zI) (i : Nat) (a : Int32) : zmlv w i a 63 = if w 56 i = w 52 i then zml2 w i 63 else upd (zml2 w i 63) (5 * i + 4) (w 63 (5 * i + 4) - 2) := by
  unfold zmlv
  rw [zu_n _ _ _ (by decide), zu_n _ _ _ (by decide)]
  unfold zml3
  split
  · rfl
  · rw [zu_s]
theorem zmlv_63o (w : zI) (i : Nat) (a : Int32) {q : Nat} (h : q < 5 * i ∨ 5 * i + 4 < q) : zmlv w i a 63 q = w 63 q := by
  rw [zmlv_63, zml2_63]
  split
  · rw [pk_un (by omega), pk_un (by omega), pk_un (by omega), pk_un (by omega)]
  · rw [pk_un (by omega), pk_un (by omega), pk_un (by omega), pk_un (by omega), pk_un (by omega)]
/-- as it stands before it leaves -/
def zRl (u w : zI) (i : Nat) (ch : Int32) : Prop := zRh u w ∧ (w 47 = u 8 ∧ ∀ k, 0 ≤ (u 8 k).toInt ∧ (u 8 k).toInt ≤ 1000) ∧ (w 50 i = u (91 + 3 * i) 0 ∧ w 51 i = u (91 + 3 * i) 1 ∧ w 52 i = u (91 + 3 * i) 2 ∧ w 53 i = u (91 + 3 * i) 3) ∧ (w 56 i = u (91 + 3 * i) 6 ∧ w 57 i = u (91 + 3 * i) 7 ∧ w 60 i = u (91 + 3 * i) 10) ∧ ((0 ≤ (u (91 + 3 * i) 1).toInt ∧ (u (91 + 3 * i) 1).toInt ≤ 50) ∧ (0 ≤ (zsg u i).toInt ∧ (zsg u i).toInt < (u 1 0).toInt - 1)) ∧ (∀ p, p < 5 → w 63 (5 * i + p) = u (91 + 3 * i + 1) p + (if p = 4 then (if ch = 0 then 0 else 2) else 0))
theorem zRl.go {u w : zI} {i : Nat} {ch a : Int32} (h : zRl u w i ch) (ha : a = if ch = 0 then u 0 10 else u 0 10 + 2) (hc : 0 ≤ (u 0 10).toInt ∧ (u 0 10).toInt ≤ 1000000) : (zmlv w i a 47 = zdep u i ch 8 ∧ ∀ k, 0 ≤ (zdep u i ch 8 k).toInt ∧ (zdep u i ch 8 k).toInt ≤ 1000) ∧ (zmlv w i a 59 i = zdep u i ch (91 + 3 * i) 9 ∧ a = zdep u i ch (91 + 3 * i) 8 ∧ zmlv w i a 58 i = a ∧ a.toInt < (zdep u i ch (91 + 3 * i) 9).toInt) ∧ ∀ p, p < 5 → zmlv w i a 63 (5 * i + p) = zdep u i ch (91 + 3 * i + 1) p + zdep u i ch (91 + 3 * i + 2) p := by
  obtain ⟨hh, ⟨h47, hst⟩, ⟨c50, c51, c52, c53⟩, ⟨c56, c57, c60⟩, ⟨hl, hsg⟩, hp⟩ := h
  obtain ⟨r1, r2, r42, r43, r44, r45, rb, rm⟩ := hh
  have esg : zmsg w i = zsg u i := by
    unfold zmsg zsg
    rw [c52, c53, c56]
  have esv : zmsv w i = zsv u i := by
    unfold zmsv zsv
    rw [h47, c57]
  have eco : zmco w i = zco u i := by
    unfold zmco zco
    rw [esg, r42, r43, r44, c51]
  have ewe : zmwe w i = zwe u i := by
    unfold zmwe zwe
    rw [esv, eco]
  have emu : zmmu w i = u 4 (zsg u i).toNatClampNeg * u 2 (zsg u i).toNatClampNeg / 4 := by
    unfold zmmu
    rw [esg, r42, r44]
  obtain ⟨b1, b2, b3, -⟩ := rb (zsg u i).toNatClampNeg
  have m1 := rm (zsg u i).toNatClampNeg (by rw [zcl_int hsg.1]; exact hsg.2)
  have hsv : 0 ≤ (zsv u i).toInt ∧ (zsv u i).toInt ≤ 1000 := hst _
  have k1 : (12 * u 2 (zsg u i).toNatClampNeg).toInt = 12 * (u 2 (zsg u i).toNatClampNeg).toInt := by rw [zt_mul (by rw [show Int32.toInt 12 = 12 by decide]; omega) (by rw [show Int32.toInt 12 = 12 by decide]; omega), show Int32.toInt 12 = 12 by decide]
  have k2 : (10 * u 3 (zsg u i).toNatClampNeg).toInt = 10 * (u 3 (zsg u i).toNatClampNeg).toInt := by rw [zt_mul (by rw [show Int32.toInt 10 = 10 by decide]; omega) (by rw [show Int32.toInt 10 = 10 by decide]; omega), show Int32.toInt 10 = 10 by decide]
  have k3 : (5 * u 4 (zsg u i).toNatClampNeg).toInt = 5 * (u 4 (zsg u i).toNatClampNeg).toInt := by rw [zt_mul (by rw [show Int32.toInt 5 = 5 by decide]; omega) (by rw [show Int32.toInt 5 = 5 by decide]; omega), show Int32.toInt 5 = 5 by decide]
  have k4 : (2 * u 3 (zsg u i).toNatClampNeg).toInt = 2 * (u 3 (zsg u i).toNatClampNeg).toInt := by rw [zt_mul (by rw [show Int32.toInt 2 = 2 by decide]; omega) (by rw [show Int32.toInt 2 = 2 by decide]; omega), show Int32.toInt 2 = 2 by decide]
  have hco : 0 ≤ (zco u i).toInt ∧ (zco u i).toInt ≤ 500 := by
    unfold zco
    rw [zt_add (by rw [zt_add (by rw [zt_add (by omega) (by omega)]; omega) (by rw [zt_add (by omega) (by omega)]; omega), zt_add (by omega) (by omega)]; omega) (by rw [zt_add (by rw [zt_add (by omega) (by omega)]; omega) (by rw [zt_add (by omega) (by omega)]; omega), zt_add (by omega) (by omega)]; omega), zt_add (by rw [zt_add (by omega) (by omega)]; omega) (by rw [zt_add (by omega) (by omega)]; omega), zt_add (by omega) (by omega)]
    omega
  have hsub : (zsv u i - zco u i).toInt = (zsv u i).toInt - (zco u i).toInt := zt_sub (by omega) (by omega)
  have hwe : 0 ≤ (zwe u i).toInt ∧ (zwe u i).toInt ≤ 100 := by
    unfold zwe
    split
    · have e1 : (zco u i - zsv u i).toInt = (zco u i).toInt - (zsv u i).toInt := zt_sub (by omega) (by omega)
      have e2 : (zco u i - zsv u i + 9).toInt = (zco u i).toInt - (zsv u i).toInt + 9 := by rw [zt_add (by rw [e1, show Int32.toInt 9 = 9 by decide]; omega) (by rw [e1, show Int32.toInt 9 = 9 by decide]; omega), e1, show Int32.toInt 9 = 9 by decide]
      rw [zdiv_t (by rw [e2]; omega) (by decide), e2, show Int32.toInt 10 = 10 by decide]
      omega
    · decide
  obtain ⟨q1, q2, q3⟩ := zmul_t (m := 9) (n := 20) b3 b1 (by decide)
  have hmu : 0 ≤ (u 4 (zsg u i).toNatClampNeg * u 2 (zsg u i).toNatClampNeg / 4).toInt ∧ (u 4 (zsg u i).toNatClampNeg * u 2 (zsg u i).toNatClampNeg / 4).toInt ≤ 100 := by
    rw [zdiv_t q2 (by decide), show Int32.toInt 4 = 4 by decide]
    omega
  have hlo : 0 ≤ (u (91 + 3 * i) 1 / 10).toInt ∧ (u (91 + 3 * i) 1 / 10).toInt ≤ 100 := by
    rw [zdiv_t hl.1 (by decide), show Int32.toInt 10 = 10 by decide]
    omega
  have hpc := zpace_t (u (91 + 3 * i) 0)
  obtain ⟨p1, p2, p3⟩ := zmul_t (m := 20) (n := 9) (a := u 2 (zsg u i).toNatClampNeg) (b := zpace (u (91 + 3 * i) 0)) b1 ⟨by omega, hpc.2⟩ (by decide)
  have p4 : 1 ≤ (u 2 (zsg u i).toNatClampNeg * zpace (u (91 + 3 * i) 0)).toInt := by
    rw [p1]
    have := Int.mul_le_mul m1 (show 1 ≤ (zpace (u (91 + 3 * i) 0)).toInt by omega) (by omega) (by omega)
    omega
  have hat : 0 ≤ a.toInt ∧ a.toInt ≤ 1000002 := by
    rw [ha]
    split
    · omega
    · rw [zt_add (by rw [show Int32.toInt 2 = 2 by decide]; omega) (by rw [show Int32.toInt 2 = 2 by decide]; omega), show Int32.toInt 2 = 2 by decide]; omega
  have e9 := zdep_c9 u i ch
  rw [← ha] at e9
  have e8 := zdep_c8 u i ch
  rw [← ha] at e8
  refine ⟨⟨?_, fun k => ?_⟩, ⟨?_, e8.symm, ?_, ?_⟩, fun p hp5 => ?_⟩
  · rw [zmlv_47, zdep_8, h47, c57, esv, eco]
    congr 1
    by_cases c : (zsv u i).toInt < (zco u i).toInt
    · rw [if_pos c, if_neg (fun z => by have := Int32.lt_iff_toInt_lt.mp z; rw [hsub, show Int32.toInt 0 = 0 by decide] at this; omega)]
    · rw [if_neg c]
      by_cases c2 : (0 : Int32) < zsv u i - zco u i
      · rw [if_pos c2]
      · rw [if_neg c2]
        apply Int32.toInt_inj.mp
        have : ¬ (0 : Int32).toInt < (zsv u i - zco u i).toInt := fun z => c2 (Int32.lt_iff_toInt_lt.mpr z)
        rw [hsub, show Int32.toInt 0 = 0 by decide] at *
        omega
  · rw [zdep_8]
    by_cases c : k = (u (91 + 3 * i) 7).toNatClampNeg
    · rw [c, pk_us]
      split
      · next z =>
        have := Int32.lt_iff_toInt_lt.mp z
        rw [hsub, show Int32.toInt 0 = 0 by decide] at this
        rw [hsub]
        omega
      · decide
    · rw [pk_un c]; exact hst k
  · rw [zmlv_59, pk_us, e9, esg, r42, r43, c50, c51, emu, ewe]
    simp only [Int32.add_assoc]
  · rw [zmlv_58, pk_us]
  · rw [e9]
    have s1 : (u 2 (zsg u i).toNatClampNeg * zpace (u (91 + 3 * i) 0) + 2 * u 3 (zsg u i).toNatClampNeg).toInt = (u 2 (zsg u i).toNatClampNeg * zpace (u (91 + 3 * i) 0)).toInt + 2 * (u 3 (zsg u i).toNatClampNeg).toInt := by rw [zt_add (by omega) (by omega), k4]
    have s2 : (u 4 (zsg u i).toNatClampNeg * u 2 (zsg u i).toNatClampNeg / 4 + u (91 + 3 * i) 1 / 10).toInt = (u 4 (zsg u i).toNatClampNeg * u 2 (zsg u i).toNatClampNeg / 4).toInt + (u (91 + 3 * i) 1 / 10).toInt := zt_add (by omega) (by omega)
    have s3 : (u 4 (zsg u i).toNatClampNeg * u 2 (zsg u i).toNatClampNeg / 4 + u (91 + 3 * i) 1 / 10 + zwe u i).toInt = (u 4 (zsg u i).toNatClampNeg * u 2 (zsg u i).toNatClampNeg / 4).toInt + (u (91 + 3 * i) 1 / 10).toInt + (zwe u i).toInt := by rw [zt_add (by omega) (by omega), s2]
    have s4 : (a + (u 2 (zsg u i).toNatClampNeg * zpace (u (91 + 3 * i) 0) + 2 * u 3 (zsg u i).toNatClampNeg)).toInt = a.toInt + ((u 2 (zsg u i).toNatClampNeg * zpace (u (91 + 3 * i) 0)).toInt + 2 * (u 3 (zsg u i).toNatClampNeg).toInt) := by rw [zt_add (by omega) (by omega), s1]
    rw [zt_add (by omega) (by omega), s4, s3]
    omega
  · have hp' := hp p hp5
    obtain ⟨e0, e1, e2, e3, e4⟩ := zd3_2 u i ch
    rw [zdep_p, zdep_2, zmlv_63, zml2_63]
    have q : p = 0 ∨ p = 1 ∨ p = 2 ∨ p = 3 ∨ p = 4 := by omega
    have hif : (w 56 i = w 52 i) ↔ (u (91 + 3 * i) 6 = u (91 + 3 * i) 2) := by rw [c56, c52]
    rcases q with q | q | q | q | q
    · subst q
      rw [e0]
      rw [if_neg (by decide), Int32.add_zero] at hp'
      have hp' : w 63 (5 * i) = u (91 + 3 * i + 1) 0 := hp'
      show (if w 56 i = w 52 i then _ else _ : Nat → Int32) (5 * i) = _
      split
      · rw [pk_un (by omega), pk_un (by omega), pk_un (by omega), pk_us, hp', emu]
      · rw [pk_un (by omega), pk_un (by omega), pk_un (by omega), pk_un (by omega), pk_us, hp', emu]
    · subst q
      rw [e1]
      rw [if_neg (by decide), Int32.add_zero] at hp'
      split
      · rw [pk_un (by omega), pk_un (by omega), pk_us, hp', c51]
      · rw [pk_un (by omega), pk_un (by omega), pk_un (by omega), pk_us, hp', c51]
    · subst q
      rw [e2]
      rw [if_neg (by decide), Int32.add_zero] at hp'
      split
      · rw [pk_un (by omega), pk_us, hp', ewe]
      · rw [pk_un (by omega), pk_un (by omega), pk_us, hp', ewe]
    · subst q
      rw [e3]
      rw [if_neg (by decide), Int32.add_zero] at hp'
      split
      · rw [pk_us, hp', c60]
      · rw [pk_un (by omega), pk_us, hp', c60]
    · subst q
      rw [e4]
      rw [if_pos rfl] at hp'
      by_cases c : w 56 i = w 52 i
      · rw [if_pos c, if_pos (hif.mp c), pk_un (by omega), pk_un (by omega), pk_un (by omega), pk_un (by omega), hp', Int32.sub_zero]
      · rw [if_neg c, if_neg (fun z => c (hif.mpr z)), pk_us, hp', Int32.sub_eq_add_neg, Int32.sub_eq_add_neg, Int32.add_assoc]
