/-! one minute of the class: what changes, what stays -/
theorem zd4_o (iv : zI) (i : Nat) (ch : Int32) {q : Nat} (h : q ≠ 8) (h2 : q ≠ 91 + 3 * i + 2) (h3 : q ≠ 91 + 3 * i) : zd4 iv i ch q = iv q := by
  unfold zd4
  rw [zu_n _ _ _ h3, zd3_o _ _ _ h h2 h3]
theorem zdep_o (iv : zI) (i : Nat) (ch : Int32) {q : Nat} (h : q ≠ 8) (h2 : q ≠ 91 + 3 * i + 2) (h3 : q ≠ 91 + 3 * i) : zdep iv i ch q = iv q := by
  unfold zdep
  rw [zu_n _ _ _ h3, zd4_o _ _ _ h h2 h3]
theorem zdep_c (iv : zI) (i : Nat) (ch : Int32) {j : Nat} (h5 : j ≠ 5) (h8 : j ≠ 8) (h9 : j ≠ 9) : zdep iv i ch (91 + 3 * i) j = iv (91 + 3 * i) j := by
  unfold zdep zd4 zd3
  rw [zu_s, pk_un h5, zu_s, pk_un h9, zu_s, pk_un h8, zd2_o _ _ _ (by omega) (by omega)]
theorem zdep_5 (iv : zI) (i : Nat) (ch : Int32) : zdep iv i ch (91 + 3 * i) 5 = (if ch = 0 then 1 else 3) := by
  unfold zdep
  rw [zu_s]; exact pk_us
theorem zset_o (iv : zI) (i t : Nat) {q : Nat} (h8 : q ≠ 8) (h9 : q ≠ 9) (h10 : q ≠ 10) (h2 : q ≠ 91 + 3 * i + 2) (h3 : q ≠ 91 + 3 * i) : zset iv i t q = iv q := by
  unfold zset
  split
  · rw [zu_n _ _ _ h3]
  · rw [zdep_o _ _ _ h8 h2 h3, zharn_o _ _ _ h9 h10 h3]
theorem zarr_o (iv : zI) (i a d : Nat) {q : Nat} (h9 : q ≠ 9) (h10 : q ≠ 10) (h1 : q ≠ 91 + 3 * i + 1) (h3 : q ≠ 91 + 3 * i) : zarr iv i a d q = iv q := by
  unfold zarr
  split
  · rw [zu_n _ _ _ h3, zu_n _ _ _ h3, zu_n _ _ _ h10, zu_n _ _ _ h9, zar2_o _ _ _ _ h3 h1]
  · rw [zu_n _ _ _ h3, zar2_o _ _ _ _ h3 h1]
theorem zarr_c (iv : zI) (i a d : Nat) {j : Nat} (h5 : j ≠ 5) (h6 : j ≠ 6) (h7 : j ≠ 7) (h10 : j ≠ 10) (h11 : j ≠ 11) (h12 : j ≠ 12) : zarr iv i a d (91 + 3 * i) j = iv (91 + 3 * i) j := by
  unfold zarr
  split
  · rw [zu_s, pk_un h5, zu_s, pk_un h7, zu_n _ _ _ (by omega), zu_n _ _ _ (by omega), zar2_c _ _ _ _ h11 h12, zar1_c _ _ h6 h10]
  · rw [zu_s, pk_un h5, zar2_c _ _ _ _ h11 h12, zar1_c _ _ h6 h10]
theorem zarr_6 (iv : zI) (i a d : Nat) : zarr iv i a d (91 + 3 * i) 6 = iv (91 + 3 * i) 6 + zstep (iv (91 + 3 * i) 2) (iv (91 + 3 * i) 3) := by
  unfold zarr
  split
  · rw [zu_s, pk_un (by decide), zu_s, pk_un (by decide), zu_n _ _ _ (by omega), zu_n _ _ _ (by omega), zar2_c _ _ _ _ (by decide) (by decide), zar1_6]
  · rw [zu_s, pk_un (by decide), zar2_c _ _ _ _ (by decide) (by decide), zar1_6]
theorem zarr_5 (iv : zI) (i a d : Nat) : zarr iv i a d (91 + 3 * i) 5 = if iv (91 + 3 * i) 6 + zstep (iv (91 + 3 * i) 2) (iv (91 + 3 * i) 3) = iv (91 + 3 * i) 3 then 4 else 2 := by
  unfold zarr
  split
  · rw [zu_s]; exact pk_us
  · rw [zu_s]; exact pk_us
theorem zarr_7 (iv : zI) (i a d : Nat) (h : ¬ iv (91 + 3 * i) 6 + zstep (iv (91 + 3 * i) 2) (iv (91 + 3 * i) 3) = iv (91 + 3 * i) 3) : zarr iv i a d (91 + 3 * i) 7 = iv (91 + 3 * i) 7 := by
  unfold zarr
  rw [if_neg h, zu_s, pk_un (by decide), zar2_c _ _ _ _ (by decide) (by decide), zar1_c _ _ (by decide) (by decide)]
theorem zobf_o (iv : zI) (i : Nat) (be od : Int32) {q : Nat} (h8 : q ≠ 8) (h9 : q ≠ 9) (h10 : q ≠ 10) (h2 : q ≠ 91 + 3 * i + 2) (h3 : q ≠ 91 + 3 * i) : zobf iv i be od q = iv q := by
  unfold zobf
  split
  · rw [zdep_o _ _ _ h8 h2 h3]
  · split
    · rw [zdep_o _ _ _ h8 h2 h3, zharn_o _ _ _ h9 h10 h3, zstb_o _ _ h9 h10]
    · rw [zu_n _ _ _ h3]
theorem zobf_c (iv : zI) (i : Nat) (be od : Int32) {j : Nat} (h5 : j ≠ 5) (h7 : j ≠ 7) (h8 : j ≠ 8) (h9 : j ≠ 9) (h10 : j ≠ 10) : zobf iv i be od (91 + 3 * i) j = iv (91 + 3 * i) j := by
  unfold zobf
  split
  · rw [zdep_c _ _ _ h5 h8 h9]
  · split
    · rw [zdep_c _ _ _ h5 h8 h9, zharn_c _ _ _ h7, zstb_o _ _ (by omega) (by omega)]
    · rw [zu_s, pk_un h10]
/-- alike but for the guards' own rows -/
def zeq (u v : zI) : Prop := ∀ q, q ≠ 27 → q ≠ 28 → u q = v q
theorem zeq.rf (u : zI) : zeq u u := fun _ _ _ => rfl
theorem zeq.tr {u v w : zI} (h1 : zeq u v) (h2 : zeq v w) : zeq u w := fun q a b => (h1 q a b).trans (h2 q a b)
theorem zeq.sy {u v : zI} (h1 : zeq u v) : zeq v u := fun q a b => (h1 q a b).symm
theorem zeq.zu {u v : zI} (h : zeq u v) (k j : Nat) {x y : Int32} (hx : x = y) : zeq (zu u k j x) (zu v k j y) := by
  subst hx
  intro q a b
  by_cases hq : q = k
  · subst hq
    rw [zu_s, zu_s, h q a b]
  · rw [zu_n _ _ _ hq, zu_n _ _ _ hq, h q a b]
theorem zeq.co {u v : zI} (h : zeq u v) (i : Nat) : u (91 + 3 * i) = v (91 + 3 * i) := h _ (by omega) (by omega)
theorem zeq.sg {u v : zI} (h : zeq u v) (i : Nat) : zsg u i = zsg v i := zsg_c (h.co i)
theorem zeq.cost {u v : zI} (h : zeq u v) (i : Nat) : zco u i = zco v i := by
  unfold zco
  rw [h.sg, h 2 (by decide) (by decide), h 3 (by decide) (by decide), h 4 (by decide) (by decide), h.co]
theorem zeq.sv {u v : zI} (h : zeq u v) (i : Nat) : zsv u i = zsv v i := by
  unfold zsv
  rw [h 8 (by decide) (by decide), h.co]
theorem zeq.dep {u v : zI} (h : zeq u v) (i : Nat) (ch : Int32) : zeq (zdep u i ch) (zdep v i ch) := by
  have hw : zwe u i = zwe v i := by
    unfold zwe
    rw [h.cost, h.sv]
  have h1 : zeq (zd1 u i) (zd1 v i) := by
    unfold zd1
    rw [h.co]
    exact h.zu 8 _ (by rw [h.sv, h.cost])
  have h2 : zeq (zd2 u i ch) (zd2 v i ch) := by
    unfold zd2 zreck
    rw [h.sg, h 4 (by decide) (by decide), h 2 (by decide) (by decide), hw]
    exact ((((h1.zu _ _ rfl).zu _ _ (by rw [h1.co])).zu _ _ rfl).zu _ _ (by rw [h1.co])).zu _ _ (by rw [h1.co])
  have h3 : zeq (zd3 u i ch) (zd3 v i ch) := by
    unfold zd3
    exact h2.zu _ _ (by rw [h 0 (by decide) (by decide)])
  have h4 : zeq (zd4 u i ch) (zd4 v i ch) := by
    unfold zd4
    exact h3.zu _ _ (by rw [h 0 (by decide) (by decide), h.sg, h 2 (by decide) (by decide), h 3 (by decide) (by decide), h.co, h3 (91 + 3 * i + 2) (by omega) (by omega)])
  exact h4.zu _ _ rfl
theorem zeq.obf {u v : zI} (h : zeq u v) (i : Nat) (be od : Int32) : zeq (zobf u i be od) (zobf v i be od) := by
  unfold zobf
  split
  · exact h.dep i 0
  · split
    · have h1 : zeq (zstb u i) (zstb v i) := by
        unfold zstb
        rw [h.co]
        exact (h.zu _ _ rfl).zu _ _ rfl
      refine zeq.dep ?_ i 1
      unfold zharn
      exact ((h1.zu _ _ rfl).zu _ _ rfl).zu _ _ rfl
    · rw [h.co]
      exact h.zu _ _ rfl
/-! a coach as it must be -/
def zCI (inns teams : Int) (f : Nat → Int32) : Prop :=
  (0 ≤ (f 2).toInt ∧ (f 2).toInt < inns) ∧ (0 ≤ (f 3).toInt ∧ (f 3).toInt < inns) ∧ ¬ (f 2).toInt = (f 3).toInt ∧ ((f 2).toInt < (f 3).toInt → (f 2).toInt ≤ (f 6).toInt ∧ (f 6).toInt ≤ (f 3).toInt) ∧ (¬ (f 2).toInt < (f 3).toInt → (f 3).toInt ≤ (f 6).toInt ∧ (f 6).toInt ≤ (f 2).toInt) ∧ (f 5 = 0 ∨ f 5 = 1 ∨ f 5 = 2 ∨ f 5 = 3 ∨ f 5 = 4) ∧ (¬ f 5 = 4 → ¬ (f 6).toInt = (f 3).toInt) ∧ (f 5 = 1 ∨ f 5 = 2 ∨ f 5 = 3 → 0 ≤ (f 7).toInt ∧ (f 7).toInt < teams)
theorem zCI.sg {inns teams : Int} {iv : zI} {i : Nat} (hI : inns ≤ 8) (h : zCI inns teams (iv (91 + 3 * i))) (h4 : ¬ iv (91 + 3 * i) 5 = 4) : 0 ≤ (zsg iv i).toInt ∧ (zsg iv i).toInt < inns - 1 := by
  obtain ⟨h1, h2, h3, h5, h6, h7, h8, h9⟩ := h
  have h8 := h8 h4
  unfold zsg znext
  split
  · next q => have := h5 q; omega
  · next q =>
    have := h6 q
    rw [zt_m1 (by omega)]
    omega
theorem zCI.nx {inns teams : Int} {f : Nat → Int32} (hI : inns ≤ 8) (h : zCI inns teams f) (h4 : ¬ f 5 = 4) : (f 6 + zstep (f 2) (f 3)).toInt = (f 6).toInt + (if (f 2).toInt < (f 3).toInt then 1 else -1) := by
  obtain ⟨h1, h2, h3, h5, h6, h7, h8, h9⟩ := h
  unfold zstep
  split
  · next q =>
    have := h5 q
    rw [zt_p1 (by omega)]
  · next q =>
    have := h6 q
    rw [zt_add (by rw [show (-1 : Int32).toInt = -1 by decide]; omega) (by rw [show (-1 : Int32).toInt = -1 by decide]; omega), show (-1 : Int32).toInt = -1 by decide]
/-- the places of TOLD at the next inn -/
def zaa (f : Nat → Int32) : Nat := (zlo (f 2) (f 6 + zstep (f 2) (f 3))).toNatClampNeg
def zdd (f : Nat → Int32) : Nat := (zhi (f 2) (f 6 + zstep (f 2) (f 3))).toNatClampNeg - zaa f
theorem znI_cl {x : Int32} (h : 0 ≤ x.toInt) : nI x.toNatClampNeg = x := by
  apply Int32.toInt_inj.mp
  have h1 := zcl_int h
  have h2 := x.toInt_lt
  rw [nI_toInt (by omega)]
  omega
theorem zlo_t (a b : Int32) : (zlo a b).toInt = if b.toInt < a.toInt then b.toInt else a.toInt := by
  unfold zlo
  by_cases h : b < a
  · rw [if_pos h, if_pos (Int32.lt_iff_toInt_lt.mp h)]
  · rw [if_neg h, if_neg (fun z => h (Int32.lt_iff_toInt_lt.mpr z))]
theorem zhi_t (a b : Int32) : (zhi a b).toInt = if a.toInt < b.toInt then b.toInt else a.toInt := by
  unfold zhi
  by_cases h : a < b
  · rw [if_pos h, if_pos (Int32.lt_iff_toInt_lt.mp h)]
  · rw [if_neg h, if_neg (fun z => h (Int32.lt_iff_toInt_lt.mpr z))]
theorem zCI.ad {inns teams : Int} {f : Nat → Int32} (hI : inns ≤ 8) (h : zCI inns teams f) (h4 : ¬ f 5 = 4) : zlo (f 2) (f 6 + zstep (f 2) (f 3)) = nI (zaa f) ∧ zhi (f 2) (f 6 + zstep (f 2) (f 3)) = nI (zaa f + zdd f) ∧ ((zaa f + zdd f : Nat) : Int) < inns := by
  have hn := h.nx hI h4
  obtain ⟨h1, h2, h3, h5, h6, h7, h8, h9⟩ := h
  have h8 := h8 h4
  have hl := zlo_t (f 2) (f 6 + zstep (f 2) (f 3))
  have hh := zhi_t (f 2) (f 6 + zstep (f 2) (f 3))
  have hw : 0 ≤ (f 6 + zstep (f 2) (f 3)).toInt ∧ (f 6 + zstep (f 2) (f 3)).toInt < inns := by
    rw [hn]
    split
    · next q => have := h5 q; omega
    · next q => have := h6 q; omega
  have l0 : 0 ≤ (zlo (f 2) (f 6 + zstep (f 2) (f 3))).toInt := by rw [hl]; split <;> omega
  have h0 : 0 ≤ (zhi (f 2) (f 6 + zstep (f 2) (f 3))).toInt := by rw [hh]; split <;> omega
  have e1 := zcl_int l0
  have e2 := zcl_int h0
  have e3 : zaa f + zdd f = (zhi (f 2) (f 6 + zstep (f 2) (f 3))).toNatClampNeg := by
    unfold zdd zaa
    have : (zlo (f 2) (f 6 + zstep (f 2) (f 3))).toNatClampNeg ≤ (zhi (f 2) (f 6 + zstep (f 2) (f 3))).toNatClampNeg := by
      have : (zlo (f 2) (f 6 + zstep (f 2) (f 3))).toInt ≤ (zhi (f 2) (f 6 + zstep (f 2) (f 3))).toInt := by
        rw [hl, hh]; split <;> split <;> omega
      omega
    omega
  refine ⟨(znI_cl l0).symm, by rw [e3]; exact (znI_cl h0).symm, ?_⟩
  rw [e3, e2, hh]
  split <;> omega
