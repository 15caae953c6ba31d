/-! what always holds of the class's own cells -/
def zP9 (inns : Int) (t : Nat) (f : Nat → Int32) : Prop := ∀ k, k < t → f k = -1 ∨ (0 ≤ (f k).toInt ∧ (f k).toInt < inns)
theorem zP9.up {inns : Int} {t : Nat} {f : Nat → Int32} (h : zP9 inns t f) (k : Nat) {x : Int32} (hx : x = -1 ∨ (0 ≤ x.toInt ∧ x.toInt < inns)) : zP9 inns t (upd f k x) := by
  intro j hj
  by_cases hk : j = k
  · subst hk; rw [pk_us]; exact hx
  · rw [pk_un hk]; exact h j hj
def zGI (m tl : Nat) (en : Nat → Nat) (iv : zI) : Prop := iv 23 3 = nI m ∧ m ≤ 400 ∧ iv 23 0 = nI tl ∧ tl ≤ 10 ∧ (∀ l, l < tl → iv 24 l = nI (en l) ∧ en l ≤ m) ∧ (∀ j j2, j ≤ j2 → j2 < tl → en j ≤ en j2)
def zXI (n t m tl : Nat) (en : Nat → Nat) (iv : zI) : Prop :=
  (2 ≤ (iv 1 0).toInt ∧ (iv 1 0).toInt ≤ 8) ∧ iv 7 0 = nI t ∧ t ≤ 20 ∧ zP9 (iv 1 0).toInt t (iv 9) ∧ iv 0 3 = nI n ∧ n ≤ 8 ∧ (∀ i, i < n → zCI (iv 1 0).toInt t (iv (91 + 3 * i))) ∧ zGI m tl en iv
theorem zGI.c {m tl : Nat} {en : Nat → Nat} {u v : zI} (h : zGI m tl en u) (h23 : v 23 = u 23) (h24 : v 24 = u 24) : zGI m tl en v := by
  unfold zGI
  rw [h23, h24]
  exact h
theorem zCI.mk {inns teams : Int} {f g : Nat → Int32} (h : zCI inns teams f) (e2 : g 2 = f 2) (e3 : g 3 = f 3) (e6 : g 6 = f 6) (h5 : g 5 = 0 ∨ g 5 = 1 ∨ g 5 = 2 ∨ g 5 = 3) (h4 : ¬ (f 6).toInt = (f 3).toInt) (h7 : g 5 = 1 ∨ g 5 = 2 ∨ g 5 = 3 → 0 ≤ (g 7).toInt ∧ (g 7).toInt < teams) : zCI inns teams g := by
  obtain ⟨h1, h2, h3, h5', h6, h7', h8, h9⟩ := h
  unfold zCI
  rw [e2, e3, e6]
  exact ⟨h1, h2, h3, h5', h6, by rcases h5 with h | h | h | h <;> simp [h], fun _ => h4, h7⟩
theorem zXI.keep {n t m tl : Nat} {en : Nat → Nat} {u v : zI} (h : zXI n t m tl en u) (i : Nat) (hi : i < n) (o : ∀ q, q ≠ 6 → q ≠ 8 → q ≠ 9 → q ≠ 10 → q ≠ 91 + 3 * i → q ≠ 91 + 3 * i + 1 → q ≠ 91 + 3 * i + 2 → q ≠ 27 → q ≠ 28 → v q = u q) (h9 : zP9 (u 1 0).toInt t (v 9)) (hc : zCI (u 1 0).toInt t (v (91 + 3 * i))) : zXI n t m tl en v := by
  obtain ⟨a1, a2, a3, a4, a5, a6, a7, a8⟩ := h
  have e1 : v 1 = u 1 := o 1 (by decide) (by decide) (by decide) (by decide) (by omega) (by omega) (by omega) (by decide) (by decide)
  have e7 : v 7 = u 7 := o 7 (by decide) (by decide) (by decide) (by decide) (by omega) (by omega) (by omega) (by decide) (by decide)
  have e0 : v 0 = u 0 := o 0 (by decide) (by decide) (by decide) (by decide) (by omega) (by omega) (by omega) (by decide) (by decide)
  refine ⟨by rw [e1]; exact a1, by rw [e7]; exact a2, a3, by rw [e1]; exact h9, by rw [e0]; exact a5, a6, fun j hj => ?_, a8.c (o 23 (by decide) (by decide) (by decide) (by decide) (by omega) (by omega) (by omega) (by decide) (by decide)) (o 24 (by decide) (by decide) (by decide) (by decide) (by omega) (by omega) (by omega) (by decide) (by decide))⟩
  rw [e1]
  by_cases hj2 : j = i
  · subst hj2; exact hc
  · rw [o (91 + 3 * j) (by omega) (by omega) (by omega) (by omega) (by omega) (by omega) (by omega) (by omega) (by omega)]
    exact a7 j hj
theorem zXI.eq {n t m tl : Nat} {en : Nat → Nat} {u v : zI} (h : zXI n t m tl en u) (e : zeq v u) : zXI n t m tl en v := by
  obtain ⟨a1, a2, a3, a4, a5, a6, a7, a8⟩ := h
  refine ⟨by rw [e 1 (by decide) (by decide)]; exact a1, by rw [e 7 (by decide) (by decide)]; exact a2, a3, by rw [e 1 (by decide) (by decide), e 9 (by decide) (by decide)]; exact a4, by rw [e 0 (by decide) (by decide)]; exact a5, a6, fun j hj => ?_, a8.c (e 23 (by decide) (by decide)) (e 24 (by decide) (by decide))⟩
  rw [e 1 (by decide) (by decide), e.co j]
  exact a7 j hj
/-- before a held coach obeys -/
def zch (iv : zI) (i t : Nat) : zI :=
  if iv (91 + 3 * i) 5 = 0 ∧ (iv (91 + 3 * i) 4).toInt ≤ (iv 0 10).toInt then zset iv i t
  else if iv (91 + 3 * i) 5 = 3 ∧ (iv (91 + 3 * i) 8).toInt ≤ (iv 0 10).toInt then zu iv (91 + 3 * i) 5 1
  else if iv (91 + 3 * i) 5 = 1 ∧ (iv (91 + 3 * i) 9).toInt ≤ (iv 0 10).toInt then zarr iv i (zaa (iv (91 + 3 * i))) (zdd (iv (91 + 3 * i)))
  else iv
def zact (iv : zI) (i t tl : Nat) : zI := if zch iv i t (91 + 3 * i) 5 = 2 then zobf (zch iv i t) i (zbest (zch iv i t) i t) (zord (zch iv i t) i t tl) else zch iv i t
theorem zch_o (iv : zI) (i t : Nat) {q : Nat} (h8 : q ≠ 8) (h9 : q ≠ 9) (h10 : q ≠ 10) (h0 : q ≠ 91 + 3 * i) (h1 : q ≠ 91 + 3 * i + 1) (h2 : q ≠ 91 + 3 * i + 2) : zch iv i t q = iv q := by
  unfold zch
  split
  · exact zset_o _ _ _ h8 h9 h10 h2 h0
  · split
    · exact zu_n _ _ _ h0
    · split
      · exact zarr_o _ _ _ _ h9 h10 h1 h0
      · rfl
theorem zact_o (iv : zI) (i t tl : Nat) {q : Nat} (h8 : q ≠ 8) (h9 : q ≠ 9) (h10 : q ≠ 10) (h0 : q ≠ 91 + 3 * i) (h1 : q ≠ 91 + 3 * i + 1) (h2 : q ≠ 91 + 3 * i + 2) : zact iv i t tl q = iv q := by
  unfold zact
  split
  · rw [zobf_o _ _ _ _ h8 h9 h10 h2 h0, zch_o _ _ _ h8 h9 h10 h0 h1 h2]
  · exact zch_o _ _ _ h8 h9 h10 h0 h1 h2
theorem zXI.set {n t m tl : Nat} {en : Nat → Nat} {iv : zI} {i : Nat} (h : zXI n t m tl en iv) (hi : i < n) (h0 : iv (91 + 3 * i) 5 = 0) : zXI n t m tl en (zset iv i t) := by
  have hh := h
  obtain ⟨a1, a2, a3, a4, a5, a6, a7, a8⟩ := h
  have hc := a7 i hi
  have h4 : ¬ (iv (91 + 3 * i) 6).toInt = (iv (91 + 3 * i) 3).toInt := hc.2.2.2.2.2.2.1 (by rw [h0]; decide)
  refine hh.keep i hi (fun q _ q8 q9 q10 qc _ q2 _ _ => zset_o _ _ _ q8 q9 q10 q2 qc) ?_ ?_
  · unfold zset
    split
    · rw [zu_n _ _ _ (by omega)]; exact a4
    · rw [zdep_o _ _ _ (by decide) (by omega) (by omega)]
      unfold zharn
      rw [zu_n _ _ _ (by omega), zu_n _ _ _ (by decide), zu_s]
      exact a4.up _ (Or.inl rfl)
  · unfold zset
    split
    · refine hc.mk (by rw [zu_s]; exact pk_un (by decide)) (by rw [zu_s]; exact pk_un (by decide)) (by rw [zu_s]; exact pk_un (by decide)) (by rw [zu_s, pk_un (by decide)]; exact Or.inl h0) h4 ?_
      rw [zu_s, pk_un (by decide), h0]
      intro z
      exact absurd z (by decide)
    · next hb =>
      refine hc.mk (by rw [zdep_c _ _ _ (by decide) (by decide) (by decide), zharn_c _ _ _ (by decide)]) (by rw [zdep_c _ _ _ (by decide) (by decide) (by decide), zharn_c _ _ _ (by decide)]) (by rw [zdep_c _ _ _ (by decide) (by decide) (by decide), zharn_c _ _ _ (by decide)]) (by rw [zdep_5]; exact Or.inr (Or.inl rfl)) h4 (fun _ => ?_)
      rw [zdep_c _ _ _ (by decide) (by decide) (by decide), zharn_7]
      exact zbest_in a3 hb
theorem zXI.arr {n t m tl : Nat} {en : Nat → Nat} {iv : zI} {i a d : Nat} (h : zXI n t m tl en iv) (hi : i < n) (h0 : iv (91 + 3 * i) 5 = 1) : zXI n t m tl en (zarr iv i a d) := by
  have hh := h
  obtain ⟨a1, a2, a3, a4, a5, a6, a7, a8⟩ := h
  have hc := a7 i hi
  have hn := hc.nx a1.2 (by rw [h0]; decide)
  obtain ⟨h1, h2, h3, h5, h6, h7, h8, h9⟩ := hc
  have h8 := h8 (by rw [h0]; decide)
  have hw : 0 ≤ (iv (91 + 3 * i) 6 + zstep (iv (91 + 3 * i) 2) (iv (91 + 3 * i) 3)).toInt ∧ (iv (91 + 3 * i) 6 + zstep (iv (91 + 3 * i) 2) (iv (91 + 3 * i) 3)).toInt < (iv 1 0).toInt := by
    rw [hn]
    split
    · next q => have := h5 q; omega
    · next q => have := h6 q; omega
  refine hh.keep i hi (fun q _ q8 q9 q10 qc q1 q2 _ _ => zarr_o _ _ _ _ q9 q10 q1 qc) ?_ ?_
  · unfold zarr
    split
    · rw [zu_n _ _ _ (by omega), zu_n _ _ _ (by omega), zu_n _ _ _ (by decide), zu_s, zar2_o _ _ _ _ (by omega) (by omega)]
      exact a4.up _ (Or.inr hw)
    · rw [zu_n _ _ _ (by omega), zar2_o _ _ _ _ (by omega) (by omega)]
      exact a4
  · unfold zCI
    rw [zarr_c _ _ _ _ (by decide) (by decide) (by decide) (by decide) (by decide) (by decide), zarr_c _ _ _ _ (by decide) (by decide) (by decide) (by decide) (by decide) (by decide), zarr_6, zarr_5]
    by_cases ht : iv (91 + 3 * i) 6 + zstep (iv (91 + 3 * i) 2) (iv (91 + 3 * i) 3) = iv (91 + 3 * i) 3
    · rw [if_pos ht]
      refine ⟨h1, h2, h3, fun q => ?_, fun q => ?_, by simp, fun z => absurd rfl z, fun z => absurd z (by decide)⟩
      · rw [ht]; omega
      · rw [ht]; omega
    · rw [if_neg ht]
      have ht2 : ¬ (iv (91 + 3 * i) 6 + zstep (iv (91 + 3 * i) 2) (iv (91 + 3 * i) 3)).toInt = (iv (91 + 3 * i) 3).toInt := fun z => ht (Int32.toInt_inj.mp z)
      refine ⟨h1, h2, h3, fun q => ?_, fun q => ?_, by simp, fun _ => ht2, fun _ => by rw [zarr_7 _ _ _ _ ht]; exact h9 (Or.inl h0)⟩
      · have := h5 q; rw [hn, if_pos q]; omega
      · have := h6 q; rw [hn, if_neg q]; omega
theorem zXI.ch {n t m tl : Nat} {en : Nat → Nat} {iv : zI} {i : Nat} (h : zXI n t m tl en iv) (hi : i < n) : zXI n t m tl en (zch iv i t) := by
  unfold zch
  split
  · next q => exact h.set hi q.1
  · split
    · next q =>
      have hc := h.2.2.2.2.2.2.1 i hi
      refine h.keep i hi (fun q _ _ _ _ qc _ _ _ _ => zu_n _ _ _ qc) (by rw [zu_n _ _ _ (by omega)]; exact h.2.2.2.1) ?_
      refine hc.mk (by rw [zu_s]; exact pk_un (by decide)) (by rw [zu_s]; exact pk_un (by decide)) (by rw [zu_s]; exact pk_un (by decide)) (by rw [zu_s, pk_us]; exact Or.inr (Or.inl rfl)) (hc.2.2.2.2.2.2.1 (by rw [q.1]; decide)) (fun _ => ?_)
      rw [zu_s, pk_un (by decide)]
      exact hc.2.2.2.2.2.2.2 (Or.inr (Or.inr q.1))
    · split
      · next q => exact h.arr hi q.1
      · exact h
theorem zXI.obf {n t m tl : Nat} {en : Nat → Nat} {iv : zI} {i : Nat} {od : Int32} (h : zXI n t m tl en iv) (hi : i < n) (h0 : iv (91 + 3 * i) 5 = 2) : zXI n t m tl en (zobf iv i (zbest iv i t) od) := by
  have hh := h
  obtain ⟨a1, a2, a3, a4, a5, a6, a7, a8⟩ := h
  have hc := a7 i hi
  have h4 := hc.2.2.2.2.2.2.1 (by rw [h0]; decide)
  have h7 := hc.2.2.2.2.2.2.2 (Or.inr (Or.inl h0))
  have hinn : 0 ≤ (iv (91 + 3 * i) 6).toInt ∧ (iv (91 + 3 * i) 6).toInt < (iv 1 0).toInt := by
    obtain ⟨h1, h2, h3, h5, h6, -⟩ := hc
    by_cases q : (iv (91 + 3 * i) 2).toInt < (iv (91 + 3 * i) 3).toInt
    · have := h5 q; omega
    · have := h6 q; omega
  refine hh.keep i hi (fun q _ q8 q9 q10 qc q1 q2 _ _ => zobf_o _ _ _ _ q8 q9 q10 q2 qc) ?_ ?_
  · unfold zobf
    split
    · rw [zdep_o _ _ _ (by decide) (by omega) (by omega)]; exact a4
    · split
      · rw [zdep_o _ _ _ (by decide) (by omega) (by omega)]
        unfold zharn
        rw [zu_n _ _ _ (by omega), zu_n _ _ _ (by decide), zu_s]
        unfold zstb
        rw [zu_n _ _ _ (by decide), zu_s]
        exact (a4.up _ (Or.inr hinn)).up _ (Or.inl rfl)
      · rw [zu_n _ _ _ (by omega)]; exact a4
  · refine hc.mk (zobf_c _ _ _ _ (by decide) (by decide) (by decide) (by decide) (by decide)) (zobf_c _ _ _ _ (by decide) (by decide) (by decide) (by decide) (by decide)) (zobf_c _ _ _ _ (by decide) (by decide) (by decide) (by decide) (by decide)) ?_ h4 (fun _ => ?_)
    · unfold zobf
      split
      · rw [zdep_5]; exact Or.inr (Or.inl rfl)
      · split
        · rw [zdep_5]; exact Or.inr (Or.inr (Or.inr rfl))
        · rw [zu_s, pk_un (by decide), h0]; exact Or.inr (Or.inr (Or.inl rfl))
    · unfold zobf
      split
      · rw [zdep_c _ _ _ (by decide) (by decide) (by decide)]; exact h7
      · split
        · next q => rw [zdep_c _ _ _ (by decide) (by decide) (by decide), zharn_7]; exact zbest_in a3 q.2
        · rw [zu_s, pk_un (by decide)]; exact h7
theorem zXI.act {n t m tl : Nat} {en : Nat → Nat} {iv : zI} {i : Nat} (h : zXI n t m tl en iv) (hi : i < n) : zXI n t m tl en (zact iv i t tl) := by
  unfold zact
  split
  · next q => exact (h.ch hi).obf hi q
  · exact h.ch hi
