/-! what always holds of the reference's own cells -/
def zmf (iv : zI) (i : Nat) : Nat → Int32 := fun j => match j with
  | 2 => iv 52 i
  | 3 => iv 53 i
  | 5 => iv 55 i
  | 6 => iv 56 i
  | _ => iv 57 i
def zMI (n t tl : Nat) (fa : Nat → Nat) (iv : zI) : Prop :=
  (2 ≤ (iv 41 1).toInt ∧ (iv 41 1).toInt ≤ 8) ∧ iv 41 7 = nI t ∧ t ≤ 20 ∧ zP9 (iv 41 1).toInt t (iv 48) ∧ iv 41 11 = nI n ∧ n ≤ 8 ∧ (∀ i, i < n → zCI (iv 41 1).toInt t (zmf iv i)) ∧ zmGI tl fa iv
theorem zmf_c {u v : zI} {i : Nat} (h52 : v 52 i = u 52 i) (h53 : v 53 i = u 53 i) (h55 : v 55 i = u 55 i) (h56 : v 56 i = u 56 i) (h57 : v 57 i = u 57 i) : zmf v i = zmf u i := by
  funext j
  unfold zmf
  split <;> assumption
theorem zmGI.c {tl : Nat} {fa : Nat → Nat} {u v : zI} (h : zmGI tl fa u) (h41 : v 41 30 = u 41 30) (h66 : v 66 = u 66) (h64 : v 64 = u 64) : zmGI tl fa v := by
  unfold zmGI
  rw [h41, h66, h64]
  exact h
theorem zMI.keep {n t tl : Nat} {fa : Nat → Nat} {u v : zI} (h : zMI n t tl fa u) (i : Nat) (h41 : v 41 = u 41) (h52 : v 52 = u 52) (h53 : v 53 = u 53) (h64 : v 64 = u 64) (h66 : v 66 = u 66) (h9 : zP9 (u 41 1).toInt t (v 48)) (ho : ∀ j, j ≠ i → v 55 j = u 55 j ∧ v 56 j = u 56 j ∧ v 57 j = u 57 j) (hc : zCI (u 41 1).toInt t (zmf v i)) : zMI n t tl fa v := by
  obtain ⟨a1, a2, a3, a4, a5, a6, a7, a8⟩ := h
  refine ⟨by rw [h41]; exact a1, by rw [h41]; exact a2, a3, by rw [h41]; exact h9, by rw [h41]; exact a5, a6, fun j hj => ?_, a8.c (by rw [h41]) h66 h64⟩
  rw [h41]
  by_cases hj2 : j = i
  · subst hj2; exact hc
  · obtain ⟨b1, b2, b3⟩ := ho j hj2
    rw [zmf_c (u := u) (by rw [h52]) (by rw [h53]) b1 b2 b3]
    exact a7 j hj
theorem zMI.sc {n t tl : Nat} {fa : Nat → Nat} {u v : zI} (h : zMI n t tl fa u) (e : zmsc v u) : zMI n t tl fa v := by
  obtain ⟨a1, a2, a3, a4, a5, a6, a7, a8⟩ := h
  have e41 := e 41 (by decide) (by decide)
  refine ⟨by rw [e41]; exact a1, by rw [e41]; exact a2, a3, by rw [e41, e 48 (by decide) (by decide)]; exact a4, by rw [e41]; exact a5, a6, fun j hj => ?_, a8.c (by rw [e41]) (e 66 (by decide) (by decide)) (e 64 (by decide) (by decide))⟩
  rw [e41, zmf_c (u := u) (by rw [e 52 (by decide) (by decide)]) (by rw [e 53 (by decide) (by decide)]) (by rw [e 55 (by decide) (by decide)]) (by rw [e 56 (by decide) (by decide)]) (by rw [e 57 (by decide) (by decide)])]
  exact a7 j hj
theorem zmsc.rf (u : zI) : zmsc u u := fun _ _ _ => rfl
theorem zmsc.tr {u v w : zI} (h1 : zmsc u v) (h2 : zmsc v w) : zmsc u w := fun q a b => (h1 q a b).trans (h2 q a b)
theorem zmsc.zu {u v : zI} (h : zmsc u v) (k j : Nat) {x y : Int32} (hx : x = y) : zmsc (zu u k j x) (zu v k j y) := by
  subst hx
  intro q a b
  by_cases hq : q = k
  · subst hq
    rw [zu_s, zu_s, h q a b]
  · rw [zu_n _ _ _ hq, zu_n _ _ _ hq, h q a b]
theorem zmlv_o (iv : zI) (i : Nat) (w : Int32) {q : Nat} (h1 : q ≠ 47) (h2 : q ≠ 63) (h3 : q ≠ 59) (h4 : q ≠ 58) : zmlv iv i w q = iv q := by
  unfold zmlv
  rw [zu_n _ _ _ h4, zu_n _ _ _ h3, zml3_o _ _ h1 h2]
theorem zmharn_o (iv : zI) (i : Nat) (te : Int32) {q : Nat} (h1 : q ≠ 57) (h2 : q ≠ 48) (h3 : q ≠ 49) : zmharn iv i te q = iv q := by
  unfold zmharn
  rw [zu_n _ _ _ h3, zu_n _ _ _ h2, zu_n _ _ _ h1]
theorem zmunh_o (iv : zI) (i : Nat) {q : Nat} (h1 : q ≠ 57) (h2 : q ≠ 48) (h3 : q ≠ 49) : zmunh iv i q = iv q := by
  unfold zmunh
  rw [zu_n _ _ _ h1, zu_n _ _ _ h3, zu_n _ _ _ h2]
theorem zmchg_o (iv : zI) (i : Nat) (be : Int32) {q : Nat} (h1 : q ≠ 57) (h2 : q ≠ 48) (h3 : q ≠ 49) (h4 : q ≠ 63) : zmchg iv i be q = iv q := by
  unfold zmchg
  rw [zu_n _ _ _ h4, zmharn_o _ _ _ h1 h2 h3, zmunh_o _ _ h1 h2 h3]
theorem zmset_o (iv : zI) (i t : Nat) {q : Nat} (h1 : q ≠ 47) (h2 : q ≠ 63) (h3 : q ≠ 59) (h4 : q ≠ 58) (h5 : q ≠ 57) (h6 : q ≠ 48) (h7 : q ≠ 49) (h8 : q ≠ 55) (h9 : q ≠ 60) : zmset iv i t q = iv q := by
  unfold zmset
  split
  · rw [zu_n _ _ _ h9]
  · rw [zu_n _ _ _ h9, zu_n _ _ _ h8, zmlv_o _ _ _ h1 h2 h3 h4, zmharn_o _ _ _ h5 h6 h7]
theorem zmarr_o (iv : zI) (i : Nat) {q : Nat} (h1 : q ≠ 56) (h2 : q ≠ 61) (h3 : q ≠ 62) (h4 : q ≠ 59) (h5 : q ≠ 58) (h6 : q ≠ 60) (h7 : q ≠ 55) (h8 : q ≠ 48) (h9 : q ≠ 49) (h10 : q ≠ 57) : zmarr iv i q = iv q := by
  unfold zmarr
  split
  · rw [zu_n _ _ _ h10, zu_n _ _ _ h9, zu_n _ _ _ h8, zu_n _ _ _ h7, zma4_o _ _ h1 h2 h3 h4 h5 h6]
  · rw [zu_n _ _ _ h7, zma4_o _ _ h1 h2 h3 h4 h5 h6]
theorem zmobf_o (iv : zI) (i : Nat) (be od : Int32) {q : Nat} (h1 : q ≠ 47) (h2 : q ≠ 63) (h3 : q ≠ 59) (h4 : q ≠ 58) (h5 : q ≠ 57) (h6 : q ≠ 48) (h7 : q ≠ 49) (h8 : q ≠ 55) (h9 : q ≠ 60) : zmobf iv i be od q = iv q := by
  unfold zmobf
  split
  · rw [zu_n _ _ _ h9]
  · split
    · rw [zu_n _ _ _ h8, zmlv_o _ _ _ h1 h2 h3 h4, zmchg_o _ _ _ h5 h6 h7 h2]
    · split
      · rw [zu_n _ _ _ h9, zu_n _ _ _ h8, zmlv_o _ _ _ h1 h2 h3 h4]
      · rw [zu_n _ _ _ h8, zmlv_o _ _ _ h1 h2 h3 h4]
/-! one coach's share of a minute -/
def zmc1 (iv : zI) (i : Nat) : zI := if iv 55 i = 3 ∧ iv 58 i = iv 41 0 then zu (zu iv 55 i 1) 60 i 0 else iv
def zmc2 (v : zI) (i t : Nat) : zI := if v 55 i = 0 ∧ (v 54 i).toInt ≤ (v 41 0).toInt then zmset v i t else if v 55 i = 1 ∧ v 59 i = v 41 0 then zmarr v i else v
def zmcc (iv : zI) (i t : Nat) : zI := zmc2 (zmc1 iv i) i t
def zmact (iv : zI) (i t tl : Nat) (fa : Nat → Nat) : zI := if zmcc iv i t 55 i = 2 then zmobf (zmcc iv i t) i (zmbest (zmcc iv i t) i t) (zmord (zmcc iv i t) i t tl fa) else zmcc iv i t
/-- it becomes done -/
def zmdn (iv : zI) (i t : Nat) : Int32 := if ¬ (zmc1 iv i 55 i = 0 ∧ (zmc1 iv i 54 i).toInt ≤ (zmc1 iv i 41 0).toInt) ∧ (zmc1 iv i 55 i = 1 ∧ zmc1 iv i 59 i = zmc1 iv i 41 0) ∧ zmcc iv i t 55 i = 4 then 1 else 0
theorem zMI.c1 {n t tl : Nat} {fa : Nat → Nat} {iv : zI} {i : Nat} (h : zMI n t tl fa iv) (hi : i < n) : zMI n t tl fa (zmc1 iv i) := by
  unfold zmc1
  split
  · next q =>
    have hc := h.2.2.2.2.2.2.1 i hi
    refine h.keep i rfl rfl rfl rfl rfl h.2.2.2.1 (fun j hj => ⟨?_, rfl, rfl⟩) ?_
    · show upd (iv 55) i 1 j = _
      exact pk_un hj
    · have e5 : zmf (zu (zu iv 55 i 1) 60 i 0) i 5 = 1 := by
        show upd (iv 55) i 1 i = 1
        exact pk_us
      refine hc.mk rfl rfl rfl (by rw [e5]; exact Or.inr (Or.inl rfl)) (hc.2.2.2.2.2.2.1 (by show ¬ iv 55 i = 4; rw [q.1]; decide)) (fun _ => ?_)
      exact hc.2.2.2.2.2.2.2 (Or.inr (Or.inr q.1))
  · exact h
theorem zMI.set {n t tl : Nat} {fa : Nat → Nat} {iv : zI} {i : Nat} (h : zMI n t tl fa iv) (hi : i < n) (h0 : iv 55 i = 0) : zMI n t tl fa (zmset iv i t) := by
  have hc := h.2.2.2.2.2.2.1 i hi
  have h4 := hc.2.2.2.2.2.2.1 (by show ¬ iv 55 i = 4; rw [h0]; decide)
  unfold zmset
  split
  · refine h.keep i rfl rfl rfl rfl rfl h.2.2.2.1 (fun j hj => ⟨rfl, rfl, rfl⟩) ?_
    rw [show zmf (zu iv 60 i (iv 60 i + 1)) i = zmf iv i from rfl]
    exact hc
  · next hb =>
    have o := fun {q : Nat} (a1 : q ≠ 60) (a2 : q ≠ 55) (a3 : q ≠ 47) (a4 : q ≠ 63) (a5 : q ≠ 59) (a6 : q ≠ 58) (a7 : q ≠ 57) (a8 : q ≠ 48) (a9 : q ≠ 49) => show zu (zu (zmlv (zmharn iv i (zmbest iv i t)) i (iv 41 0)) 55 i 1) 60 i 0 q = iv q by rw [zu_n _ _ _ a1, zu_n _ _ _ a2, zmlv_o _ _ _ a3 a4 a5 a6, zmharn_o _ _ _ a7 a8 a9]
    have e57 : zu (zu (zmlv (zmharn iv i (zmbest iv i t)) i (iv 41 0)) 55 i 1) 60 i 0 57 = upd (iv 57) i (zmbest iv i t) := by
      rw [zu_n _ _ _ (by decide), zu_n _ _ _ (by decide), zmlv_o _ _ _ (by decide) (by decide) (by decide) (by decide)]
      rfl
    have e55 : zu (zu (zmlv (zmharn iv i (zmbest iv i t)) i (iv 41 0)) 55 i 1) 60 i 0 55 = upd (iv 55) i 1 := by
      rw [zu_n _ _ _ (by decide), zu_s, zmlv_o _ _ _ (by decide) (by decide) (by decide) (by decide)]
      rfl
    have e56 := o (q := 56) (by decide) (by decide) (by decide) (by decide) (by decide) (by decide) (by decide) (by decide) (by decide)
    refine h.keep i (o (by decide) (by decide) (by decide) (by decide) (by decide) (by decide) (by decide) (by decide) (by decide)) (o (by decide) (by decide) (by decide) (by decide) (by decide) (by decide) (by decide) (by decide) (by decide)) (o (by decide) (by decide) (by decide) (by decide) (by decide) (by decide) (by decide) (by decide) (by decide)) (o (by decide) (by decide) (by decide) (by decide) (by decide) (by decide) (by decide) (by decide) (by decide)) (o (by decide) (by decide) (by decide) (by decide) (by decide) (by decide) (by decide) (by decide) (by decide)) ?_ (fun j hj => ⟨by rw [e55]; exact pk_un hj, by rw [e56], by rw [e57]; exact pk_un hj⟩) ?_
    · rw [zu_n _ _ _ (by decide), zu_n _ _ _ (by decide), zmlv_o _ _ _ (by decide) (by decide) (by decide) (by decide)]
      exact h.2.2.2.1.up _ (Or.inl rfl)
    · have g2 := o (q := 52) (by decide) (by decide) (by decide) (by decide) (by decide) (by decide) (by decide) (by decide) (by decide)
      have g3 := o (q := 53) (by decide) (by decide) (by decide) (by decide) (by decide) (by decide) (by decide) (by decide) (by decide)
      have g5 : zmf (zu (zu (zmlv (zmharn iv i (zmbest iv i t)) i (iv 41 0)) 55 i 1) 60 i 0) i 5 = 1 := by
        show zu (zu (zmlv (zmharn iv i (zmbest iv i t)) i (iv 41 0)) 55 i 1) 60 i 0 55 i = 1
        rw [e55]; exact pk_us
      refine hc.mk (congrFun g2 i) (congrFun g3 i) (congrFun e56 i) (by rw [g5]; exact Or.inr (Or.inl rfl)) h4 (fun _ => ?_)
      show 0 ≤ (zu (zu (zmlv (zmharn iv i (zmbest iv i t)) i (iv 41 0)) 55 i 1) 60 i 0 57 i).toInt ∧ (zu (zu (zmlv (zmharn iv i (zmbest iv i t)) i (iv 41 0)) 55 i 1) 60 i 0 57 i).toInt < t
      rw [e57, pk_us]
      exact zmbest_in h.2.2.1 hb
theorem zMI.arr {n t tl : Nat} {fa : Nat → Nat} {iv : zI} {i : Nat} (h : zMI n t tl fa iv) (hi : i < n) (h0 : iv 55 i = 1) : zMI n t tl fa (zmarr iv i) := by
  have hc := h.2.2.2.2.2.2.1 i hi
  have a1 := h.1
  have a4 := h.2.2.2.1
  have hn := hc.nx a1.2 (by show ¬ iv 55 i = 4; rw [h0]; decide)
  have hn : (iv 56 i + zstep (iv 52 i) (iv 53 i)).toInt = (iv 56 i).toInt + (if (iv 52 i).toInt < (iv 53 i).toInt then 1 else -1) := hn
  obtain ⟨h1, h2, h3, h5, h6, h7, h8, h9⟩ := hc
  have h1 : 0 ≤ (iv 52 i).toInt ∧ (iv 52 i).toInt < (iv 41 1).toInt := h1
  have h2 : 0 ≤ (iv 53 i).toInt ∧ (iv 53 i).toInt < (iv 41 1).toInt := h2
  have h3 : ¬ (iv 52 i).toInt = (iv 53 i).toInt := h3
  have h5 : (iv 52 i).toInt < (iv 53 i).toInt → (iv 52 i).toInt ≤ (iv 56 i).toInt ∧ (iv 56 i).toInt ≤ (iv 53 i).toInt := h5
  have h6 : ¬ (iv 52 i).toInt < (iv 53 i).toInt → (iv 53 i).toInt ≤ (iv 56 i).toInt ∧ (iv 56 i).toInt ≤ (iv 52 i).toInt := h6
  have h8 : ¬ (iv 56 i).toInt = (iv 53 i).toInt := h8 (by show ¬ iv 55 i = 4; rw [h0]; decide)
  have h9 : 0 ≤ (iv 57 i).toInt ∧ (iv 57 i).toInt < t := h9 (Or.inl h0)
  have hw : 0 ≤ (iv 56 i + zstep (iv 52 i) (iv 53 i)).toInt ∧ (iv 56 i + zstep (iv 52 i) (iv 53 i)).toInt < (iv 41 1).toInt := by
    rw [hn]
    split
    · next q => have := h5 q; omega
    · next q => have := h6 q; omega
  have g56 : zma4 iv i 56 = upd (iv 56) i (iv 56 i + zstep (iv 52 i) (iv 53 i)) := by
    unfold zma4
    rw [zu_n _ _ _ (by decide), zu_n _ _ _ (by decide), zu_n _ _ _ (by decide), zmcp_o _ _ (by decide)]
    rfl
  have o4 := fun {q : Nat} (h1 : q ≠ 56) (h2 : q ≠ 61) (h3 : q ≠ 62) (h4 : q ≠ 59) (h5 : q ≠ 58) (h6 : q ≠ 60) => zma4_o iv i h1 h2 h3 h4 h5 h6
  by_cases ht : iv 56 i + zstep (iv 52 i) (iv 53 i) = iv 53 i
  · have ez : zmarr iv i = zu (zu (zu (zu (zma4 iv i) 55 i 4) 48 (iv 57 i).toNatClampNeg (iv 56 i + zstep (iv 52 i) (iv 53 i))) 49 (iv 57 i).toNatClampNeg (-1)) 57 i (-1) := if_pos ht
    have e55 : zmarr iv i 55 = upd (iv 55) i 4 := by
      rw [ez, zu_n _ _ _ (by decide), zu_n _ _ _ (by decide), zu_n _ _ _ (by decide), zu_s, o4 (by decide) (by decide) (by decide) (by decide) (by decide) (by decide)]
    have e56 : zmarr iv i 56 = upd (iv 56) i (iv 56 i + zstep (iv 52 i) (iv 53 i)) := by
      rw [ez, zu_n _ _ _ (by decide), zu_n _ _ _ (by decide), zu_n _ _ _ (by decide), zu_n _ _ _ (by decide), g56]
    have e57 : zmarr iv i 57 = upd (iv 57) i (-1) := by
      rw [ez, zu_s, zu_n _ _ _ (by decide), zu_n _ _ _ (by decide), zu_n _ _ _ (by decide), o4 (by decide) (by decide) (by decide) (by decide) (by decide) (by decide)]
    have e48 : zmarr iv i 48 = upd (iv 48) (iv 57 i).toNatClampNeg (iv 56 i + zstep (iv 52 i) (iv 53 i)) := by
      rw [ez, zu_n _ _ _ (by decide), zu_n _ _ _ (by decide), zu_s, zu_n _ _ _ (by decide), o4 (by decide) (by decide) (by decide) (by decide) (by decide) (by decide)]
    have o := fun {q : Nat} (h1 : q ≠ 56) (h2 : q ≠ 61) (h3 : q ≠ 62) (h4 : q ≠ 59) (h5 : q ≠ 58) (h6 : q ≠ 60) (h7 : q ≠ 55) (h8 : q ≠ 48) (h9 : q ≠ 49) (h10 : q ≠ 57) => zmarr_o iv i h1 h2 h3 h4 h5 h6 h7 h8 h9 h10
    refine h.keep i (o (by decide) (by decide) (by decide) (by decide) (by decide) (by decide) (by decide) (by decide) (by decide) (by decide)) (o (by decide) (by decide) (by decide) (by decide) (by decide) (by decide) (by decide) (by decide) (by decide) (by decide)) (o (by decide) (by decide) (by decide) (by decide) (by decide) (by decide) (by decide) (by decide) (by decide) (by decide)) (o (by decide) (by decide) (by decide) (by decide) (by decide) (by decide) (by decide) (by decide) (by decide) (by decide)) (o (by decide) (by decide) (by decide) (by decide) (by decide) (by decide) (by decide) (by decide) (by decide) (by decide)) (by rw [e48]; exact a4.up _ (Or.inr hw)) (fun j hj => ⟨by rw [e55]; exact pk_un hj, by rw [e56]; exact pk_un hj, by rw [e57]; exact pk_un hj⟩) ?_
    have k2 : zmf (zmarr iv i) i 2 = iv 52 i := congrFun (o (q := 52) (by decide) (by decide) (by decide) (by decide) (by decide) (by decide) (by decide) (by decide) (by decide) (by decide)) i
    have k3 : zmf (zmarr iv i) i 3 = iv 53 i := congrFun (o (q := 53) (by decide) (by decide) (by decide) (by decide) (by decide) (by decide) (by decide) (by decide) (by decide) (by decide)) i
    have k5 : zmf (zmarr iv i) i 5 = 4 := by show zmarr iv i 55 i = 4; rw [e55]; exact pk_us
    have k6 : zmf (zmarr iv i) i 6 = iv 53 i := by show zmarr iv i 56 i = _; rw [e56]; exact pk_us.trans ht
    unfold zCI
    rw [k2, k3, k5, k6]
    exact ⟨h1, h2, h3, fun q => by omega, fun q => by omega, by simp, fun z => absurd rfl z, fun z => absurd z (by decide)⟩
  · have ez : zmarr iv i = zu (zma4 iv i) 55 i 2 := if_neg ht
    have e55 : zmarr iv i 55 = upd (iv 55) i 2 := by
      rw [ez, zu_s, o4 (by decide) (by decide) (by decide) (by decide) (by decide) (by decide)]
    have e56 : zmarr iv i 56 = upd (iv 56) i (iv 56 i + zstep (iv 52 i) (iv 53 i)) := by
      rw [ez, zu_n _ _ _ (by decide), g56]
    have e57 : zmarr iv i 57 = iv 57 := by
      rw [ez, zu_n _ _ _ (by decide), o4 (by decide) (by decide) (by decide) (by decide) (by decide) (by decide)]
    have e48 : zmarr iv i 48 = iv 48 := by
      rw [ez, zu_n _ _ _ (by decide), o4 (by decide) (by decide) (by decide) (by decide) (by decide) (by decide)]
    have o := fun {q : Nat} (h1 : q ≠ 56) (h2 : q ≠ 61) (h3 : q ≠ 62) (h4 : q ≠ 59) (h5 : q ≠ 58) (h6 : q ≠ 60) (h7 : q ≠ 55) (h8 : q ≠ 48) (h9 : q ≠ 49) (h10 : q ≠ 57) => zmarr_o iv i h1 h2 h3 h4 h5 h6 h7 h8 h9 h10
    have ht2 : ¬ (iv 56 i + zstep (iv 52 i) (iv 53 i)).toInt = (iv 53 i).toInt := fun z => ht (Int32.toInt_inj.mp z)
    refine h.keep i (o (by decide) (by decide) (by decide) (by decide) (by decide) (by decide) (by decide) (by decide) (by decide) (by decide)) (o (by decide) (by decide) (by decide) (by decide) (by decide) (by decide) (by decide) (by decide) (by decide) (by decide)) (o (by decide) (by decide) (by decide) (by decide) (by decide) (by decide) (by decide) (by decide) (by decide) (by decide)) (o (by decide) (by decide) (by decide) (by decide) (by decide) (by decide) (by decide) (by decide) (by decide) (by decide)) (o (by decide) (by decide) (by decide) (by decide) (by decide) (by decide) (by decide) (by decide) (by decide) (by decide)) (by rw [e48]; exact a4) (fun j hj => ⟨by rw [e55]; exact pk_un hj, by rw [e56]; exact pk_un hj, by rw [e57]⟩) ?_
    have k2 : zmf (zmarr iv i) i 2 = iv 52 i := congrFun (o (q := 52) (by decide) (by decide) (by decide) (by decide) (by decide) (by decide) (by decide) (by decide) (by decide) (by decide)) i
    have k3 : zmf (zmarr iv i) i 3 = iv 53 i := congrFun (o (q := 53) (by decide) (by decide) (by decide) (by decide) (by decide) (by decide) (by decide) (by decide) (by decide) (by decide)) i
    have k5 : zmf (zmarr iv i) i 5 = 2 := by show zmarr iv i 55 i = 2; rw [e55]; exact pk_us
    have k6 : zmf (zmarr iv i) i 6 = iv 56 i + zstep (iv 52 i) (iv 53 i) := by show zmarr iv i 56 i = _; rw [e56]; exact pk_us
    have k7 : zmf (zmarr iv i) i 7 = iv 57 i := congrFun e57 i
    unfold zCI
    rw [k2, k3, k5, k6, k7]
    refine ⟨h1, h2, h3, fun q => ?_, fun q => ?_, by simp, fun _ => ht2, fun _ => h9⟩
    · have := h5 q; rw [hn, if_pos q]; omega
    · have := h6 q; rw [hn, if_neg q]; omega
theorem zMI.cc {n t tl : Nat} {fa : Nat → Nat} {iv : zI} {i : Nat} (h : zMI n t tl fa iv) (hi : i < n) : zMI n t tl fa (zmcc iv i t) := by
  have h1 := h.c1 hi
  unfold zmcc zmc2
  split
  · next q => exact h1.set hi q.1
  · split
    · next q => exact h1.arr hi q.1
    · exact h1
theorem zMI.obf {n t tl : Nat} {fa : Nat → Nat} {iv : zI} {i : Nat} {od : Int32} (h : zMI n t tl fa iv) (hi : i < n) (h0 : iv 55 i = 2) : zMI n t tl fa (zmobf iv i (zmbest iv i t) od) := by
  have hc := h.2.2.2.2.2.2.1 i hi
  have a4 := h.2.2.2.1
  have h4 := hc.2.2.2.2.2.2.1 (by show ¬ iv 55 i = 4; rw [h0]; decide)
  have h7 : 0 ≤ (iv 57 i).toInt ∧ (iv 57 i).toInt < t := hc.2.2.2.2.2.2.2 (Or.inr (Or.inl h0))
  have hinn : 0 ≤ (iv 56 i).toInt ∧ (iv 56 i).toInt < (iv 41 1).toInt := by
    obtain ⟨h1, h2, h3, h5, h6, -⟩ := hc
    have h1 : 0 ≤ (iv 52 i).toInt ∧ (iv 52 i).toInt < (iv 41 1).toInt := h1
    have h2 : 0 ≤ (iv 53 i).toInt ∧ (iv 53 i).toInt < (iv 41 1).toInt := h2
    have h5 : (iv 52 i).toInt < (iv 53 i).toInt → (iv 52 i).toInt ≤ (iv 56 i).toInt ∧ (iv 56 i).toInt ≤ (iv 53 i).toInt := h5
    have h6 : ¬ (iv 52 i).toInt < (iv 53 i).toInt → (iv 53 i).toInt ≤ (iv 56 i).toInt ∧ (iv 56 i).toInt ≤ (iv 52 i).toInt := h6
    by_cases q : (iv 52 i).toInt < (iv 53 i).toInt
    · have := h5 q; omega
    · have := h6 q; omega
  have o := fun {q : Nat} (h1 : q ≠ 47) (h2 : q ≠ 63) (h3 : q ≠ 59) (h4 : q ≠ 58) (h5 : q ≠ 57) (h6 : q ≠ 48) (h7 : q ≠ 49) (h8 : q ≠ 55) (h9 : q ≠ 60) => zmobf_o iv i (zmbest iv i t) od h1 h2 h3 h4 h5 h6 h7 h8 h9
  have e55 : ∃ x : Int32, (x = 1 ∨ x = 2 ∨ x = 3) ∧ zmobf iv i (zmbest iv i t) od 55 = upd (iv 55) i x := by
    unfold zmobf
    split
    · refine ⟨2, Or.inr (Or.inl rfl), ?_⟩
      rw [zu_n _ _ _ (by decide)]
      funext j
      by_cases hj : j = i
      · subst hj; rw [pk_us, h0]
      · rw [pk_un hj]
    · split
      · exact ⟨3, Or.inr (Or.inr rfl), by rw [zu_s, zmlv_o _ _ _ (by decide) (by decide) (by decide) (by decide), zmchg_o _ _ _ (by decide) (by decide) (by decide) (by decide)]⟩
      · split
        · exact ⟨1, Or.inl rfl, by rw [zu_n _ _ _ (by decide), zu_s, zmlv_o _ _ _ (by decide) (by decide) (by decide) (by decide)]⟩
        · exact ⟨1, Or.inl rfl, by rw [zu_s, zmlv_o _ _ _ (by decide) (by decide) (by decide) (by decide)]⟩
  have e57 : ∃ x : Int32, (0 ≤ x.toInt ∧ x.toInt < t) ∧ zmobf iv i (zmbest iv i t) od 57 = upd (iv 57) i x := by
    have keep : upd (iv 57) i (iv 57 i) = iv 57 := by
      funext j
      by_cases hj : j = i
      · subst hj; rw [pk_us]
      · rw [pk_un hj]
    unfold zmobf
    split
    · exact ⟨iv 57 i, h7, by rw [zu_n _ _ _ (by decide), keep]⟩
    · next hq =>
      split
      · next h2 =>
        refine ⟨zmbest iv i t, zmbest_in h.2.2.1 (fun z => hq (Or.inr ⟨h2, z⟩)), ?_⟩
        rw [zu_n _ _ _ (by decide), zmlv_o _ _ _ (by decide) (by decide) (by decide) (by decide)]
        show upd (upd (iv 57) i (-1)) i (zmbest iv i t) = _
        funext j
        by_cases hj : j = i
        · subst hj; rw [pk_us, pk_us]
        · rw [pk_un hj, pk_un hj, pk_un hj]
      · split
        · exact ⟨iv 57 i, h7, by rw [zu_n _ _ _ (by decide), zu_n _ _ _ (by decide), zmlv_o _ _ _ (by decide) (by decide) (by decide) (by decide), keep]⟩
        · exact ⟨iv 57 i, h7, by rw [zu_n _ _ _ (by decide), zmlv_o _ _ _ (by decide) (by decide) (by decide) (by decide), keep]⟩
  have e48 : zP9 (iv 41 1).toInt t (zmobf iv i (zmbest iv i t) od 48) := by
    unfold zmobf
    split
    · rw [zu_n _ _ _ (by decide)]; exact a4
    · split
      · rw [zu_n _ _ _ (by decide), zmlv_o _ _ _ (by decide) (by decide) (by decide) (by decide)]
        show zP9 _ t (upd (upd (iv 48) (iv 57 i).toNatClampNeg (iv 56 i)) (zmbest iv i t).toNatClampNeg (-1))
        exact (a4.up _ (Or.inr hinn)).up _ (Or.inl rfl)
      · split
        · rw [zu_n _ _ _ (by decide), zu_n _ _ _ (by decide), zmlv_o _ _ _ (by decide) (by decide) (by decide) (by decide)]; exact a4
        · rw [zu_n _ _ _ (by decide), zmlv_o _ _ _ (by decide) (by decide) (by decide) (by decide)]; exact a4
  obtain ⟨x5, hx5, e55⟩ := e55
  obtain ⟨x7, hx7, e57⟩ := e57
  have e56 := o (q := 56) (by decide) (by decide) (by decide) (by decide) (by decide) (by decide) (by decide) (by decide) (by decide)
  refine h.keep i (o (by decide) (by decide) (by decide) (by decide) (by decide) (by decide) (by decide) (by decide) (by decide)) (o (by decide) (by decide) (by decide) (by decide) (by decide) (by decide) (by decide) (by decide) (by decide)) (o (by decide) (by decide) (by decide) (by decide) (by decide) (by decide) (by decide) (by decide) (by decide)) (o (by decide) (by decide) (by decide) (by decide) (by decide) (by decide) (by decide) (by decide) (by decide)) (o (by decide) (by decide) (by decide) (by decide) (by decide) (by decide) (by decide) (by decide) (by decide)) e48 (fun j hj => ⟨by rw [e55]; exact pk_un hj, by rw [e56], by rw [e57]; exact pk_un hj⟩) ?_
  have k5 : zmf (zmobf iv i (zmbest iv i t) od) i 5 = x5 := by show zmobf iv i (zmbest iv i t) od 55 i = x5; rw [e55]; exact pk_us
  have k7 : zmf (zmobf iv i (zmbest iv i t) od) i 7 = x7 := by show zmobf iv i (zmbest iv i t) od 57 i = x7; rw [e57]; exact pk_us
  exact hc.mk (congrFun (o (q := 52) (by decide) (by decide) (by decide) (by decide) (by decide) (by decide) (by decide) (by decide) (by decide)) i) (congrFun (o (q := 53) (by decide) (by decide) (by decide) (by decide) (by decide) (by decide) (by decide) (by decide) (by decide)) i) (congrFun e56 i) (by rw [k5]; exact Or.inr hx5) h4 (fun _ => by rw [k7]; exact hx7)
theorem zMI.act {n t tl : Nat} {fa : Nat → Nat} {iv : zI} {i : Nat} (h : zMI n t tl fa iv) (hi : i < n) : zMI n t tl fa (zmact iv i t tl fa) := by
  unfold zmact
  split
  · next q => exact (h.cc hi).obf hi q
  · exact h.cc hi
