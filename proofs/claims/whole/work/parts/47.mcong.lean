/-! the reference's minute does not ask for its scratch rows -/
theorem zMI.sg {n t tl : Nat} {fa : Nat → Nat} {iv : zI} {i : Nat} (h : zMI n t tl fa iv) (hi : i < n) (h4 : ¬ iv 55 i = 4) : vp_in (zmsg iv i) 8 := by
  have hc := h.2.2.2.2.2.2.1 i hi
  have := zCI.sg (iv := fun _ => zmf iv i) (i := i) h.1.2 hc h4
  have e : zsg (fun _ => zmf iv i) i = zmsg iv i := rfl
  rw [e] at this
  have := h.1
  exact vp_in_iff.mpr (by omega)
theorem zMI.on {n t tl : Nat} {fa : Nat → Nat} {iv : zI} {i : Nat} (h : zMI n t tl fa iv) (hi : i < n) : zmon iv i (iv 56 i) := by
  have a1 := h.1
  obtain ⟨h1, h2, h3, h5, h6, -⟩ := h.2.2.2.2.2.2.1 i hi
  have h1 : 0 ≤ (iv 52 i).toInt ∧ (iv 52 i).toInt < (iv 41 1).toInt := h1
  have h2 : 0 ≤ (iv 53 i).toInt ∧ (iv 53 i).toInt < (iv 41 1).toInt := h2
  have h5 : (iv 52 i).toInt < (iv 53 i).toInt → (iv 52 i).toInt ≤ (iv 56 i).toInt ∧ (iv 56 i).toInt ≤ (iv 53 i).toInt := h5
  have h6 : ¬ (iv 52 i).toInt < (iv 53 i).toInt → (iv 53 i).toInt ≤ (iv 56 i).toInt ∧ (iv 56 i).toInt ≤ (iv 52 i).toInt := h6
  unfold zmon
  by_cases q : (iv 52 i).toInt < (iv 53 i).toInt
  · have := h5 q; exact ⟨by omega, by omega, fun _ => by omega, fun z => absurd q z⟩
  · have := h6 q; exact ⟨by omega, by omega, fun z => absurd z q, fun _ => by omega⟩
theorem zMI.on1 {n t tl : Nat} {fa : Nat → Nat} {iv : zI} {i : Nat} (h : zMI n t tl fa iv) (hi : i < n) (h0 : ¬ iv 55 i = 4) : zmon (zma1 iv i) i (iv 56 i + zstep (iv 52 i) (iv 53 i)) := by
  have a1 := h.1
  have hc := h.2.2.2.2.2.2.1 i hi
  have hn := hc.nx a1.2 h0
  have hn : (iv 56 i + zstep (iv 52 i) (iv 53 i)).toInt = (iv 56 i).toInt + (if (iv 52 i).toInt < (iv 53 i).toInt then 1 else -1) := hn
  obtain ⟨h1, h2, h3, h5, h6, h7, h8, h9⟩ := hc
  have h1 : 0 ≤ (iv 52 i).toInt ∧ (iv 52 i).toInt < (iv 41 1).toInt := h1
  have h2 : 0 ≤ (iv 53 i).toInt ∧ (iv 53 i).toInt < (iv 41 1).toInt := h2
  have h5 : (iv 52 i).toInt < (iv 53 i).toInt → (iv 52 i).toInt ≤ (iv 56 i).toInt ∧ (iv 56 i).toInt ≤ (iv 53 i).toInt := h5
  have h6 : ¬ (iv 52 i).toInt < (iv 53 i).toInt → (iv 53 i).toInt ≤ (iv 56 i).toInt ∧ (iv 56 i).toInt ≤ (iv 52 i).toInt := h6
  have h8 : ¬ (iv 56 i).toInt = (iv 53 i).toInt := h8 h0
  have e52 : zma1 iv i 52 = iv 52 := rfl
  have e53 : zma1 iv i 53 = iv 53 := rfl
  unfold zmon
  rw [e52, e53, hn]
  by_cases q : (iv 52 i).toInt < (iv 53 i).toInt
  · have := h5 q; rw [if_pos q]; exact ⟨by omega, by omega, fun _ => by omega, fun z => absurd q z⟩
  · have := h6 q; rw [if_neg q]; exact ⟨by omega, by omega, fun z => absurd z q, fun _ => by omega⟩
theorem zMI.t57 {n t tl : Nat} {fa : Nat → Nat} {iv : zI} {i : Nat} (h : zMI n t tl fa iv) (hi : i < n) (h0 : iv 55 i = 1 ∨ iv 55 i = 2 ∨ iv 55 i = 3) : vp_in (iv 57 i) 20 := by
  have h9 : 0 ≤ (iv 57 i).toInt ∧ (iv 57 i).toInt < t := (h.2.2.2.2.2.2.1 i hi).2.2.2.2.2.2.2 h0
  have := h.2.2.1
  exact vp_in_iff.mpr (by omega)
theorem zmsc.best {u v : zI} (h : zmsc u v) (i t : Nat) : zmbest u i t = zmbest v i t := by
  unfold zmbest
  rw [h 48 (by decide) (by decide), h 47 (by decide) (by decide), h 56 (by decide) (by decide)]
theorem zmsc.sg {u v : zI} (h : zmsc u v) (i : Nat) : zmsg u i = zmsg v i := by
  unfold zmsg
  rw [h 52 (by decide) (by decide), h 53 (by decide) (by decide), h 56 (by decide) (by decide)]
theorem zmsc.co {u v : zI} (h : zmsc u v) (i : Nat) : zmco u i = zmco v i := by
  unfold zmco
  rw [h.sg, h 42 (by decide) (by decide), h 43 (by decide) (by decide), h 44 (by decide) (by decide), h 51 (by decide) (by decide)]
theorem zmsc.sv {u v : zI} (h : zmsc u v) (i : Nat) : zmsv u i = zmsv v i := by
  unfold zmsv
  rw [h 47 (by decide) (by decide), h 57 (by decide) (by decide)]
theorem zmsc.we {u v : zI} (h : zmsc u v) (i : Nat) : zmwe u i = zmwe v i := by
  unfold zmwe
  rw [h.sv, h.co]
theorem zmsc.mu {u v : zI} (h : zmsc u v) (i : Nat) : zmmu u i = zmmu v i := by
  unfold zmmu
  rw [h.sg, h 42 (by decide) (by decide), h 44 (by decide) (by decide)]
theorem zmsc.lv {u v : zI} (h : zmsc u v) (i : Nat) (w : Int32) : zmsc (zmlv u i w) (zmlv v i w) := by
  have h1 : zmsc (zml1 u i) (zml1 v i) := by
    unfold zml1
    rw [h 57 (by decide) (by decide), h.sv, h.co]
    exact h.zu _ _ rfl
  have h2 : zmsc (zml2 u i) (zml2 v i) := by
    unfold zml2
    rw [h 63 (by decide) (by decide), h 51 (by decide) (by decide), h 60 (by decide) (by decide), h.mu, h.we]
    exact (((h1.zu _ _ rfl).zu _ _ rfl).zu _ _ rfl).zu _ _ rfl
  have h3 : zmsc (zml3 u i) (zml3 v i) := by
    unfold zml3
    rw [h 56 (by decide) (by decide), h 52 (by decide) (by decide), h 63 (by decide) (by decide)]
    split
    · exact h2
    · exact h2.zu _ _ rfl
  unfold zmlv
  rw [h.sg, h.mu, h.we, h 42 (by decide) (by decide), h 43 (by decide) (by decide), h 50 (by decide) (by decide), h 51 (by decide) (by decide)]
  exact (h3.zu _ _ rfl).zu _ _ rfl
theorem zmsc.harn {u v : zI} (h : zmsc u v) (i : Nat) (w : Int32) : zmsc (zmharn u i w) (zmharn v i w) := by
  unfold zmharn
  exact ((h.zu _ _ rfl).zu _ _ rfl).zu _ _ rfl
theorem zmsc.unh {u v : zI} (h : zmsc u v) (i : Nat) : zmsc (zmunh u i) (zmunh v i) := by
  unfold zmunh
  rw [h 57 (by decide) (by decide), h 56 (by decide) (by decide)]
  exact ((h.zu _ _ rfl).zu _ _ rfl).zu _ _ rfl
theorem zmsc.chg {u v : zI} (h : zmsc u v) (i : Nat) (w : Int32) : zmsc (zmchg u i w) (zmchg v i w) := by
  unfold zmchg
  rw [h 63 (by decide) (by decide)]
  exact ((h.unh i).harn i w).zu _ _ rfl
theorem zmsc.set {u v : zI} (h : zmsc u v) (i t : Nat) : zmsc (zmset u i t) (zmset v i t) := by
  unfold zmset
  rw [h.best, h 60 (by decide) (by decide), h 41 (by decide) (by decide)]
  split
  · exact h.zu _ _ rfl
  · exact (((h.harn i _).lv i _).zu _ _ rfl).zu _ _ rfl
theorem zmsc.told {u v : zI} (h : zmsc u v) (i b : Nat) : zmtold u i b = zmtold v i b :=
  zmtold_c (h 42 (by decide) (by decide)) (h 43 (by decide) (by decide)) (h 50 (by decide) (by decide)) (h 52 (by decide) (by decide)) (h 53 (by decide) (by decide)) (h 54 (by decide) (by decide))
theorem zmsc.cp {u v : zI} (h : zmsc u v) (i : Nat) : ∀ m, zmsc (zmcp u i m) (zmcp v i m)
  | 0 => h
  | m + 1 => by
    unfold zmcp
    exact (h.cp i m).zu _ _ (by rw [h 63 (by decide) (by decide)])
theorem zmsc.arr {u v : zI} (h : zmsc u v) (i : Nat) : zmsc (zmarr u i) (zmarr v i) := by
  have h2 : zmsc (zma2 u i) (zma2 v i) := by
    unfold zma2 zma1
    rw [h.told, h 41 (by decide) (by decide), h 56 (by decide) (by decide), h 52 (by decide) (by decide), h 53 (by decide) (by decide)]
    exact (h.zu _ _ rfl).zu _ _ rfl
  have h4 : zmsc (zma4 u i) (zma4 v i) := by
    unfold zma4
    exact (((h2.cp i 5).zu _ _ rfl).zu _ _ rfl).zu _ _ rfl
  unfold zmarr
  rw [h 56 (by decide) (by decide), h 52 (by decide) (by decide), h 53 (by decide) (by decide), h 57 (by decide) (by decide)]
  split
  · exact (((h4.zu _ _ rfl).zu _ _ rfl).zu _ _ rfl).zu _ _ rfl
  · exact h4.zu _ _ rfl
theorem zmsc.obf {u v : zI} (h : zmsc u v) (i : Nat) (be od : Int32) : zmsc (zmobf u i be od) (zmobf v i be od) := by
  unfold zmobf
  rw [h 60 (by decide) (by decide), h 41 (by decide) (by decide)]
  split
  · exact h.zu _ _ rfl
  · split
    · exact ((h.chg i _).lv i _).zu _ _ rfl
    · split
      · exact ((h.lv i _).zu _ _ rfl).zu _ _ rfl
      · exact (h.lv i _).zu _ _ rfl
theorem zmopd_seen {f g : Nat → Int32} (h : ∀ j, j < 10 → f j = g j) {st : Int32} (nu : Int32) (hs : st = 0 ∨ (20 ≤ st.toInt ∧ st.toInt < 30)) : zmopd f st nu = zmopd g st nu := by
  unfold zmopd
  split
  · rfl
  · next q =>
    rcases hs with hs | hs
    · exact absurd hs q
    · have e : (st - 20).toInt = st.toInt - 20 := by
        rw [Int32.toInt_sub, show Int32.toInt 20 = 20 by decide]
        exact Int.bmod_eq_of_le (by omega) (by omega)
      exact h _ (by have := zcl_int (x := st - 20) (by omega); omega)
theorem zmev_seen {f g S N : Nat → Int32} (h : ∀ j, j < 10 → f j = g j) : ∀ (k i : Nat) (s : List Int32) (m : Nat), zmwf S i k m → zmev f S N i k s = zmev g S N i k s
  | 0, _, _, _, _ => rfl
  | k + 1, i, s, m, hw => by
    have e : zmit f (S i) (N i) s = zmit g (S i) (N i) s := by
      unfold zmit
      split
      · next q =>
        rcases hw with hw | hw | hw
        · rw [zmopd_seen h _ hw.2.1]
        · rw [hw.1] at q; exact absurd q (by decide)
        · omega
      · rfl
    rw [zmev, zmev, e]
    rcases hw with hw | hw | hw
    · exact zmev_seen h k _ _ _ hw.2.2.2
    · exact zmev_seen h k _ _ _ hw.2.2
    · exact zmev_seen h k _ _ _ hw.2.2
theorem zmcho_seen {f g S N D : Nat → Int32} {fa : Nat → Nat} {df : Int32} (h : ∀ j, j < 10 → f j = g j) : ∀ (k l : Nat), (∀ p, l ≤ p → p < l + k → zmwf S (fa p) (fa (p + 1) - fa p) 0) → zmcho f S N D fa df l k = zmcho g S N D fa df l k
  | 0, _, _ => rfl
  | k + 1, l, hw => by
    rw [zmcho, zmcho, zmev_seen h _ _ _ 0 (hw l (by omega) (by omega)), zmcho_seen h k (l + 1) (fun p a b => hw p (by omega) (by omega))]
theorem zmsc.ord {u v : zI} (h : zmsc u v) (i t tl : Nat) (fa : Nat → Nat) (hG : zmGI tl fa v) : zmord u i t tl fa = zmord v i t tl fa := by
  have hf : zmfr u i t = zmfr v i t := by
    unfold zmfr
    rw [h.best, h 47 (by decide) (by decide)]
  have hd : zmdf u i t = zmdf v i t := by
    unfold zmdf
    rw [h.best, h.sv, h 47 (by decide) (by decide)]
  unfold zmord
  rw [h 64 (by decide) (by decide), h 65 (by decide) (by decide), h 67 (by decide) (by decide), hd]
  refine zmcho_seen (fun j hj => ?_) _ _ (fun p _ hp => hG.2.2.2.2 p (by omega))
  unfold zmlook
  rw [hf, h.sg, h.sv, h.told, h 41 (by decide) (by decide), h 56 (by decide) (by decide), h 51 (by decide) (by decide), h 44 (by decide) (by decide), h 42 (by decide) (by decide), h 50 (by decide) (by decide), h 60 (by decide) (by decide)]
  simp only [zu_s]
  match j, hj with
  | 0, _ => rfl
  | 1, _ => rfl
  | 2, _ => rfl
  | 3, _ => rfl
  | 4, _ => rfl
  | 5, _ => rfl
  | 6, _ => rfl
  | 7, _ => rfl
  | 8, _ => rfl
  | 9, _ => rfl
theorem zmsc.c1 {u v : zI} (h : zmsc u v) (i : Nat) : zmsc (zmc1 u i) (zmc1 v i) := by
  unfold zmc1
  rw [h 55 (by decide) (by decide), h 58 (by decide) (by decide), h 41 (by decide) (by decide)]
  split
  · exact (h.zu _ _ rfl).zu _ _ rfl
  · exact h
theorem zmsc.c2 {u v : zI} (h : zmsc u v) (i t : Nat) : zmsc (zmc2 u i t) (zmc2 v i t) := by
  unfold zmc2
  rw [h 55 (by decide) (by decide), h 54 (by decide) (by decide), h 41 (by decide) (by decide), h 59 (by decide) (by decide)]
  split
  · exact h.set i t
  · split
    · exact h.arr i
    · exact h
theorem zmsc.cc {u v : zI} (h : zmsc u v) (i t : Nat) : zmsc (zmcc u i t) (zmcc v i t) := (h.c1 i).c2 i t
theorem zmsc.dn {u v : zI} (h : zmsc u v) (i t : Nat) : zmdn u i t = zmdn v i t := by
  unfold zmdn
  have h1 := h.c1 i
  rw [h1 55 (by decide) (by decide), h1 54 (by decide) (by decide), h1 41 (by decide) (by decide), h1 59 (by decide) (by decide), h.cc i t 55 (by decide) (by decide)]
theorem zmsc.act {u v : zI} {n : Nat} (h : zmsc u v) (i t tl : Nat) (fa : Nat → Nat) (hv : zMI n t tl fa v) (hi : i < n) : zmsc (zmact u i t tl fa) (zmact v i t tl fa) := by
  have h1 := h.cc i t
  unfold zmact
  rw [h1 55 (by decide) (by decide), h1.best, h1.ord i t tl fa (hv.cc hi).2.2.2.2.2.2.2]
  split
  · exact h1.obf i _ _
  · exact h1
/-- the first k coaches of the reference act -/
def zmfold (v : zI) (t tl : Nat) (fa : Nat → Nat) : Nat → zI
  | 0 => v
  | k + 1 => zmact (zmfold v t tl fa k) k t tl fa
/-- how many of them become done -/
def zmcnt (v : zI) (t tl : Nat) (fa : Nat → Nat) : Nat → Int32
  | 0 => 0
  | k + 1 => zmcnt v t tl fa k + zmdn (zmfold v t tl fa k) k t
theorem zMI.fold {n t tl : Nat} {fa : Nat → Nat} {v : zI} (h : zMI n t tl fa v) : ∀ k, k ≤ n → zMI n t tl fa (zmfold v t tl fa k)
  | 0, _ => h
  | k + 1, hk => (h.fold k (by omega)).act (by omega)
theorem zmsc.fold {u v : zI} {n t tl : Nat} {fa : Nat → Nat} (h : zmsc u v) (hv : zMI n t tl fa v) : ∀ k, k ≤ n → zmsc (zmfold u t tl fa k) (zmfold v t tl fa k)
  | 0, _ => h
  | k + 1, hk => (h.fold hv k (by omega)).act k t tl fa (hv.fold k (by omega)) (by omega)
theorem zmsc.cnt {u v : zI} {n t tl : Nat} {fa : Nat → Nat} (h : zmsc u v) (hv : zMI n t tl fa v) : ∀ k, k ≤ n → zmcnt u t tl fa k = zmcnt v t tl fa k
  | 0, _ => rfl
  | k + 1, hk => by
    rw [zmcnt, zmcnt, h.cnt hv k (by omega), (h.fold hv k (by omega)).dn]
theorem zmsc.rs {u v : zI} (h : zmsc u v) : ∀ m, zmsc (zmrest u m) (zmrest v m)
  | 0 => h
  | m + 1 => by
    have ih := h.rs m
    unfold zmrest zmrs
    rw [ih 48 (by decide) (by decide), ih 47 (by decide) (by decide), ih 46 (by decide) (by decide)]
    split
    · split
      · exact (ih.zu _ _ rfl).zu _ _ rfl
      · exact ih.zu _ _ rfl
    · exact ih
theorem zMI.rest {n t tl : Nat} {fa : Nat → Nat} {iv : zI} (h : zMI n t tl fa iv) : zMI n t tl fa (zmrest iv t) := by
  have o : ∀ q, q ≠ 46 → q ≠ 47 → zmrest iv t q = iv q := fun q h1 h2 => zmrest_o iv h1 h2 t
  obtain ⟨a1, a2, a3, a4, a5, a6, a7, a8⟩ := h
  have e41 := o 41 (by decide) (by decide)
  refine ⟨by rw [e41]; exact a1, by rw [e41]; exact a2, a3, by rw [e41, o 48 (by decide) (by decide)]; exact a4, by rw [e41]; exact a5, a6, fun j hj => ?_, a8.c (by rw [e41]) (o 66 (by decide) (by decide)) (o 64 (by decide) (by decide))⟩
  rw [e41, zmf_c (u := iv) (by rw [o 52 (by decide) (by decide)]) (by rw [o 53 (by decide) (by decide)]) (by rw [o 55 (by decide) (by decide)]) (by rw [o 56 (by decide) (by decide)]) (by rw [o 57 (by decide) (by decide)])]
  exact a7 j hj
/-- a minute of the reference -/
def zmminu (iv : zI) (n t tl : Nat) (fa : Nat → Nat) : zI := zu (zmfold (zmrest iv t) t tl fa n) 41 0 (zmfold (zmrest iv t) t tl fa n 41 0 + 1)
theorem zMI.minute {n t tl : Nat} {fa : Nat → Nat} {iv : zI} (h : zMI n t tl fa iv) : zMI n t tl fa (zmminu iv n t tl fa) := by
  obtain ⟨a1, a2, a3, a4, a5, a6, a7, a8⟩ := h.rest.fold n (Nat.le_refl _)
  unfold zmminu
  have e41 : ∀ j, j ≠ 0 → zu (zmfold (zmrest iv t) t tl fa n) 41 0 (zmfold (zmrest iv t) t tl fa n 41 0 + 1) 41 j = zmfold (zmrest iv t) t tl fa n 41 j := fun j hj => by rw [zu_s]; exact pk_un hj
  have o : ∀ q, q ≠ 41 → zu (zmfold (zmrest iv t) t tl fa n) 41 0 (zmfold (zmrest iv t) t tl fa n 41 0 + 1) q = zmfold (zmrest iv t) t tl fa n q := fun q hq => zu_n _ _ _ hq
  refine ⟨by rw [e41 1 (by decide)]; exact a1, by rw [e41 7 (by decide)]; exact a2, a3, by rw [e41 1 (by decide), o 48 (by decide)]; exact a4, by rw [e41 11 (by decide)]; exact a5, a6, fun j hj => ?_, a8.c (e41 30 (by decide)) (o 66 (by decide)) (o 64 (by decide))⟩
  rw [e41 1 (by decide), zmf_c (u := zmfold (zmrest iv t) t tl fa n) (by rw [o 52 (by decide)]) (by rw [o 53 (by decide)]) (by rw [o 55 (by decide)]) (by rw [o 56 (by decide)]) (by rw [o 57 (by decide)])]
  exact a7 j hj
theorem zmsc.minu {u v : zI} {n t tl : Nat} {fa : Nat → Nat} (h : zmsc u v) (hv : zMI n t tl fa v) : zmsc (zmminu u n t tl fa) (zmminu v n t tl fa) := by
  unfold zmminu
  have h1 := (h.rs t).fold hv.rest n (Nat.le_refl _)
  exact h1.zu _ _ (by rw [h1 41 (by decide) (by decide)])
def zmmins (iv : zI) (n t tl : Nat) (fa : Nat → Nat) : Nat → zI
  | 0 => iv
  | k + 1 => zmminu (zmmins iv n t tl fa k) n t tl fa
def zmdns (iv : zI) (n t tl : Nat) (fa : Nat → Nat) : Nat → Int32
  | 0 => 0
  | k + 1 => zmdns iv n t tl fa k + zmcnt (zmrest (zmmins iv n t tl fa k) t) t tl fa n
theorem zMI.minutes {n t tl : Nat} {fa : Nat → Nat} {iv : zI} (h : zMI n t tl fa iv) : ∀ k, zMI n t tl fa (zmmins iv n t tl fa k)
  | 0 => h
  | k + 1 => (h.minutes k).minute
