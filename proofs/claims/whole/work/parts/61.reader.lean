/-! the class's reader: how it stands, and what each small step makes of that -/
def zfrm (iv0 iv : zI) : Prop := (∀ q, q ≠ 14 → q ≠ 18 → q ≠ 21 → iv q = iv0 q) ∧ (∀ j, j ≠ 3 → iv 18 j = iv0 18 j)
/-- it reads on: token i, v operands, P written on this line, b items before -/
def zPo (iv0 : zI) (b : Nat) (κ : Nat → Int32) (tk : Nat) (iv : zI) (i v : Nat) (P : List Int32) : Prop :=
  zfrm iv0 iv ∧ (∀ j, j < b → iv 21 j = iv0 21 j) ∧ i < tk ∧ iv 14 2 = nI i ∧ iv 14 3 = κ i ∧ iv 14 4 = nI v ∧ iv 14 5 = 0 ∧ iv 14 6 = -1 ∧ iv 18 3 = nI (b + P.length) ∧ ∀ j, j < P.length → iv 21 (b + j) = P.reverse.getD j 0
/-- it has stopped -/
def zPt (iv0 : zI) (iv : zI) (code pl : Int32) : Prop := zfrm iv0 iv ∧ iv 14 3 = 0 ∧ iv 14 5 = code ∧ iv 14 6 = pl ∧ ¬ code = 0 ∧ 0 ≤ (iv 18 3).toInt
theorem zfrm.tk {iv0 iv : zI} {B : Nat → Int32} {s tk : Nat} (h : zfrm iv0 iv) (hT : zTk B s tk iv0) : zTk B s tk iv := by
  obtain ⟨h1, h2, h3, h4, h5⟩ := hT
  have e15 := h.1 15 (by decide) (by decide) (by decide)
  have e16 := h.1 16 (by decide) (by decide) (by decide)
  have e17 := h.1 17 (by decide) (by decide) (by decide)
  refine ⟨h1, by rw [e15]; exact h2, by rw [e15]; exact h3, fun i hi => ?_, h5⟩
  rw [e16, e17]
  exact h4 i hi
theorem zfrm.p14 {iv0 iv : zI} {j : Nat} {x : Int32} (h : zfrm iv0 iv) : zfrm iv0 (zu iv 14 j x) := ⟨fun q a b c => by rw [zu_n _ _ _ a]; exact h.1 q a b c, fun j hj => by rw [zu_n _ _ _ (by decide)]; exact h.2 j hj⟩
theorem zfrm.p21 {iv0 iv : zI} {j : Nat} {x : Int32} (h : zfrm iv0 iv) : zfrm iv0 (zu iv 21 j x) := ⟨fun q a b c => by rw [zu_n _ _ _ c]; exact h.1 q a b c, fun j hj => by rw [zu_n _ _ _ (by decide)]; exact h.2 j hj⟩
theorem zfrm.p18 {iv0 iv : zI} {x : Int32} (h : zfrm iv0 iv) : zfrm iv0 (zu iv 18 3 x) := ⟨fun q a b c => by rw [zu_n _ _ _ b]; exact h.1 q a b c, fun j hj => by rw [zu_s, pk_un hj]; exact h.2 j hj⟩
section ZP
variable {iv0 iv : zI} {b : Nat} {κ : Nat → Int32} {tk i v : Nat} {P : List Int32}
theorem zPo.adv (h : zPo iv0 b κ tk iv i v P) (hi : i + 1 < tk) : zPo iv0 b κ tk (zu (zu iv 14 2 (nI (i + 1))) 14 3 (κ (i + 1))) (i + 1) v P := by
  obtain ⟨h1, h2, h3, h4, h5, h6, h7, h8, h9, h10⟩ := h
  have e : ∀ j, j ≠ 2 → j ≠ 3 → zu (zu iv 14 2 (nI (i + 1))) 14 3 (κ (i + 1)) 14 j = iv 14 j := fun j a b => by rw [zu_s, pk_un b, zu_s, pk_un a]
  refine ⟨h1.p14.p14, h2, hi, ?_, zu_ss _ _ _ _, ?_, ?_, ?_, h9, h10⟩
  · rw [zu_s, pk_un (by decide), zu_ss]
  · rw [e 4 (by decide) (by decide)]; exact h6
  · rw [e 5 (by decide) (by decide)]; exact h7
  · rw [e 6 (by decide) (by decide)]; exact h8
theorem zPo.ref (h : zPo iv0 b κ tk iv i v P) (hb : b + P.length ≤ 400) (c pl : Int32) (hc : ¬ c = 0) : zPt iv0 (zu (zu (zu iv 14 5 c) 14 6 pl) 14 3 0) c pl := by
  obtain ⟨h1, h2, h3, h4, h5, h6, h7, h8, h9, h10⟩ := h
  refine ⟨h1.p14.p14.p14, zu_ss _ _ _ _, ?_, ?_, hc, ?_⟩
  · rw [zu_s, pk_un (by decide), zu_s, pk_un (by decide), zu_ss]
  · rw [zu_s, pk_un (by decide), zu_ss]
  · show 0 ≤ (iv 18 3).toInt
    rw [h9, nI_toInt (by omega)]
    omega
theorem zPt.ref {c pl : Int32} (h : zPt iv0 iv c pl) : zPt iv0 (zu iv 14 3 0) c pl := by
  obtain ⟨h1, h2, h3, h4, h5, h6⟩ := h
  refine ⟨h1.p14, zu_ss _ _ _ _, ?_, ?_, h5, h6⟩
  · rw [zu_s, pk_un (by decide)]; exact h3
  · rw [zu_s, pk_un (by decide)]; exact h4
theorem zPo.opr (h : zPo iv0 b κ tk iv i v P) : zPo iv0 b κ tk (zu iv 14 4 (nI (v + 1))) i (v + 1) P := by
  obtain ⟨h1, h2, h3, h4, h5, h6, h7, h8, h9, h10⟩ := h
  have e : ∀ j, j ≠ 4 → zu iv 14 4 (nI (v + 1)) 14 j = iv 14 j := fun j a => by rw [zu_s, pk_un a]
  exact ⟨h1.p14, h2, h3, by rw [e 2 (by decide)]; exact h4, by rw [e 3 (by decide)]; exact h5, zu_ss _ _ _ _, by rw [e 5 (by decide)]; exact h7, by rw [e 6 (by decide)]; exact h8, h9, h10⟩
theorem zPo.add (h : zPo iv0 b κ tk iv i v P) (hb : b + P.length < 400) (x : Int32) : zPo iv0 b κ tk (if (iv 18 3).toInt < 400 then zu (zu iv 21 (iv 18 3).toNatClampNeg x) 18 3 (iv 18 3 + 1) else iv) i v (x :: P) := by
  obtain ⟨h1, h2, h3, h4, h5, h6, h7, h8, h9, h10⟩ := h
  rw [if_pos (by rw [h9, nI_toInt (by omega)]; omega), h9, nI_clamp (by omega), nI_1]
  have e21 : zu (zu iv 21 (b + P.length) x) 18 3 (nI (b + P.length + 1)) 21 = upd (iv 21) (b + P.length) x := by rw [zu_n _ _ _ (by decide), zu_s]
  refine ⟨h1.p21.p18, fun j hj => ?_, h3, h4, h5, h6, h7, h8, ?_, fun j hj => ?_⟩
  · rw [e21, pk_un (by omega)]; exact h2 j hj
  · rw [zu_ss, List.length_cons]; rfl
  · rw [e21]
    rw [List.length_cons] at hj
    rw [List.reverse_cons, List.getD_eq_getElem?_getD, List.getElem?_append, List.length_reverse]
    by_cases hj2 : j = P.length
    · subst hj2
      rw [pk_us, if_neg (by omega), Nat.sub_self]
      rfl
    · rw [pk_un (by omega), if_pos (by omega), ← List.getD_eq_getElem?_getD]
      exact h10 j (by omega)
theorem zPt.add {c pl : Int32} (h : zPt iv0 iv c pl) (x : Int32) : zPt iv0 (if (iv 18 3).toInt < 400 then zu (zu iv 21 (iv 18 3).toNatClampNeg x) 18 3 (iv 18 3 + 1) else iv) c pl := by
  obtain ⟨h1, h2, h3, h4, h5, h6⟩ := h
  by_cases hc : (iv 18 3).toInt < 400
  · rw [if_pos hc]
    refine ⟨h1.p21.p18, h2, h3, h4, h5, ?_⟩
    rw [zu_ss, Int32.toInt_add, show Int32.toInt 1 = 1 by decide, Int.bmod_eq_of_le (by omega) (by omega)]
    omega
  · rw [if_neg hc]
    exact ⟨h1, h2, h3, h4, h5, h6⟩
end ZP
/-- what a method of the reader leaves, of one that read on at token i -/
def zQrd (iv0 : zI) (b : Nat) (κ : Nat → Int32) (tk : Nat) (pl : Nat → Nat) (lw : zG) (i : Nat) (Ok : Nat → Nat → List Int32 → Prop) (Fl : zFa → Prop) : Option Value → zI → zG → Prop := fun v iv2 lw2 => v = none ∧ lw2 = lw ∧ ((∃ i2 v2 P2, zPo iv0 b κ tk iv2 i2 v2 P2 ∧ i < i2 ∧ Ok i2 v2 P2) ∨ ∃ f : zFa, zPt iv0 iv2 f.1 (nI (pl f.2)) ∧ Fl f)
/-- what stays fixed while orders are read -/
def zEv (B : Nat → Int32) (s tk : Nat) (iv0 : zI) : Prop := zTk B s tk iv0 ∧ s ≤ 800
theorem zEv.nx {B : Nat → Int32} {s tk : Nat} {iv0 : zI} (h : zEv B s tk iv0) {i : Nat} (hi : i < tk) (h1 : ¬ zkn (zT B s) s i = 1) (h2 : ¬ zkn (zT B s) s i = 2) : i + 1 < tk := by
  by_cases c : i = tk - 1
  · have := h.1.2.2.2.2.2
    rw [← c] at this
    rcases this with z | z
    · exact absurd z h1
    · exact absurd z h2
  · omega
theorem zEv.nn {B : Nat → Int32} {s tk : Nat} {iv0 : zI} (h : zEv B s tk iv0) {i : Nat} (hi : i < tk) : zNN (zkn (zT B s) s) i ≤ 200 := zNN_200 h.2 (fun j hj => h.1.2.2.2.2.1 j (by omega))
theorem zEv.bd {B : Nat → Int32} {s tk : Nat} {iv0 : zI} (h : zEv B s tk iv0) {b v0 n0 now i v : Nat} {W : List Nat} {P : List Int32} (hi : i < tk) (hI : zInv (zkn (zT B s) s) b v0 n0 (now, i, W, P, v)) : b + P.length + zbW W + znW W ≤ 400 := by
  have h1 := hI.len
  have h2 := h.nn hi
  have h3 : v ≤ 100 := hI.1.2
  omega
/-- written out, it is within bounds yet -/
theorem zEv.bs {B : Nat → Int32} {s tk : Nat} {iv0 : zI} (h : zEv B s tk iv0) {b v0 n0 now i v : Nat} {t W : List Nat} {P : List Int32} (hi : i < tk) (hI : zInv (zkn (zT B s) s) b v0 n0 (now, i, t ++ W, P, v)) (ht : ∀ w, w ∈ t → w ≠ 48) : b + (zflu t P).length + zbW W + znW W ≤ 400 := by
  have h1 := h.bd hi hI
  rw [zbW_app, znW_app] at h1
  rw [zflu_len]
  have := zbn_len t ht
  omega
