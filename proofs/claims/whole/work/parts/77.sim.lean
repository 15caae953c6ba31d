/-! what a step of the reference's coach leaves as it was -/
def zFw (i : Nat) (w w2 : zI) : Prop := (∀ q, q ≠ 47 → q ≠ 48 → q ≠ 49 → (q < 55 ∨ 63 < q) → w2 q = w q) ∧ (∀ q j, 55 ≤ q → q ≤ 61 → j ≠ i → w2 q j = w q j) ∧ ∀ q j, 62 ≤ q → q ≤ 63 → (j < 5 * i ∨ 5 * i + 4 < j) → w2 q j = w q j
section ZFW
variable {i : Nat} {w w2 w3 : zI}
theorem zFw.rf (i : Nat) (w : zI) : zFw i w w := ⟨fun _ _ _ _ _ => rfl, fun _ _ _ _ _ => rfl, fun _ _ _ _ _ => rfl⟩
theorem zFw.tr (h : zFw i w w2) (h2 : zFw i w2 w3) : zFw i w w3 := ⟨fun q a b c d => (h2.1 q a b c d).trans (h.1 q a b c d), fun q j a b c => (h2.2.1 q j a b c).trans (h.2.1 q j a b c), fun q j a b c => (h2.2.2 q j a b c).trans (h.2.2 q j a b c)⟩
theorem zFw.u1 (h : zFw i w w2) (k : Nat) (hk : 55 ≤ k ∧ k ≤ 61) (x : Int32) : zFw i w (zu w2 k i x) := by
  refine h.tr ⟨fun q a b c d => zu_n _ _ _ (by omega), fun q j a b c => ?_, fun q j a b c => ?_⟩
  · by_cases e : q = k
    · subst e; rw [zu_s, pk_un c]
    · rw [zu_n _ _ _ e]
  · rw [zu_n _ _ _ (by omega)]
theorem zFw.u2 (h : zFw i w w2) (k : Nat) (hk : 47 ≤ k ∧ k ≤ 49) (j : Nat) (x : Int32) : zFw i w (zu w2 k j x) :=
  h.tr ⟨fun q a b c d => zu_n _ _ _ (by omega), fun q j a b c => by rw [zu_n _ _ _ (by omega)], fun q j a b c => by rw [zu_n _ _ _ (by omega)]⟩
theorem zFw.u3 (h : zFw i w w2) (k : Nat) (hk : 62 ≤ k ∧ k ≤ 63) (j : Nat) (hj : 5 * i ≤ j ∧ j ≤ 5 * i + 4) (x : Int32) : zFw i w (zu w2 k j x) := by
  refine h.tr ⟨fun q a b c d => zu_n _ _ _ (by omega), fun q j a b c => by rw [zu_n _ _ _ (by omega)], fun q j2 a b c => ?_⟩
  by_cases e : q = k
  · subst e; rw [zu_s, pk_un (by omega)]
  · rw [zu_n _ _ _ e]
theorem zFw.lv (h : zFw i w w2) (a : Int32) : zFw i w (zmlv w2 i a) := by
  have h1 : zFw i w (zml2 w2 i) := by
    unfold zml2 zml1
    exact (((((h.u2 47 (by decide) _ _).u3 63 (by decide) _ (by omega) _).u3 63 (by decide) _ (by omega) _).u3 63 (by decide) _ (by omega) _).u3 63 (by decide) _ (by omega) _)
  unfold zmlv
  refine zFw.u1 (zFw.u1 ?_ 59 (by decide) _) 58 (by decide) _
  unfold zml3
  split
  · exact h1
  · exact h1.u3 63 (by decide) _ (by omega) _
theorem zFw.harn (h : zFw i w w2) (te : Int32) : zFw i w (zmharn w2 i te) := ((h.u1 57 (by decide) _).u2 48 (by decide) _ _).u2 49 (by decide) _ _
theorem zFw.unh (h : zFw i w w2) : zFw i w (zmunh w2 i) := ((h.u2 48 (by decide) _ _).u2 49 (by decide) _ _).u1 57 (by decide) _
theorem zFw.set (h : zFw i w w2) (t : Nat) : zFw i w (zmset w2 i t) := by
  unfold zmset
  split
  · exact h.u1 60 (by decide) _
  · exact (((h.harn _).lv _).u1 55 (by decide) _).u1 60 (by decide) _
theorem zFw.cp (h : zFw i w w2) : ∀ m, m ≤ 5 → zFw i w (zmcp w2 i m)
  | 0, _ => h
  | m + 1, hm => (zFw.cp h m (by omega)).u3 62 (by decide) _ (by omega) _
theorem zFw.arr (h : zFw i w w2) : zFw i w (zmarr w2 i) := by
  have h4 : zFw i w (zma4 w2 i) := by
    unfold zma4
    have : zFw i w (zma2 w2 i) := by
      unfold zma2 zma1
      exact (h.u1 56 (by decide) _).u1 61 (by decide) _
    exact (((this.cp 5 (by decide)).u1 59 (by decide) _).u1 58 (by decide) _).u1 60 (by decide) _
  unfold zmarr
  split
  · exact (((h4.u1 55 (by decide) _).u2 48 (by decide) _ _).u2 49 (by decide) _ _).u1 57 (by decide) _
  · exact h4.u1 55 (by decide) _
theorem zFw.obf (h : zFw i w w2) (be od : Int32) : zFw i w (zmobf w2 i be od) := by
  unfold zmobf
  split
  · exact h.u1 60 (by decide) _
  · split
    · unfold zmchg
      exact (((h.unh.harn _).u3 63 (by decide) _ (by omega) _).lv _).u1 55 (by decide) _
    · split
      · exact ((h.lv _).u1 55 (by decide) _).u1 60 (by decide) _
      · exact (h.lv _).u1 55 (by decide) _
theorem zFw.cc (h : zFw i w w2) (t : Nat) : zFw i w (zmcc w2 i t) := by
  have h1 : zFw i w (zmc1 w2 i) := by
    unfold zmc1
    split
    · exact (h.u1 55 (by decide) _).u1 60 (by decide) _
    · exact h
  unfold zmcc zmc2
  split
  · exact h1.set t
  · split
    · exact h1.arr
    · exact h1
theorem zFw.act (h : zFw i w w2) (t tl : Nat) (fa : Nat → Nat) : zFw i w (zmact w2 i t tl fa) := by
  unfold zmact
  split
  · exact (h.cc t).obf _ _
  · exact h.cc t
end ZFW
theorem zRh.o {u w u2 w2 : zI} (h : zRh u w) (e1 : u2 1 = u 1) (e2 : u2 2 = u 2) (e3 : u2 3 = u 3) (e4 : u2 4 = u 4) (e5 : u2 5 = u 5) (f1 : w2 41 1 = w 41 1) (f2 : w2 42 = w 42) (f3 : w2 43 = w 43) (f4 : w2 44 = w 44) (f5 : w2 45 = w 45) : zRh u2 w2 := by
  unfold zRh
  rw [e1, e2, e3, e4, e5, f1, f2, f3, f4, f5]
  exact h
/-- it has left -/
theorem zRl.rj {u w w2 : zI} {i : Nat} {ch a : Int32} (h : zRl u w i ch) (ha : a = if ch = 0 then u 0 10 else u 0 10 + 2) (hc : 0 ≤ (u 0 10).toInt ∧ (u 0 10).toInt ≤ 1000000) (h54 : w 54 i = u (91 + 3 * i) 4) (h61 : w 61 i = u (91 + 3 * i) 12) (h62 : ∀ p, p < 5 → w 62 (5 * i + p) = u (91 + 3 * i + 1) p) (hb0 : 0 ≤ (u (91 + 3 * i) 0).toInt ∧ (u (91 + 3 * i) 0).toInt ≤ 2) (hb4 : 0 ≤ (u (91 + 3 * i) 4).toInt ∧ (u (91 + 3 * i) 4).toInt ≤ 10000000) (h2 : ∀ q, q ≠ 55 → q ≠ 60 → w2 q = zmlv w i a q) (h55 : w2 55 i = if ch = 0 then 1 else 3) (h60 : w2 60 i = if ch = 0 then 0 else w 60 i) : zRj (zdep u i ch) w2 i ((u 0 10).toInt + 1) := by
  obtain ⟨-, ⟨g1, g2, g3, g4⟩, g5⟩ := h.go ha hc
  obtain ⟨-, -, ⟨c50, c51, c52, c53⟩, ⟨c56, c57, c60⟩, ⟨hl, -⟩, -⟩ := h
  have e : ∀ q, q ≠ 55 → q ≠ 60 → q ≠ 47 → q ≠ 63 → q ≠ 59 → q ≠ 58 → w2 q = w q := fun q a0 b c d e f => (h2 q a0 b).trans (zmlv_o w i a c d e f)
  have e5 := zdep_5 u i ch
  unfold zRj
  rw [e 50 (by decide) (by decide) (by decide) (by decide) (by decide) (by decide), e 51 (by decide) (by decide) (by decide) (by decide) (by decide) (by decide), e 52 (by decide) (by decide) (by decide) (by decide) (by decide) (by decide), e 53 (by decide) (by decide) (by decide) (by decide) (by decide) (by decide), e 54 (by decide) (by decide) (by decide) (by decide) (by decide) (by decide), e 56 (by decide) (by decide) (by decide) (by decide) (by decide) (by decide), e 57 (by decide) (by decide) (by decide) (by decide) (by decide) (by decide), e 61 (by decide) (by decide) (by decide) (by decide) (by decide) (by decide), e 62 (by decide) (by decide) (by decide) (by decide) (by decide) (by decide), h2 59 (by decide) (by decide), h2 58 (by decide) (by decide), h2 63 (by decide) (by decide), h55, h60, e5, zdep_c u i ch (j := 0) (by decide) (by decide) (by decide), zdep_c u i ch (j := 1) (by decide) (by decide) (by decide), zdep_c u i ch (j := 2) (by decide) (by decide) (by decide), zdep_c u i ch (j := 3) (by decide) (by decide) (by decide), zdep_c u i ch (j := 4) (by decide) (by decide) (by decide), zdep_c u i ch (j := 6) (by decide) (by decide) (by decide), zdep_c u i ch (j := 7) (by decide) (by decide) (by decide), zdep_c u i ch (j := 10) (by decide) (by decide) (by decide), zdep_c u i ch (j := 11) (by decide) (by decide) (by decide), zdep_c u i ch (j := 12) (by decide) (by decide) (by decide)]
  have hat : (u 0 10).toInt ≤ a.toInt ∧ (¬ ch = 0 → (u 0 10).toInt + 1 ≤ a.toInt) := by
    rw [ha]
    split
    · exact ⟨Int.le_refl _, fun z => by contradiction⟩
    · rw [zt_add (by rw [show Int32.toInt 2 = 2 by decide]; omega) (by rw [show Int32.toInt 2 = 2 by decide]; omega), show Int32.toInt 2 = 2 by decide]
      exact ⟨by omega, fun _ => by omega⟩
  refine ⟨⟨c50, c51, c52, c53, h54⟩, ⟨rfl, c56, c57, h61⟩, ⟨hb0, hl, hb4⟩, ⟨fun _ => ⟨g1, by omega⟩, fun z => ⟨g1, g3.trans g2, ?_, ?_⟩⟩, ?_, fun p hp => ⟨?_, ?_⟩, fun z => ?_⟩
  · have hch : ¬ ch = 0 := fun q => by rw [if_pos q] at z; exact absurd z (by decide)
    rw [← g2]; exact hat.2 hch
  · rw [← g2]; exact g4
  · by_cases c : ch = 0
    · rw [if_pos c, if_pos c, if_pos rfl]
    · rw [if_neg c, if_neg c, if_neg (by decide)]; exact c60
  · rw [zdep_p]; exact h62 p hp
  · have : (if ch = 0 then (1 : Int32) else 3) = 1 ∨ (if ch = 0 then (1 : Int32) else 3) = 3 := by
      split
      · exact Or.inl rfl
      · exact Or.inr rfl
    rw [if_pos this]; exact g5 p hp
  · exfalso
    split at z <;> exact absurd z (by decide)
