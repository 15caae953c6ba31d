/-! the reference's joins: a search for a longer row of pairs -/
def zmE (iv : zI) (rest : Int32) : Nat → Nat → Prop := fun a b => zbeh iv a b rest
def zAB (t : Nat) (E : Nat → Nat → Prop) (k : Nat) (A B : Nat → Int32) : Prop := ∀ b, b < t → B b = -1 ∨ ∃ a, a < k ∧ B b = nI a ∧ E a b ∧ A a = nI b
def zog (B : Nat → Int32) (b : Nat) : Option Nat := if B b = -1 then none else some (B b).toNatClampNeg
theorem nI_n1 {a : Nat} (h : a < 2 ^ 31) : ¬ nI a = -1 := fun z => by
  have := congrArg Int32.toInt z
  rw [nI_toInt h, show (-1 : Int32).toInt = -1 by decide] at this
  omega
theorem zAB.mt {t : Nat} {E : Nat → Nat → Prop} {k : Nat} {A B : Nat → Int32} (ht : t ≤ 24) (hk : k ≤ 24) (h : zAB t E k A B) : zmt t E k (zog B) := by
  intro b hb a ha
  unfold zog at ha
  rcases h b hb with e | ⟨a1, h1, h2, h3, h4⟩
  · rw [if_pos e] at ha; exact absurd ha (by simp)
  · rw [if_neg (by rw [h2]; exact nI_n1 (by omega)), h2, nI_clamp (by omega)] at ha
    have := Option.some.inj ha
    subst this
    refine ⟨h1, h3, fun b2 hb2 e2 => ?_⟩
    unfold zog at e2
    rcases h b2 hb2 with e | ⟨a2, k1, k2, k3, k4⟩
    · rw [if_pos e] at e2; exact absurd e2 (by simp)
    · rw [if_neg (by rw [k2]; exact nI_n1 (by omega)), k2, nI_clamp (by omega)] at e2
      have := Option.some.inj e2
      subst this
      exact nI_inj4 (by omega) (by omega) (k4.symm.trans h4)
theorem zog_s {B : Nat → Int32} {b : Nat} : (zog B b).isSome = !decide (B b = -1) := by
  unfold zog
  by_cases h : B b = -1
  · rw [if_pos h]; simp [h]
  · rw [if_neg h]; simp [h]
/-- the search so far: r lists the lefts that were come to -/
def zBF (t k many : Nat) (E : Nat → Nat → Prop) (B C R : Nat → Int32) (r : Nat → Nat) : Prop :=
  1 ≤ many ∧ (∀ i, i < many → R i = nI (r i) ∧ r i ≤ k) ∧ r 0 = k ∧ (∀ i i2, i < i2 → i2 < many → r i ≠ r i2) ∧
  (∀ b, b < t → C b = -1 ∨ ∃ i1 i2, i1 < i2 ∧ i2 < many ∧ C b = nI (r i1) ∧ B b = nI (r i2) ∧ E (r i1) b) ∧
  (∀ i, 1 ≤ i → i < many → ∃ b i1, b < t ∧ i1 < i ∧ C b = nI (r i1) ∧ B b = nI (r i) ∧ E (r i1) b) ∧
  many = 1 + zcn (fun b => !decide (C b = -1)) t
/-- the pairs are being turned over along the way back from x -/
def zAU (t k : Nat) (E : Nat → Nat → Prop) (B0 C : Nat → Int32) (b0 : Nat) (r : Nat → Nat) (i x : Nat) (A B : Nat → Int32) : Prop :=
  (∀ y, y < t → y ≠ x → B y = -1 ∨ ∃ a, a ≤ k ∧ B y = nI a ∧ E a y ∧ A a = nI y) ∧
  (∀ i2, 1 ≤ i2 → i2 ≤ i → ∃ y i1, y < t ∧ y ≠ x ∧ i1 < i2 ∧ C y = nI (r i1) ∧ E (r i1) y ∧ B y = nI (r i2)) ∧
  (∀ y, y < t → y ≠ x → ¬ B y = nI k) ∧
  (∀ y, y < t → y ≠ x → (B y = -1 ↔ B0 y = -1 ∧ y ≠ b0)) ∧ (x = b0 ∨ ¬ B0 x = -1) ∧ x < t ∧ E (r i) x ∧ C x = nI (r i)
/-- its last pair -/
theorem zAU.last {t k : Nat} {E : Nat → Nat → Prop} {B0 C : Nat → Int32} {b0 : Nat} {r : Nat → Nat} {x : Nat} {A B : Nat → Int32} (ht : t ≤ 24) (hk : k < 24) (h : zAU t k E B0 C b0 r 0 x A B) (h0 : r 0 = k) : zAB t E (k + 1) (upd A k (nI x)) (upd B x (nI k)) ∧ ∀ y, y < t → (upd B x (nI k) y = -1 ↔ B0 y = -1 ∧ y ≠ b0) := by
  obtain ⟨p1, p2, p3, p4, p5, p6, p7, p8⟩ := h
  rw [h0] at p7
  refine ⟨fun y hy => ?_, fun y hy => ?_⟩
  · by_cases hyx : y = x
    · subst hyx
      exact Or.inr ⟨k, by omega, pk_us, p7, pk_us⟩
    · rw [pk_un hyx]
      rcases p1 y hy hyx with e | ⟨a, q1, q2, q3, q4⟩
      · exact Or.inl e
      · have hak : a ≠ k := fun z => p3 y hy hyx (by rw [q2, z])
        exact Or.inr ⟨a, by omega, q2, q3, by rw [pk_un hak]; exact q4⟩
  · by_cases hyx : y = x
    · subst hyx
      rw [pk_us]
      refine ⟨fun z => absurd z (nI_n1 (by omega)), fun z => ?_⟩
      rcases p5 with e | e
      · exact absurd e z.2
      · exact absurd z.1 e
    · rw [pk_un hyx]; exact p4 y hy hyx
theorem zAU.next {t k many : Nat} {E : Nat → Nat → Prop} {B0 C : Nat → Int32} {b0 : Nat} {r : Nat → Nat} {i x : Nat} {A B : Nat → Int32} (ht : t ≤ 24) (hk : k < 24) (hi : 1 ≤ i) (him : i < many) (hr : ∀ i i2, i < i2 → i2 < many → r i ≠ r i2) (hrk : ∀ i, i < many → r i ≤ k) (h : zAU t k E B0 C b0 r i x A B) : r i ≠ k ∧ ∃ y i1, A (r i) = nI y ∧ i1 < i ∧ y < t ∧ zAU t k E B0 C b0 r i1 y (upd A (r i) (nI x)) (upd B x (nI (r i))) := by
  obtain ⟨p1, p2, p3, p4, p5, p6, p7, p8⟩ := h
  obtain ⟨y, i1, y1, y2, y3, y4, y5, y6⟩ := p2 i hi (Nat.le_refl _)
  have hrik := hrk i him
  have hk2 : r i ≠ k := fun z => p3 y y1 y2 (by rw [y6, z])
  have hA : A (r i) = nI y := by
    rcases p1 y y1 y2 with e | ⟨a, q1, q2, q3, q4⟩
    · rw [y6] at e; exact absurd e (nI_n1 (by omega))
    · have : a = r i := nI_inj4 (by omega) (by omega) (q2.symm.trans y6)
      subst this; exact q4
  refine ⟨hk2, y, i1, hA, y3, y1, ⟨fun z hz hzy => ?_, fun i2 h1 h2 => ?_, fun z hz hzy => ?_, fun z hz hzy => ?_, ?_, y1, y5, y4⟩⟩
  · by_cases hzx : z = x
    · subst hzx
      exact Or.inr ⟨r i, hrik, pk_us, p7, pk_us⟩
    · rw [pk_un hzx]
      rcases p1 z hz hzx with e | ⟨a, q1, q2, q3, q4⟩
      · exact Or.inl e
      · have har : a ≠ r i := fun w => by subst w; exact hzy (nI_inj4 (by omega) (by omega) (q4.symm.trans hA))
        exact Or.inr ⟨a, q1, q2, q3, by rw [pk_un har]; exact q4⟩
  · obtain ⟨w, j1, w1, w2, w3, w4, w5, w6⟩ := p2 i2 h1 (by omega)
    refine ⟨w, j1, w1, fun e => ?_, w3, w4, w5, by rw [pk_un w2]; exact w6⟩
    subst e
    exact hr i2 i (by omega) him (nI_inj4 (by have := hrk i2 (by omega); omega) (by omega) (w6.symm.trans y6))
  · by_cases hzx : z = x
    · subst hzx; rw [pk_us]; exact fun e => hk2 (nI_inj4 (by omega) (by omega) e)
    · rw [pk_un hzx]; exact p3 z hz hzx
  · by_cases hzx : z = x
    · subst hzx
      rw [pk_us]
      refine ⟨fun e => absurd e (nI_n1 (by omega)), fun e => ?_⟩
      rcases p5 with q | q
      · exact absurd q e.2
      · exact absurd e.1 q
    · rw [pk_un hzx]; exact p4 z hz hzx
  · by_cases hyb : y = b0
    · exact Or.inl hyb
    · refine Or.inr (fun e => ?_)
      have := (p4 y y1 y2).mpr ⟨e, hyb⟩
      rw [y6] at this
      exact nI_n1 (by omega) this
/-- a free right was found: the way back begins -/
theorem zBF.start {t k many : Nat} {E : Nat → Nat → Prop} {A B C R : Nat → Int32} {r : Nat → Nat} {j b : Nat} (ht : t ≤ 24) (hk : k < 24) (hAB : zAB t E k A B) (h : zBF t k many E B C R r) (hj : j < many) (hb : b < t) (hB : B b = -1) (hE : E (r j) b) : zAU t k E B (upd C b (nI (r j))) b r j b A B := by
  obtain ⟨b1, b2, b3, b4, b5, b6, b7⟩ := h
  refine ⟨fun y hy hyb => ?_, fun i2 h1 h2 => ?_, fun y hy hyb e => ?_, fun y hy hyb => ⟨fun e => ⟨e, hyb⟩, fun e => e.1⟩, Or.inl rfl, hb, hE, pk_us⟩
  · rcases hAB y hy with e | ⟨a, q1, q2, q3, q4⟩
    · exact Or.inl e
    · exact Or.inr ⟨a, by omega, q2, q3, q4⟩
  · obtain ⟨y, i1, y1, y2, y3, y4, y5⟩ := b6 i2 h1 (by omega)
    have hyb : y ≠ b := fun e => by subst e; rw [hB] at y4; exact nI_n1 (by have := (b2 i2 (by omega)).2; omega) y4.symm
    exact ⟨y, i1, y1, hyb, y2, by rw [pk_un hyb]; exact y3, y5, y4⟩
  · rcases hAB y hy with e2 | ⟨a, q1, q2, q3, q4⟩
    · rw [e2] at e; exact nI_n1 (by omega) e.symm
    · have : a = k := nI_inj4 (by omega) (by omega) (q2.symm.trans e)
      omega
/-- a right that goes behind another already is come to -/
theorem zBF.add {t k many : Nat} {E : Nat → Nat → Prop} {A B C R : Nat → Int32} {r : Nat → Nat} {j b : Nat} (ht : t ≤ 24) (hk : k < 24) (hp : zms (zog B) t ≤ k) (hAB : zAB t E k A B) (h : zBF t k many E B C R r) (hj : j < many) (hb : b < t) (hC : C b = -1) (hB : ¬ B b = -1) (hE : E (r j) b) : many ≤ k ∧ ∃ a, B b = nI a ∧ a < k ∧ zBF t k (many + 1) E B (upd C b (nI (r j))) (upd R many (nI a)) (fun i => if i = many then a else r i) := by
  obtain ⟨b1, b2, b3, b4, b5, b6, b7⟩ := h
  have hC2 : zcn (fun y => !decide (upd C b (nI (r j)) y = -1)) t = zcn (fun y => !decide (C y = -1)) t + 1 :=
    zcn_up (c := b) (by simp [hC]) (by rw [pk_us]; simp [nI_n1 (show r j < 2 ^ 31 by have := (b2 j hj).2; omega)]) hb (fun y hy hyb => by rw [pk_un hyb])
  have hle : zcn (fun y => !decide (upd C b (nI (r j)) y = -1)) t ≤ zms (zog B) t := by
    refine zcn_le (fun y hy hq => ?_)
    rw [zog_s]
    by_cases hyb : y = b
    · subst hyb; simp [hB]
    · rw [pk_un hyb] at hq
      rcases b5 y hy with e | ⟨i1, i2, q1, q2, q3, q4, q5⟩
      · simp [e] at hq
      · rw [q4]; simp [nI_n1 (show r i2 < 2 ^ 31 by have := (b2 i2 q2).2; omega)]
  rcases hAB b hb with e | ⟨a, q1, q2, q3, q4⟩
  · exact absurd e hB
  · have hmk : many ≤ k := by omega
    have hri : ∀ i, i < many → (if i = many then a else r i) = r i := fun i hi => if_neg (by omega)
    have ha : ∀ i, i < many → r i ≠ a := by
      intro i hi e
      by_cases hi0 : i = 0
      · rw [hi0, b3] at e; omega
      · obtain ⟨y, i1, y1, y2, y3, y4, y5⟩ := b6 i (by omega) hi
        rw [e] at y4
        rcases hAB y y1 with z | ⟨a2, z1, z2, z3, z4⟩
        · rw [y4] at z; exact nI_n1 (by omega) z
        · have : a2 = a := nI_inj4 (by omega) (by omega) (z2.symm.trans y4)
          subst this
          have : y = b := nI_inj4 (by omega) (by omega) (z4.symm.trans q4)
          subst this
          rw [hC] at y3
          exact nI_n1 (by have := (b2 i1 (by omega)).2; omega) y3.symm
    refine ⟨hmk, a, q2, q1, ⟨by omega, fun i hi => ?_, by show (if 0 = many then a else r 0) = k; rw [if_neg (by omega)]; exact b3, fun i i2 h1 h2 => ?_, fun y hy => ?_, fun i h1 h2 => ?_, by omega⟩⟩
    · show upd R many (nI a) i = nI (if i = many then a else r i) ∧ (if i = many then a else r i) ≤ k
      by_cases him : i = many
      · rw [if_pos him, him]; exact ⟨pk_us, by omega⟩
      · rw [if_neg him, pk_un him]; exact b2 i (by omega)
    · show (if i = many then a else r i) ≠ (if i2 = many then a else r i2)
      rw [hri i (by omega)]
      by_cases h3 : i2 = many
      · rw [if_pos h3]; exact ha i (by omega)
      · rw [if_neg h3]; exact b4 i i2 h1 (by omega)
    · by_cases hyb : y = b
      · subst hyb
        refine Or.inr ⟨j, many, hj, by omega, ?_, ?_, ?_⟩
        · show upd C y (nI (r j)) y = nI (if j = many then a else r j)
          rw [hri j hj]; exact pk_us
        · show B y = nI (if many = many then a else r many)
          rw [if_pos rfl]; exact q2
        · show E (if j = many then a else r j) y
          rw [hri j hj]; exact hE
      · rw [pk_un hyb]
        rcases b5 y hy with e | ⟨i1, i2, z1, z2, z3, z4, z5⟩
        · exact Or.inl e
        · refine Or.inr ⟨i1, i2, z1, by omega, ?_, ?_, ?_⟩
          · show C y = nI (if i1 = many then a else r i1)
            rw [hri i1 (by omega)]; exact z3
          · show B y = nI (if i2 = many then a else r i2)
            rw [hri i2 z2]; exact z4
          · show E (if i1 = many then a else r i1) y
            rw [hri i1 (by omega)]; exact z5
    · by_cases him : i = many
      · refine ⟨b, j, hb, by omega, ?_, ?_, ?_⟩
        · show upd C b (nI (r j)) b = nI (if j = many then a else r j)
          rw [hri j hj]; exact pk_us
        · show B b = nI (if i = many then a else r i)
          rw [if_pos him]; exact q2
        · show E (if j = many then a else r j) b
          rw [hri j hj]; exact hE
      · obtain ⟨y, i1, y1, y2, y3, y4, y5⟩ := b6 i h1 (by omega)
        have hyb : y ≠ b := fun e => by subst e; rw [hC] at y3; exact nI_n1 (by have := (b2 i1 (by omega)).2; omega) y3.symm
        refine ⟨y, i1, y1, y2, ?_, ?_, ?_⟩
        · show upd C b (nI (r j)) y = nI (if i1 = many then a else r i1)
          rw [hri i1 (by omega), pk_un hyb]; exact y3
        · show B y = nI (if i = many then a else r i)
          rw [if_neg him]; exact y4
        · show E (if i1 = many then a else r i1) y
          rw [hri i1 (by omega)]; exact y5
/-- nothing was found: no more can be paired -/
theorem zBF.fail {t k many : Nat} {E : Nat → Nat → Prop} {A B C R : Nat → Int32} {r : Nat → Nat} (ht : t ≤ 24) (hk : k < 24) (hAB : zAB t E k A B) (h : zBF t k many E B C R r) (hall : ∀ i, i < many → ∀ b, b < t → E (r i) b → ¬ C b = -1) : ∀ p, zmax t E k p → zmax t E (k + 1) p := by
  intro p hp
  obtain ⟨b1, b2, b3, b4, b5, b6, b7⟩ := h
  refine zmax_fail (B := zog B) (R := fun b => !decide (C b = -1)) (L := fun a => ∃ i, i < many ∧ r i = a) (hAB.mt ht (by omega)) hp ⟨0, by omega, b3⟩ (fun a b ha hb he => ?_) (fun b hb hr => ?_)
  · obtain ⟨i, hi, e⟩ := ha
    subst e
    simp [hall i hi b hb he]
  · rcases b5 b hb with e | ⟨i1, i2, z1, z2, z3, z4, z5⟩
    · simp [e] at hr
    · refine ⟨r i2, ?_, i2, z2, rfl⟩
      unfold zog
      have := (b2 i2 z2).2
      rw [z4, if_neg (nI_n1 (by omega)), nI_clamp (by omega)]
def zmf4 (u v : zI) : Prop := ∀ q, q ≠ 80 → q ≠ 81 → q ≠ 82 → q ≠ 83 → u q = v q
def zQj (iv : zI) (lw : zG) (t k : Nat) (rest : Int32) : Option Value → zI → zG → Prop := fun v iv2 lw2 => lw2 = lw ∧ zmf4 iv2 iv ∧ ((v = some (.int 1) ∧ zAB t (zmE iv rest) (k + 1) (iv2 80) (iv2 81) ∧ ∃ b0, b0 < t ∧ iv 81 b0 = -1 ∧ ∀ b, b < t → (iv2 81 b = -1 ↔ iv 81 b = -1 ∧ b ≠ b0)) ∨ (v = some (.int 0) ∧ iv2 80 = iv 80 ∧ iv2 81 = iv 81 ∧ ∀ p, zmax t (zmE iv rest) k p → zmax t (zmE iv rest) (k + 1) p))

set_option maxHeartbeats 1000000 in
set_option maxRecDepth 4000 in
theorem lm_au (n : Nat) (iv : zI) (lw : zG) (t : Nat) (ht : iv 41 53 = nI t) (ht2 : t ≤ 24) (rest : Int32) (hS : ∀ a, a < t → vp_in (iv 79 a) 8) (k : Nat) (hk : k < t) (hAB : zAB t (zmE iv rest) k (iv 80) (iv 81)) (hp : zms (zog (iv 81)) t ≤ k) (b0 : Nat) (hb0 : b0 < t) (hB0 : iv 81 b0 = -1) (r : Nat → Nat) (many : Nat) (hr0 : r 0 = k) (hr : ∀ i i2, i < i2 → i2 < many → r i ≠ r i2) (hrk : ∀ i, i < many → r i ≤ k) (mm jj aa bb : Int32) {X : zX} (C : zC X cX10_joins 10 RX10 (some .boolean) "joins" 0 0 0) (E : zEnd X (91 + 3 * n) 0 0 (zQ n (zQj iv lw t k rest))) : ∀ (N : Nat) (i x : Nat) (cur : zI), i < N → i < many → zmf4 cur iv → zAU t k (zmE iv rest) (iv 81) (cur 82) b0 r i x (cur 80) (cur 81) → zJs X n 10 129 [some (.ref 41), some (.int (nI k)), some (.int rest), some (.int mm), some (.int jj), some (.int aa), some (.int bb), some (.int (nI x)), none, none] [] cur lw := by
  intro N
  induction N with
  | zero =>
    intro i x cur hiN
    exact absurd hiN (by omega)
  | succ N ih =>
    intro i x cur hiN him hf hA
    have p6 := hA.2.2.2.2.2.1
    have eC : cur 82 x = nI (r i) := hA.2.2.2.2.2.2.2
    have hri : r i ≤ k := hrk i him
    refine z_iload C dX10_joins_129 rfl ?_
    refine zt_if_lt (tgt := 187) C dX10_joins_131 (nI_toInt (show x < 2 ^ 31 by omega)) (by decide) (fun q131 => ?_) (fun q131 => ?_)
    · exfalso; omega
    · refine z_aload_n C dX10_joins_134 rfl ?_
      refine zs_getR C dX10_joins_135 zf_X10_137 zk_41 (by decide) (zr_41_60 n) ?_
      refine z_iload C dX10_joins_138 rfl ?_
      refine z_iald C dX10_joins_140 zk_82 (by decide) ?_ ?_
      · exact vp_in_nI (by omega) (by decide)
      rw [nI_clamp (show x < 2 ^ 31 by omega), eC]
      refine z_istore (lv' := [some (.ref 41), some (.int _), some (.int rest), some (.int mm), some (.int jj), some (.int aa), some (.int bb), some (.int _), some (.int _), none]) C dX10_joins_141 (by decide) rfl ?_
      refine z_aload_n C dX10_joins_143 rfl ?_
      refine zs_getR C dX10_joins_144 zf_X10_131 zk_41 (by decide) (zr_41_58 n) ?_
      refine z_iload C dX10_joins_147 rfl ?_
      refine z_iald C dX10_joins_149 zk_80 (by decide) ?_ ?_
      · exact vp_in_nI (by omega) (by decide)
      rw [nI_clamp (show r i < 2 ^ 31 by omega)]
      refine z_istore (lv' := [some (.ref 41), some (.int _), some (.int rest), some (.int mm), some (.int jj), some (.int aa), some (.int bb), some (.int _), some (.int _), some (.int _)]) C dX10_joins_150 (by decide) rfl ?_
      refine z_aload_n C dX10_joins_152 rfl ?_
      refine zs_getR C dX10_joins_153 zf_X10_131 zk_41 (by decide) (zr_41_58 n) ?_
      refine z_iload C dX10_joins_156 rfl ?_
      refine z_iload C dX10_joins_158 rfl ?_
      refine z_iast C dX10_joins_160 zk_80 (by decide) ?_ ?_
      · exact vp_in_nI (by omega) (by decide)
      refine z_aload_n C dX10_joins_161 rfl ?_
      refine zs_getR C dX10_joins_162 zf_X10_134 zk_41 (by decide) (zr_41_59 n) ?_
      refine z_iload C dX10_joins_165 rfl ?_
      refine z_iload C dX10_joins_167 rfl ?_
      refine z_iast C dX10_joins_169 zk_81 (by decide) ?_ ?_
      · exact vp_in_nI (by omega) (by decide)
      refine z_iload C dX10_joins_170 rfl ?_
      refine z_iload_n C dX10_joins_172 rfl ?_
      refine z_icmp_ne (tgt := 180) C dX10_joins_173 (by decide) (fun q173 => ?_) (fun q173 => ?_)
      · refine z_iload C dX10_joins_180 rfl ?_
        refine z_istore (lv' := [some (.ref 41), some (.int _), some (.int rest), some (.int mm), some (.int jj), some (.int aa), some (.int bb), some (.int _), some (.int _), some (.int _)]) C dX10_joins_182 (by decide) rfl ?_
        refine z_goto (tgt := 129) C dX10_joins_184 (by decide) ?_
        have hi1 : 1 ≤ i := by
          rcases Nat.eq_zero_or_pos i with z | z
          · subst z; exact absurd (by rw [hr0]) q173
          · exact z
        obtain ⟨-, y, i1, e1, e2, e3, e4⟩ := hA.next ht2 (by omega) hi1 him hr hrk
        have e := ih i1 y (zu (zu cur 80 (r i) (nI x)) 81 x (nI (r i))) (by omega) (by omega) (fun q a b c d => by rw [zu_n _ _ _ b, zu_n _ _ _ a]; exact hf q a b c d) e4
        rw [nI_clamp (show x < 2 ^ 31 by omega), nI_clamp (show r i < 2 ^ 31 by omega), e1]
        exact z_sub (zdp.sub (by repeat (first | exact True.intro | refine And.intro rfl ?_))) e
      · refine z_iconst (v := (-1)) C dX10_joins_176 (by decide) ?_
        refine z_goto (tgt := 182) C dX10_joins_177 (by decide) ?_
        refine z_istore (lv' := [some (.ref 41), some (.int _), some (.int rest), some (.int mm), some (.int jj), some (.int aa), some (.int bb), some (.int _), some (.int _), some (.int _)]) C dX10_joins_182 (by decide) rfl ?_
        refine z_goto (tgt := 129) C dX10_joins_184 (by decide) ?_
        have hi0 : i = 0 := by
          rcases Nat.eq_zero_or_pos i with z | z
          · exact z
          · exact absurd (nI_inj4 (by omega) (by omega) q173) (hA.next ht2 (by omega) z him hr hrk).1
        subst hi0
        obtain ⟨f1, f2⟩ := hA.last ht2 (by omega) hr0
        refine z_iload C dX10_joins_129 rfl ?_
        refine zt_if_lt (tgt := 187) C dX10_joins_131 (show (-1 : Int32).toInt = -1 by decide) (by decide) (fun q131 => ?_) (fun q131 => ?_)
        · refine z_iconst (v := 1) C dX10_joins_187 (by decide) ?_
          refine zs_qiret C E dX10_joins_188 rfl ?_
          rw [nI_clamp (show x < 2 ^ 31 by omega), nI_clamp (show r 0 < 2 ^ 31 by omega), hr0]
          refine ⟨rfl, fun q a b c d => by rw [zu_n _ _ _ b, zu_n _ _ _ a]; exact hf q a b c d, Or.inl ⟨rfl, ?_, b0, hb0, hB0, ?_⟩⟩
          · rw [zu_n _ _ _ (by decide), zu_s, zu_s, zu_n _ _ _ (by decide)]
            exact f1
          · rw [zu_s, zu_n _ _ _ (by decide)]
            exact f2
        · exact absurd q131 (by decide)

set_option maxHeartbeats 2000000 in
set_option maxRecDepth 4000 in
theorem lm_in (n : Nat) (iv : zI) (lw : zG) (t : Nat) (ht : iv 41 53 = nI t) (ht2 : t ≤ 24) (rest : Int32) (hS : ∀ a, a < t → vp_in (iv 79 a) 8) (k : Nat) (hk : k < t) (hAB : zAB t (zmE iv rest) k (iv 80) (iv 81)) (hp : zms (zog (iv 81)) t ≤ k) (j : Nat) {X : zX} (C : zC X cX10_joins 10 RX10 (some .boolean) "joins" 1 0 0) (E : zEnd X (91 + 3 * n) 0 0 (zQ n (zQj iv lw t k rest))) (K : ∀ (cur : zI) (many : Nat) (r : Nat → Nat), zmf4 cur iv → cur 80 = iv 80 → cur 81 = iv 81 → zBF t k many (zmE iv rest) (cur 81) (cur 82) (cur 83) r → j < many → (∀ i, i < j + 1 → ∀ y, y < t → zmE iv rest (r i) y → ¬ cur 82 y = -1) → zJs X n 10 195 [some (.ref 41), some (.int (nI k)), some (.int rest), some (.int (nI many)), some (.int (nI j)), none, none, none, none, none] [] cur lw) : ∀ (N : Nat) (b : Nat) (cur : zI) (many : Nat) (r : Nat → Nat), b + N = t → zmf4 cur iv → cur 80 = iv 80 → cur 81 = iv 81 → zBF t k many (zmE iv rest) (cur 81) (cur 82) (cur 83) r → j < many → (∀ i, i < j → ∀ y, y < t → zmE iv rest (r i) y → ¬ cur 82 y = -1) → (∀ y, y < b → y < t → zmE iv rest (r j) y → ¬ cur 82 y = -1) → zJs X n 10 53 [some (.ref 41), some (.int (nI k)), some (.int rest), some (.int (nI many)), some (.int (nI j)), some (.int (nI (r j))), some (.int (nI b)), none, none, none] [] cur lw := by
  intro N
  induction N with
  | zero =>
    intro b cur many r hk2 hf h80 h81 hF hj hP hD
    refine z_iload C dX10_joins_53 rfl ?_
    refine z_aload_n C dX10_joins_55 rfl ?_
    refine z_getI C dX10_joins_56 zf_X10_381 zk_41 (by decide) ?_
    refine zt_icmp_ge (tgt := 195) C dX10_joins_59 (nI_toInt (by omega)) (zt_nI (show cur 41 53 = nI t by rw [hf 41 (by decide) (by decide) (by decide) (by decide)]; exact ht) (by omega)) (by decide) (fun q59 => ?_) (fun q59 => ?_)
    · refine z_sub (zdp.sub (by repeat (first | exact True.intro | refine And.intro rfl ?_))) (K cur many r hf h80 h81 hF hj (fun i hi y hy hye => ?_))
      by_cases hij : i = j
      · subst hij; exact hD y (by omega) hy hye
      · exact hP i (by omega) y hy hye
    · exfalso; omega
  | succ N ih =>
    intro b cur many r hk2 hf h80 h81 hF hj hP hD
    refine z_iload C dX10_joins_53 rfl ?_
    refine z_aload_n C dX10_joins_55 rfl ?_
    refine z_getI C dX10_joins_56 zf_X10_381 zk_41 (by decide) ?_
    refine zt_icmp_ge (tgt := 195) C dX10_joins_59 (nI_toInt (by omega)) (zt_nI (show cur 41 53 = nI t by rw [hf 41 (by decide) (by decide) (by decide) (by decide)]; exact ht) (by omega)) (by decide) (fun q59 => ?_) (fun q59 => ?_)
    · exfalso; omega
    · refine z_aload_n C dX10_joins_62 rfl ?_
      refine zs_getR C dX10_joins_63 zf_X10_137 zk_41 (by decide) (zr_41_60 n) ?_
      refine z_iload C dX10_joins_66 rfl ?_
      refine z_iald C dX10_joins_68 zk_82 (by decide) ?_ ?_
      · exact vp_in_nI (by omega) (by decide)
      refine zt_if_ge (tgt := 189) C dX10_joins_69 rfl (by decide) (fun q69 => ?_) (fun q69 => ?_)
      · rw [nI_clamp (show b < 2 ^ 31 by omega)] at q69
        refine z_iinc (y := 1) (lv' := [some (.ref 41), some (.int _), some (.int rest), some (.int _), some (.int _), some (.int _), some (.int _), none, none, none]) C dX10_joins_189 rfl (by decide) (by decide) rfl ?_
        refine z_goto (tgt := 53) C dX10_joins_192 (by decide) ?_
        rw [nI_1 b]
        have e := ih (b + 1) cur many r (by omega) hf h80 h81 hF hj hP (fun y hy hyt hye => by
          by_cases hyb : y = b
          · subst hyb; exact fun z => by rw [z] at q69; exact absurd q69 (by decide)
          · exact hD y (by omega) (by omega) hye)
        exact z_sub (zdp.sub (by repeat (first | exact True.intro | refine And.intro rfl ?_))) e
      · rw [nI_clamp (show b < 2 ^ 31 by omega)] at q69
        refine z_aload_n C dX10_joins_72 rfl ?_
        refine z_iload C dX10_joins_73 rfl ?_
        refine z_iload C dX10_joins_75 rfl ?_
        refine z_iload_n C dX10_joins_77 rfl ?_
        refine zs_callVi C dX10_joins_78 zm_X10_384 zyX10_isBehind (m_isBehind n cur _ (r j) b (by have := (hF.2.1 j hj).2; omega) (by omega) rest (by rw [hf 79 (by decide) (by decide) (by decide) (by decide)]; exact hS _ (by have := (hF.2.1 j hj).2; omega))) zc_10 rfl zk_41 (by decide) (by decide) rfl rfl (Nat.le_of_ble_eq_true rfl) (by decide) (by decide) ?_
        refine zb_if_ne (tgt := 87) C dX10_joins_81 (by decide) (fun q81 => ?_) (fun q81 => ?_)
        · have eE : zbeh cur (r j) b rest ↔ zmE iv rest (r j) b := by
            unfold zbeh zmE zbeh
            rw [hf 76 (by decide) (by decide) (by decide) (by decide), hf 77 (by decide) (by decide) (by decide) (by decide), hf 78 (by decide) (by decide) (by decide) (by decide), hf 79 (by decide) (by decide) (by decide) (by decide), hf 42 (by decide) (by decide) (by decide) (by decide), hf 43 (by decide) (by decide) (by decide) (by decide)]
          refine z_aload_n C dX10_joins_87 rfl ?_
          refine zs_getR C dX10_joins_88 zf_X10_137 zk_41 (by decide) (zr_41_60 n) ?_
          refine z_iload C dX10_joins_91 rfl ?_
          refine z_iload C dX10_joins_93 rfl ?_
          refine z_iast C dX10_joins_95 zk_82 (by decide) ?_ ?_
          · exact vp_in_nI (by omega) (by decide)
          refine z_aload_n C dX10_joins_96 rfl ?_
          refine zs_getR C dX10_joins_97 zf_X10_134 zk_41 (by decide) (zr_41_59 n) ?_
          refine z_iload C dX10_joins_100 rfl ?_
          refine z_iald C dX10_joins_102 zk_81 (by decide) ?_ ?_
          · exact vp_in_nI (by omega) (by decide)
          refine zt_if_lt (tgt := 125) C dX10_joins_103 rfl (by decide) (fun q103 => ?_) (fun q103 => ?_)
          · rw [nI_clamp (show b < 2 ^ 31 by omega)] at q103
            have q103 : (cur 81 b).toInt < 0 := q103
            have eB : iv 81 b = -1 := by
              rw [h81] at q103
              rcases hAB b (by omega) with e | ⟨a, q1, q2, q3, q4⟩
              · exact e
              · rw [q2, nI_toInt (by omega)] at q103; omega
            refine z_iload C dX10_joins_125 rfl ?_
            refine z_istore (lv' := [some (.ref 41), some (.int _), some (.int rest), some (.int _), some (.int _), some (.int _), some (.int _), some (.int _), none, none]) C dX10_joins_127 (by decide) rfl ?_
            rw [nI_clamp (show b < 2 ^ 31 by omega)]
            have hAU := hF.start (A := cur 80) ht2 (by omega) (show zAB t (zmE iv rest) k (cur 80) (cur 81) by rw [h80, h81]; exact hAB) hj (show b < t by omega) (by rw [h81]; exact eB) (eE.mp q81)
            rw [h81] at hAU
            have e := lm_au n iv lw t ht ht2 rest hS k hk hAB hp b (by omega) eB r many hF.2.2.1 hF.2.2.2.1 (fun i hi => (hF.2.1 i hi).2) (nI many) (nI j) (nI (r j)) (nI b) (zC_le (by decide) C) E (j + 1) j b (zu cur 82 b (nI (r j))) (by omega) hj (fun q a1 a2 a3 a4 => by rw [zu_n _ _ _ a3]; exact hf q a1 a2 a3 a4) (by rw [zu_s, zu_n _ _ _ (show 80 ≠ 82 by decide), zu_n _ _ _ (show 81 ≠ 82 by decide), h81]; exact hAU)
            exact z_sub (zdp.sub (by repeat (first | exact True.intro | refine And.intro rfl ?_))) e
          · rw [nI_clamp (show b < 2 ^ 31 by omega)] at q103
            have q103 : ¬ (cur 81 b).toInt < 0 := q103
            have nB : ¬ iv 81 b = -1 := fun z => q103 (by rw [h81, z]; decide)
            have hC1 : cur 82 b = -1 := by
              rcases hF.2.2.2.2.1 b (by omega) with e | ⟨i1, i2, z1, z2, z3, z4, z5⟩
              · exact e
              · exfalso; rw [z3, nI_toInt (by have := (hF.2.1 i1 (by omega)).2; omega)] at q69; omega
            obtain ⟨g1, a, g2, g3, g4⟩ := hF.add ht2 (by omega) (show zms (zog (cur 81)) t ≤ k by rw [h81]; exact hp) (show zAB t (zmE iv rest) k (cur 80) (cur 81) by rw [h80, h81]; exact hAB) hj (show b < t by omega) hC1 (by rw [h81]; exact nB) (eE.mp q81)
            refine z_aload_n C dX10_joins_106 rfl ?_
            refine zs_getR C dX10_joins_107 zf_X10_140 zk_41 (by decide) (zr_41_61 n) ?_
            refine z_iload_n C dX10_joins_110 rfl ?_
            refine z_aload_n C dX10_joins_111 rfl ?_
            refine zs_getR C dX10_joins_112 zf_X10_134 zk_41 (by decide) (zr_41_59 n) ?_
            refine z_iload C dX10_joins_115 rfl ?_
            refine z_iald C dX10_joins_117 zk_81 (by decide) ?_ ?_
            · exact vp_in_nI (by omega) (by decide)
            rw [nI_clamp (show b < 2 ^ 31 by omega)]
            refine z_iast C dX10_joins_118 zk_83 (by decide) ?_ ?_
            · exact vp_in_nI (by omega) (by decide)
            refine z_iinc (y := 1) (lv' := [some (.ref 41), some (.int _), some (.int rest), some (.int _), some (.int _), some (.int _), some (.int _), none, none, none]) C dX10_joins_119 rfl (by decide) (by decide) rfl ?_
            refine z_goto (tgt := 189) C dX10_joins_122 (by decide) ?_
            refine z_iinc (y := 1) (lv' := [some (.ref 41), some (.int _), some (.int rest), some (.int _), some (.int _), some (.int _), some (.int _), none, none, none]) C dX10_joins_189 rfl (by decide) (by decide) rfl ?_
            refine z_goto (tgt := 53) C dX10_joins_192 (by decide) ?_
            rw [nI_1 b, nI_1 many]
            rw [nI_clamp (show many < 2 ^ 31 by omega)]
            have ej : (if j = many then a else r j) = r j := if_neg (by omega)
            have ea : cur 81 b = nI a := g2
            have e := ih (b + 1) (zu (zu cur 82 b (nI (r j))) 83 many (cur 81 b)) (many + 1) (fun i => if i = many then a else r i) (by omega) (fun q a1 a2 a3 a4 => by rw [zu_n _ _ _ a4, zu_n _ _ _ a3]; exact hf q a1 a2 a3 a4) h80 h81 (by rw [ea]; exact g4) (by omega) (fun i hi y hy hye => ?_) (fun y hy hyt hye => ?_)
            · have e' := e
              rw [ej] at e'
              exact z_sub (zdp.sub (by repeat (first | exact True.intro | refine And.intro rfl ?_))) e'
            · have hi2 : (if i = many then a else r i) = r i := if_neg (by omega)
              have hye : zmE iv rest (if i = many then a else r i) y := hye
              rw [hi2] at hye
              show ¬ upd (cur 82) b (nI (r j)) y = -1
              by_cases hyb : y = b
              · subst hyb; rw [pk_us]; exact nI_n1 (by have := (hF.2.1 j hj).2; omega)
              · rw [pk_un hyb]; exact hP i hi y hy hye
            · have hye : zmE iv rest (if j = many then a else r j) y := hye
              rw [if_neg (by omega)] at hye
              show ¬ upd (cur 82) b (nI (r j)) y = -1
              by_cases hyb : y = b
              · subst hyb; rw [pk_us]; exact nI_n1 (by have := (hF.2.1 j hj).2; omega)
              · rw [pk_un hyb]; exact hD y (by omega) hyt hye
        · have eE : zbeh cur (r j) b rest ↔ zmE iv rest (r j) b := by
            unfold zbeh zmE zbeh
            rw [hf 76 (by decide) (by decide) (by decide) (by decide), hf 77 (by decide) (by decide) (by decide) (by decide), hf 78 (by decide) (by decide) (by decide) (by decide), hf 79 (by decide) (by decide) (by decide) (by decide), hf 42 (by decide) (by decide) (by decide) (by decide), hf 43 (by decide) (by decide) (by decide) (by decide)]
          refine z_goto (tgt := 189) C dX10_joins_84 (by decide) ?_
          refine z_iinc (y := 1) (lv' := [some (.ref 41), some (.int _), some (.int rest), some (.int _), some (.int _), some (.int _), some (.int _), none, none, none]) C dX10_joins_189 rfl (by decide) (by decide) rfl ?_
          refine z_goto (tgt := 53) C dX10_joins_192 (by decide) ?_
          rw [nI_1 b]
          have e := ih (b + 1) cur many r (by omega) hf h80 h81 hF hj hP (fun y hy hyt hye => by
            by_cases hyb : y = b
            · subst hyb; exact absurd (eE.mpr hye) q81
            · exact hD y (by omega) (by omega) hye)
          exact z_sub (zdp.sub (by repeat (first | exact True.intro | refine And.intro rfl ?_))) e

theorem zBF.le {t k many : Nat} {E : Nat → Nat → Prop} {B C R : Nat → Int32} {r : Nat → Nat} (ht : t ≤ 24) (hk : k < 24) (hp : zms (zog B) t ≤ k) (h : zBF t k many E B C R r) : many ≤ k + 1 := by
  obtain ⟨b1, b2, b3, b4, b5, b6, b7⟩ := h
  have hle : zcn (fun y => !decide (C y = -1)) t ≤ zms (zog B) t := by
    refine zcn_le (fun y hy hq => ?_)
    rw [zog_s]
    rcases b5 y hy with e | ⟨i1, i2, q1, q2, q3, q4, q5⟩
    · simp [e] at hq
    · rw [q4]; simp [nI_n1 (show r i2 < 2 ^ 31 by have := (b2 i2 q2).2; omega)]
  omega

set_option maxHeartbeats 1000000 in
set_option maxRecDepth 4000 in
theorem lm_out (n : Nat) (iv : zI) (lw : zG) (t : Nat) (ht : iv 41 53 = nI t) (ht2 : t ≤ 24) (rest : Int32) (hS : ∀ a, a < t → vp_in (iv 79 a) 8) (k : Nat) (hk : k < t) (hAB : zAB t (zmE iv rest) k (iv 80) (iv 81)) (hp : zms (zog (iv 81)) t ≤ k) {X : zX} (C : zC X cX10_joins 10 RX10 (some .boolean) "joins" 1 0 0) (E : zEnd X (91 + 3 * n) 0 0 (zQ n (zQj iv lw t k rest))) : ∀ (N : Nat) (j : Nat) (cur : zI) (many : Nat) (r : Nat → Nat), j + N = k + 2 → zmf4 cur iv → cur 80 = iv 80 → cur 81 = iv 81 → zBF t k many (zmE iv rest) (cur 81) (cur 82) (cur 83) r → j ≤ many → (∀ i, i < j → ∀ y, y < t → zmE iv rest (r i) y → ¬ cur 82 y = -1) → zJs X n 10 35 [some (.ref 41), some (.int (nI k)), some (.int rest), some (.int (nI many)), some (.int (nI j)), none, none, none, none, none] [] cur lw := by
  intro N
  induction N with
  | zero =>
    intro j cur many r hk2 hf h80 h81 hF hjm hP
    have hmk : many ≤ k + 1 := hF.le ht2 (by omega) (show zms (zog (cur 81)) t ≤ k by rw [h81]; exact hp)
    exfalso; omega
  | succ N ih =>
    intro j cur many r hk2 hf h80 h81 hF hjm hP
    have hmk : many ≤ k + 1 := hF.le ht2 (by omega) (show zms (zog (cur 81)) t ≤ k by rw [h81]; exact hp)
    refine z_iload C dX10_joins_35 rfl ?_
    refine z_iload_n C dX10_joins_37 rfl ?_
    refine zt_icmp_ge (tgt := 201) C dX10_joins_38 (nI_toInt (by omega)) (nI_toInt (by omega)) (by decide) (fun q38 => ?_) (fun q38 => ?_)
    · refine z_iconst (v := 0) C dX10_joins_201 (by decide) ?_
      refine zs_qiret C E dX10_joins_202 rfl ?_
      refine ⟨rfl, hf, Or.inr ⟨rfl, h80, h81, ?_⟩⟩
      have ej : j = many := by omega
      subst ej
      exact hF.fail (A := cur 80) ht2 (by omega) (show zAB t (zmE iv rest) k (cur 80) (cur 81) by rw [h80, h81]; exact hAB) hP
    · refine z_aload_n C dX10_joins_41 rfl ?_
      refine zs_getR C dX10_joins_42 zf_X10_140 zk_41 (by decide) (zr_41_61 n) ?_
      refine z_iload C dX10_joins_45 rfl ?_
      refine z_iald C dX10_joins_47 zk_83 (by decide) ?_ ?_
      · exact vp_in_nI (by omega) (by decide)
      refine z_istore (lv' := [some (.ref 41), some (.int _), some (.int rest), some (.int _), some (.int _), some (.int _), none, none, none, none]) C dX10_joins_48 (by decide) rfl ?_
      refine z_iconst (v := 0) C dX10_joins_50 (by decide) ?_
      refine z_istore (lv' := [some (.ref 41), some (.int _), some (.int rest), some (.int _), some (.int _), some (.int _), some (.int _), none, none, none]) C dX10_joins_51 (by decide) rfl ?_
      rw [nI_clamp (show j < 2 ^ 31 by omega), (hF.2.1 j (by omega)).1]
      have e := lm_in n iv lw t ht ht2 rest hS k hk hAB hp j (zC_le (by decide) C) E (fun cur2 many2 r2 f2 g80 g81 F2 hj2 P2 => ?_) t 0 cur many r (by omega) hf h80 h81 hF (by omega) hP (fun y hy => absurd hy (by omega))
      · exact z_sub (zdp.sub (by repeat (first | exact True.intro | refine And.intro rfl ?_))) e
      · refine z_iinc (y := 1) (lv' := [some (.ref 41), some (.int _), some (.int _), some (.int _), some (.int _), none, none, none, none, none]) C dX10_joins_195 rfl (by decide) (by decide) rfl ?_
        refine z_goto (tgt := 35) C dX10_joins_198 (by decide) ?_
        rw [nI_1 j]
        exact ih (j + 1) cur2 many2 r2 (by omega) f2 g80 g81 F2 (by omega) P2

set_option maxRecDepth 4000 in
theorem lm_jc (n : Nat) (iv : zI) (lw : zG) (t : Nat) (ht : iv 41 53 = nI t) (ht2 : t ≤ 24) (rest : Int32) (hS : ∀ a, a < t → vp_in (iv 79 a) 8) (k : Nat) (hk : k < t) (hAB : zAB t (zmE iv rest) k (iv 80) (iv 81)) (hp : zms (zog (iv 81)) t ≤ k) {X : zX} (C : zC X cX10_joins 10 RX10 (some .boolean) "joins" 1 0 0) (K : ∀ (cur : zI), (∀ c, c ≠ 82 → cur c = iv c) → (∀ b, b < t → cur 82 b = -1) → zJs X n 10 23 [some (.ref 41), some (.int (nI k)), some (.int rest), some (.int (nI t)), none, none, none, none, none, none] [] cur lw) : ∀ (N : Nat) (i : Nat) (cur : zI), i + N = t → (∀ c, c ≠ 82 → cur c = iv c) → (∀ b, b < i → cur 82 b = -1) → zJs X n 10 2 [some (.ref 41), some (.int (nI k)), some (.int rest), some (.int (nI i)), none, none, none, none, none, none] [] cur lw := by
  intro N
  induction N with
  | zero =>
    intro i cur hk2 hf hz
    refine z_iload_n C dX10_joins_2 rfl ?_
    refine z_aload_n C dX10_joins_3 rfl ?_
    refine z_getI C dX10_joins_4 zf_X10_381 zk_41 (by decide) ?_
    refine zt_icmp_ge (tgt := 23) C dX10_joins_7 (nI_toInt (by omega)) (zt_nI (show cur 41 53 = nI t by rw [hf 41 (by decide)]; exact ht) (by omega)) (by decide) (fun q7 => ?_) (fun q7 => ?_)
    · have e4 : i = t := by omega
      subst e4
      exact K cur hf hz
    · exfalso; omega
  | succ N ih =>
    intro i cur hk2 hf hz
    refine z_iload_n C dX10_joins_2 rfl ?_
    refine z_aload_n C dX10_joins_3 rfl ?_
    refine z_getI C dX10_joins_4 zf_X10_381 zk_41 (by decide) ?_
    refine zt_icmp_ge (tgt := 23) C dX10_joins_7 (nI_toInt (by omega)) (zt_nI (show cur 41 53 = nI t by rw [hf 41 (by decide)]; exact ht) (by omega)) (by decide) (fun q7 => ?_) (fun q7 => ?_)
    · exfalso; omega
    · refine z_aload_n C dX10_joins_10 rfl ?_
      refine zs_getR C dX10_joins_11 zf_X10_137 zk_41 (by decide) (zr_41_60 n) ?_
      refine z_iload_n C dX10_joins_14 rfl ?_
      refine z_iconst (v := (-1)) C dX10_joins_15 (by decide) ?_
      refine z_iast C dX10_joins_16 zk_82 (by decide) ?_ ?_
      · exact vp_in_nI (by omega) (by decide)
      refine z_iinc (y := 1) (lv' := [some (.ref 41), some (.int _), some (.int rest), some (.int _), none, none, none, none, none, none]) C dX10_joins_17 rfl (by decide) (by decide) rfl ?_
      refine z_goto (tgt := 2) C dX10_joins_20 (by decide) ?_
      rw [nI_1 i, nI_clamp (by omega)]
      refine ih (i + 1) _ (by omega) (fun c hc => by rw [zu_n _ _ _ hc]; exact hf c hc) (fun j hj => ?_)
      rw [zu_s]
      by_cases h : j = i
      · subst h; exact pk_us
      · rw [pk_un h]; exact hz j (by omega)

set_option maxRecDepth 4000 in
theorem lm_j23 (n : Nat) (iv : zI) (lw : zG) (t : Nat) (ht : iv 41 53 = nI t) (ht2 : t ≤ 24) (rest : Int32) (hS : ∀ a, a < t → vp_in (iv 79 a) 8) (k : Nat) (hk : k < t) (hAB : zAB t (zmE iv rest) k (iv 80) (iv 81)) (hp : zms (zog (iv 81)) t ≤ k) (cur : zI) (hf : (∀ c, c ≠ 82 → cur c = iv c)) (hz : ∀ b, b < t → cur 82 b = -1) {X : zX} (C : zC X cX10_joins 10 RX10 (some .boolean) "joins" 1 0 0) (E : zEnd X (91 + 3 * n) 0 0 (zQ n (zQj iv lw t k rest))) : zJs X n 10 23 [some (.ref 41), some (.int (nI k)), some (.int rest), some (.int (nI t)), none, none, none, none, none, none] [] cur lw := by
  refine z_iconst (v := 1) C dX10_joins_23 (by decide) ?_
  refine z_istore_n (lv' := [some (.ref 41), some (.int _), some (.int rest), some (.int _), none, none, none, none, none, none]) C dX10_joins_24 (by decide) rfl ?_
  refine z_aload_n C dX10_joins_25 rfl ?_
  refine zs_getR C dX10_joins_26 zf_X10_140 zk_41 (by decide) (zr_41_61 n) ?_
  refine z_iconst (v := 0) C dX10_joins_29 (by decide) ?_
  refine z_iload_n C dX10_joins_30 rfl ?_
  refine z_iast C dX10_joins_31 zk_83 (by decide) ?_ ?_
  · exact vp_in_iff.mpr (by decide)
  refine z_iconst (v := 0) C dX10_joins_32 (by decide) ?_
  refine z_istore (lv' := [some (.ref 41), some (.int _), some (.int rest), some (.int _), some (.int _), none, none, none, none, none]) C dX10_joins_33 (by decide) rfl ?_
  rw [show Int32.toNatClampNeg 0 = 0 by decide]
  have z0 : ∀ t, zcn (fun b => !decide (cur 82 b = -1)) t = 0 ∨ ∃ b, b < t ∧ ¬ cur 82 b = -1 := fun t => by
    induction t with
    | zero => exact Or.inl rfl
    | succ t ih =>
      rcases ih with e | ⟨b, hb, e⟩
      · by_cases h : cur 82 t = -1
        · exact Or.inl (by unfold zcn; rw [e]; simp [h])
        · exact Or.inr ⟨t, by omega, h⟩
      · exact Or.inr ⟨b, by omega, e⟩
  have z1 : zcn (fun b => !decide (cur 82 b = -1)) t = 0 := by
    rcases z0 t with e | ⟨b, hb, e⟩
    · exact e
    · exact absurd (hz b hb) e
  have hF : zBF t k 1 (zmE iv rest) (cur 81) (cur 82) (upd (cur 83) 0 (nI k)) (fun _ => k) := ⟨by omega, fun i hi => ⟨by rw [show i = 0 by omega]; exact pk_us, by show k ≤ k; omega⟩, rfl, fun i i2 h1 h2 => absurd h2 (by omega), fun b hb => Or.inl (hz b hb), fun i h1 h2 => absurd h2 (by omega), by rw [z1]⟩
  have e := lm_out n iv lw t ht ht2 rest hS k hk hAB hp (zC_le (by decide) C) E (k + 2) 0 (zu cur 83 0 (nI k)) 1 (fun _ => k) (by omega) (fun q a b c d => by rw [zu_n _ _ _ d]; exact hf q c) (hf 80 (by decide)) (hf 81 (by decide)) hF (by omega) (fun i hi => absurd hi (by omega))
  exact e

set_option maxRecDepth 4000 in
theorem m_joins (n : Nat) (iv : zI) (lw : zG) (t : Nat) (ht : iv 41 53 = nI t) (ht2 : t ≤ 24) (rest : Int32) (hS : ∀ a, a < t → vp_in (iv 79 a) 8) (k : Nat) (hk : k < t) (hAB : zAB t (zmE iv rest) k (iv 80) (iv 81)) (hp : zms (zog (iv 81)) t ≤ k) : zMs yX10_joins cX10_joins 10 (some .boolean) 1 [.ref 41, .int (nI k), .int rest] n iv lw (zQj iv lw t k rest) := by
  refine zM.of (by decide) (Nat.le_of_ble_eq_true rfl) (fun X C E => ?_)
  change zJs X n 10 0 [some (.ref 41), some (.int (nI k)), some (.int rest), none, none, none, none, none, none, none] [] iv lw
  refine z_iconst (v := 0) C dX10_joins_0 (by decide) ?_
  refine z_istore_n (lv' := [some (.ref 41), some (.int _), some (.int rest), some (.int _), none, none, none, none, none, none]) C dX10_joins_1 (by decide) rfl ?_
  refine lm_jc n iv lw t ht ht2 rest hS k hk hAB hp (zC_le (by decide) C) (fun c1 f1 z1 => ?_) t 0 iv (by omega) (fun _ _ => rfl) (fun j hj => absurd hj (by omega))
  exact lm_j23 n iv lw t ht ht2 rest hS k hk hAB hp c1 f1 z1 (zC_le (by decide) C) E

theorem zog_up {B B2 : Nat → Int32} {t b0 : Nat} (h0 : b0 < t) (hB : B b0 = -1) (h : ∀ b, b < t → (B2 b = -1 ↔ B b = -1 ∧ b ≠ b0)) : zms (zog B2) t = zms (zog B) t + 1 := by
  refine zcn_up (c := b0) (by rw [zog_s]; simp [hB]) ?_ h0 (fun b hb hbc => ?_)
  · rw [zog_s]
    have : ¬ B2 b0 = -1 := fun z => ((h b0 h0).mp z).2 rfl
    simp [this]
  · rw [zog_s, zog_s]
    have := h b hb
    by_cases e : B b = -1
    · simp [e, this.mpr ⟨e, hbc⟩]
    · have : ¬ B2 b = -1 := fun z => e (this.mp z).1
      simp [e, this]
theorem zAB.mono {t : Nat} {E : Nat → Nat → Prop} {k : Nat} {A B : Nat → Int32} (h : zAB t E k A B) : zAB t E (k + 1) A B := fun b hb => by
  rcases h b hb with e | ⟨a, h1, h2⟩
  · exact Or.inl e
  · exact Or.inr ⟨a, by omega, h2⟩
def zQw (iv : zI) (lw : zG) (t : Nat) (rest : Int32) : Option Value → zI → zG → Prop := fun v iv2 lw2 => lw2 = lw ∧ zmf4 iv2 iv ∧ ∃ G, zmt t (zmE iv rest) t G ∧ zmax t (zmE iv rest) t (zms G t) ∧ v = some (.int (nI (t - zms G t)))

set_option maxRecDepth 4000 in
theorem lm_fc (n : Nat) (iv : zI) (lw : zG) (t : Nat) (ht : iv 41 53 = nI t) (ht2 : t ≤ 24) (rest : Int32) (hS : ∀ a, a < t → vp_in (iv 79 a) 8) {X : zX} (C : zC X cX10_fewest 4 RX10 (some .int) "fewest" 0 0 0) (K : ∀ (cur : zI), zmf4 cur iv → (∀ b, b < t → cur 81 b = -1) → zJs X n 4 43 [some (.ref 41), some (.int rest), some (.int (nI t)), none] [] cur lw) : ∀ (N : Nat) (i : Nat) (cur : zI), i + N = t → zmf4 cur iv → (∀ b, b < i → cur 81 b = -1) → zJs X n 4 15 [some (.ref 41), some (.int rest), some (.int (nI i)), none] [] cur lw := by
  intro N
  induction N with
  | zero =>
    intro i cur hk2 hf hz
    refine z_iload_n C dX10_fewest_15 rfl ?_
    refine z_aload_n C dX10_fewest_16 rfl ?_
    refine z_getI C dX10_fewest_17 zf_X10_381 zk_41 (by decide) ?_
    refine zt_icmp_ge (tgt := 43) C dX10_fewest_20 (nI_toInt (by omega)) (zt_nI (show cur 41 53 = nI t by rw [hf 41 (by decide) (by decide) (by decide) (by decide)]; exact ht) (by omega)) (by decide) (fun q20 => ?_) (fun q20 => ?_)
    · have e4 : i = t := by omega
      subst e4
      exact K cur hf hz
    · exfalso; omega
  | succ N ih =>
    intro i cur hk2 hf hz
    refine z_iload_n C dX10_fewest_15 rfl ?_
    refine z_aload_n C dX10_fewest_16 rfl ?_
    refine z_getI C dX10_fewest_17 zf_X10_381 zk_41 (by decide) ?_
    refine zt_icmp_ge (tgt := 43) C dX10_fewest_20 (nI_toInt (by omega)) (zt_nI (show cur 41 53 = nI t by rw [hf 41 (by decide) (by decide) (by decide) (by decide)]; exact ht) (by omega)) (by decide) (fun q20 => ?_) (fun q20 => ?_)
    · exfalso; omega
    · refine z_aload_n C dX10_fewest_23 rfl ?_
      refine zs_getR C dX10_fewest_24 zf_X10_131 zk_41 (by decide) (zr_41_58 n) ?_
      refine z_iload_n C dX10_fewest_27 rfl ?_
      refine z_iconst (v := (-1)) C dX10_fewest_28 (by decide) ?_
      refine z_iast C dX10_fewest_29 zk_80 (by decide) ?_ ?_
      · exact vp_in_nI (by omega) (by decide)
      refine z_aload_n C dX10_fewest_30 rfl ?_
      refine zs_getR C dX10_fewest_31 zf_X10_134 zk_41 (by decide) (zr_41_59 n) ?_
      refine z_iload_n C dX10_fewest_34 rfl ?_
      refine z_iconst (v := (-1)) C dX10_fewest_35 (by decide) ?_
      refine z_iast C dX10_fewest_36 zk_81 (by decide) ?_ ?_
      · exact vp_in_nI (by omega) (by decide)
      refine z_iinc (y := 1) (lv' := [some (.ref 41), some (.int rest), some (.int _), none]) C dX10_fewest_37 rfl (by decide) (by decide) rfl ?_
      refine z_goto (tgt := 15) C dX10_fewest_40 (by decide) ?_
      rw [nI_1 i, nI_clamp (by omega)]
      refine ih (i + 1) _ (by omega) (fun c h1 h2 h3 h4 => by rw [zu_n _ _ _ h2, zu_n _ _ _ h1]; exact hf c h1 h2 h3 h4) (fun j hj => ?_)
      rw [zu_s]
      by_cases h : j = i
      · subst h; exact pk_us
      · rw [pk_un h]; exact hz j (by omega)

set_option maxHeartbeats 1000000 in
set_option maxRecDepth 4000 in
theorem lm_fw (n : Nat) (iv : zI) (lw : zG) (t : Nat) (ht : iv 41 53 = nI t) (ht2 : t ≤ 24) (rest : Int32) (hS : ∀ a, a < t → vp_in (iv 79 a) 8) {X : zX} (C : zC X cX10_fewest 4 RX10 (some .int) "fewest" 2 0 0) (E : zEnd X (91 + 3 * n) 0 0 (zQ n (zQw iv lw t rest))) : ∀ (N : Nat) (i : Nat) (cur : zI), i + N = t → zmf4 cur iv → zAB t (zmE iv rest) i (cur 80) (cur 81) → zms (zog (cur 81)) t ≤ i → zmax t (zmE iv rest) i (zms (zog (cur 81)) t) → zJs X n 4 47 [some (.ref 41), some (.int rest), some (.int (nI (zms (zog (cur 81)) t))), some (.int (nI i))] [] cur lw := by
  intro N
  induction N with
  | zero =>
    intro i cur hk2 hf hA hle hM
    have eE : zmE cur rest = zmE iv rest := by
      funext a b
      unfold zmE zbeh
      rw [hf 76 (by decide) (by decide) (by decide) (by decide), hf 77 (by decide) (by decide) (by decide) (by decide), hf 78 (by decide) (by decide) (by decide) (by decide), hf 79 (by decide) (by decide) (by decide) (by decide), hf 42 (by decide) (by decide) (by decide) (by decide), hf 43 (by decide) (by decide) (by decide) (by decide)]
    refine z_iload_n C dX10_fewest_47 rfl ?_
    refine z_aload_n C dX10_fewest_48 rfl ?_
    refine z_getI C dX10_fewest_49 zf_X10_381 zk_41 (by decide) ?_
    refine zt_icmp_ge (tgt := 78) C dX10_fewest_52 (nI_toInt (by omega)) (zt_nI (show cur 41 53 = nI t by rw [hf 41 (by decide) (by decide) (by decide) (by decide)]; exact ht) (by omega)) (by decide) (fun q52 => ?_) (fun q52 => ?_)
    · refine z_aload_n C dX10_fewest_78 rfl ?_
      refine z_getI C dX10_fewest_79 zf_X10_381 zk_41 (by decide) ?_
      refine z_iload_n C dX10_fewest_82 rfl ?_
      refine z_isub C dX10_fewest_83 ?_
      refine zs_qiret C E dX10_fewest_84 rfl ?_
      have e4 : i = t := by omega
      subst e4
      refine ⟨rfl, hf, zog (cur 81), hA.mt ht2 (by omega), hM, ?_⟩
      rw [show cur 41 53 = nI i by rw [hf 41 (by decide) (by decide) (by decide) (by decide)]; exact ht]
      have := zcn_all (fun b => (zog (cur 81) b).isSome) i
      have hms : zms (zog (cur 81)) i ≤ i := this
      congr 2
      apply Int32.toInt_inj.mp
      rw [Int32.toInt_sub, nI_toInt (by omega), nI_toInt (by omega), nI_toInt (by omega), Int.bmod_eq_of_le (by omega) (by omega)]
      omega
    · exfalso; omega
  | succ N ih =>
    intro i cur hk2 hf hA hle hM
    have eE : zmE cur rest = zmE iv rest := by
      funext a b
      unfold zmE zbeh
      rw [hf 76 (by decide) (by decide) (by decide) (by decide), hf 77 (by decide) (by decide) (by decide) (by decide), hf 78 (by decide) (by decide) (by decide) (by decide), hf 79 (by decide) (by decide) (by decide) (by decide), hf 42 (by decide) (by decide) (by decide) (by decide), hf 43 (by decide) (by decide) (by decide) (by decide)]
    refine z_iload_n C dX10_fewest_47 rfl ?_
    refine z_aload_n C dX10_fewest_48 rfl ?_
    refine z_getI C dX10_fewest_49 zf_X10_381 zk_41 (by decide) ?_
    refine zt_icmp_ge (tgt := 78) C dX10_fewest_52 (nI_toInt (by omega)) (zt_nI (show cur 41 53 = nI t by rw [hf 41 (by decide) (by decide) (by decide) (by decide)]; exact ht) (by omega)) (by decide) (fun q52 => ?_) (fun q52 => ?_)
    · exfalso; omega
    · refine z_iload_n C dX10_fewest_55 rfl ?_
      refine z_aload_n C dX10_fewest_56 rfl ?_
      refine z_iload_n C dX10_fewest_57 rfl ?_
      refine z_iload_n C dX10_fewest_58 rfl ?_
      refine zs_callVq C dX10_fewest_59 zm_X10_387 zyX10_joins (m_joins n cur _ t (by rw [hf 41 (by decide) (by decide) (by decide) (by decide)]; exact ht) ht2 rest (by rw [hf 79 (by decide) (by decide) (by decide) (by decide)]; exact hS) i (by omega) (by rw [eE]; exact hA) hle) zc_10 rfl zk_41 (by decide) (by decide) rfl rfl (Nat.le_of_ble_eq_true rfl) (by decide) (by decide) (fun v59 iv59 lw59 hq59 => ?_)
      obtain ⟨rfl, hf59, hq59⟩ := hq59
      rw [eE] at hq59
      have hg59 : zmf4 iv59 iv := fun q a b c d => (hf59 q a b c d).trans (hf q a b c d)
      rcases hq59 with ⟨rfl, hA2, b0, hb0, hB0, hB2⟩ | ⟨rfl, h80, h81, hmx⟩
      · have em := zog_up hb0 hB0 hB2
        refine z_if_eq (tgt := 69) C dX10_fewest_62 (by decide) (fun q62 => absurd q62 (by decide)) (fun q62 => ?_)
        refine z_iconst (v := 1) C dX10_fewest_65 (by decide) ?_
        refine z_goto (tgt := 70) C dX10_fewest_66 (by decide) ?_
        refine z_iadd C dX10_fewest_70 ?_
        rw [nI_1, ← em]
        refine z_istore_n (lv' := [some (.ref 41), some (.int _), some (.int _), some (.int _)]) C dX10_fewest_71 (by decide) rfl ?_
        refine z_iinc (y := 1) (lv' := [some (.ref 41), some (.int _), some (.int _), some (.int _)]) C dX10_fewest_72 rfl (by decide) (by decide) rfl ?_
        refine z_goto (tgt := 47) C dX10_fewest_75 (by decide) ?_
        rw [nI_1 i]
        exact ih (i + 1) iv59 (by omega) hg59 hA2 (by omega) (by rw [em]; exact zmax_more hM)
      have em : zms (zog (cur 81)) t = zms (zog (iv59 81)) t := by rw [h81]
      rw [em]
      refine z_if_eq (tgt := 69) C dX10_fewest_62 (by decide) (fun q62 => ?_) (fun q62 => ?_)
      · refine z_iconst (v := 0) C dX10_fewest_69 (by decide) ?_
        refine z_iadd C dX10_fewest_70 ?_
        refine z_istore_n (lv' := [some (.ref 41), some (.int rest), some (.int _), some (.int _)]) C dX10_fewest_71 (by decide) rfl ?_
        refine z_iinc (y := 1) (lv' := [some (.ref 41), some (.int rest), some (.int _), some (.int _)]) C dX10_fewest_72 rfl (by decide) (by decide) rfl ?_
        refine z_goto (tgt := 47) C dX10_fewest_75 (by decide) ?_
        rw [nI_1 i]
        have e0 : nI (zms (zog (iv59 81)) t) + 0 = nI (zms (zog (iv59 81)) t) := Int32.add_zero _
        rw [e0]
        exact ih (i + 1) iv59 (by omega) hg59 (by rw [h80, h81]; exact hA.mono) (by rw [← em]; omega) (by rw [← em]; exact hmx _ hM)
      · exact absurd q62 (by decide)

set_option maxRecDepth 4000 in
theorem m_fewest1 (n : Nat) (iv : zI) (lw : zG) (t : Nat) (ht : iv 41 53 = nI t) (ht2 : t ≤ 24) (rest : Int32) (hS : ∀ a, a < t → vp_in (iv 79 a) 8) (hr : 0 ≤ rest.toInt ∧ rest.toInt ≤ 10000) : zMs yX10_fewest cX10_fewest 4 (some .int) 2 [.ref 41, .int rest] n iv lw (zQw iv lw t rest) := by
  refine zM.of (by decide) (Nat.le_of_ble_eq_true rfl) (fun X C E => ?_)
  change zJs X n 4 0 [some (.ref 41), some (.int rest), none, none] [] iv lw
  refine z_iload_n C dX10_fewest_0 rfl ?_
  refine zt_if_lt (tgt := 11) C dX10_fewest_1 rfl (by decide) (fun q1 => ?_) (fun q1 => ?_)
  · exfalso; omega
  · refine z_iload_n C dX10_fewest_4 rfl ?_
    refine z_sipush (v := 10000) C dX10_fewest_5 (by decide) ?_
    refine zt_icmp_le (tgt := 13) C dX10_fewest_8 rfl (show (10000 : Int32).toInt = 10000 by decide) (by decide) (fun q8 => ?_) (fun q8 => ?_)
    · refine z_iconst (v := 0) C dX10_fewest_13 (by decide) ?_
      refine z_istore_n (lv' := [some (.ref 41), some (.int rest), some (.int _), none]) C dX10_fewest_14 (by decide) rfl ?_
      refine lm_fc n iv lw t ht ht2 rest hS (zC_le (by decide) C) (fun c1 f1 z1 => ?_) t 0 iv (by omega) (fun _ _ _ _ _ => rfl) (fun j hj => absurd hj (by omega))
      refine z_iconst (v := 0) C dX10_fewest_43 (by decide) ?_
      refine z_istore_n (lv' := [some (.ref 41), some (.int _), some (.int _), none]) C dX10_fewest_44 (by decide) rfl ?_
      refine z_iconst (v := 0) C dX10_fewest_45 (by decide) ?_
      refine z_istore_n (lv' := [some (.ref 41), some (.int _), some (.int _), some (.int _)]) C dX10_fewest_46 (by decide) rfl ?_
      have hA : zAB t (zmE iv rest) 0 (c1 80) (c1 81) := fun b hb => Or.inl (z1 b hb)
      have h0 : zms (zog (c1 81)) t = 0 := Nat.le_zero.mp (zmax_0 t (zmE iv rest) _ (hA.mt ht2 (by omega)))
      have e := lm_fw n iv lw t ht ht2 rest hS (zC_le (by decide) C) E t 0 c1 (by omega) f1 hA (by omega) (by rw [h0]; exact zmax_0 t _)
      rw [h0] at e
      exact e
    · exfalso; omega

set_option maxRecDepth 4000 in
theorem m_fewest0 (n : Nat) (iv : zI) (lw : zG) (rest : Int32) (hr : ¬ (0 ≤ rest.toInt ∧ rest.toInt ≤ 10000)) : zMi yX10_fewest cX10_fewest 4 (some .int) 2 [.ref 41, .int rest] n iv lw (-1) iv lw := by
  refine zM.of (by decide) (Nat.le_of_ble_eq_true rfl) (fun X C E => ?_)
  change zJs X n 4 0 [some (.ref 41), some (.int rest), none, none] [] iv lw
  refine z_iload_n C dX10_fewest_0 rfl ?_
  refine zt_if_lt (tgt := 11) C dX10_fewest_1 rfl (by decide) (fun q1 => ?_) (fun q1 => ?_)
  · refine z_iconst (v := (-1)) C dX10_fewest_11 (by decide) ?_
    refine zs_iret C E dX10_fewest_12 rfl ?_ ?_ ?_
    · rfl
    · rfl
    · rfl
  · refine z_iload_n C dX10_fewest_4 rfl ?_
    refine z_sipush (v := 10000) C dX10_fewest_5 (by decide) ?_
    refine zt_icmp_le (tgt := 13) C dX10_fewest_8 rfl (show (10000 : Int32).toInt = 10000 by decide) (by decide) (fun q8 => ?_) (fun q8 => ?_)
    · exfalso; omega
    · refine z_iconst (v := (-1)) C dX10_fewest_11 (by decide) ?_
      refine zs_iret C E dX10_fewest_12 rfl ?_ ?_ ?_
      · rfl
      · rfl
      · rfl
