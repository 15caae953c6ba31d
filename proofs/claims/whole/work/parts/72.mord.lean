/-! the reference's orders: how it stands before a line, and behind the last -/
def zdc (κ : Int32) : Int32 := if κ = 202 then 0 else if κ = 203 then 1 else 2
def zcat (pre : zLi) : zFa ⊕ zLi → zFa ⊕ zLi
  | .inl f => .inl f
  | .inr ls => .inr (pre ++ ls)
theorem zcat_con (pre : zLi) (x : List Int32 × Int32) : ∀ o, zcat pre (zcon x o) = zcat (pre ++ [x]) o
  | .inl f => rfl
  | .inr ls => by
    show Sum.inr (pre ++ x :: ls) = Sum.inr (pre ++ [x] ++ ls)
    rw [List.append_assoc]
    rfl
def zOf (iv0 iv : zI) : Prop := (∀ q, q ≠ 41 → (q < 68 ∨ 73 < q) → iv q = iv0 q) ∧ (∀ j, (j < 35 ∨ 37 < j) → (j < 40 ∨ 46 < j) → (j < 49 ∨ 50 < j) → iv 41 j = iv0 41 j) ∧ iv 72 = iv0 72 ∧ iv 41 43 = iv0 41 43
section ZF
variable {iv0 iv iv2 : zI} {b : Nat} {B : Nat → Int32} {s i : Nat} {lw lw2 : zG}
theorem zOf.rf (u : zI) : zOf u u := ⟨fun _ _ _ => rfl, fun _ _ _ _ => rfl, rfl, rfl⟩
theorem zOf.fe (h : zOf iv0 iv) (hf : zfe b iv2 iv) : zOf iv0 iv2 := ⟨fun q a1 a2 => (hf.1 q a1 (by omega) (by omega) (by omega)).trans (h.1 q a1 a2), fun j a1 a2 a3 => (hf.2.1 j (by omega) (by omega) (by omega) (by omega) (by omega) (by omega) (by omega) (by omega) (by omega) (by omega)).trans (h.2.1 j a1 a2 a3), (hf.1 72 (by decide) (by decide) (by decide) (by decide)).trans h.2.2.1, (hf.2.1 43 (by decide) (by decide) (by decide) (by decide) (by decide) (by decide) (by decide) (by decide) (by decide) (by decide)).trans h.2.2.2⟩
theorem zOf.mx (h : zOf iv0 iv) (hx : zMx B s i iv iv2 lw2) : zOf iv0 iv2 := ⟨fun q a1 a2 => (hx.1 q a1).trans (h.1 q a1 a2), fun j a1 a2 a3 => (hx.2.1 j (by omega) (by omega) (by omega) (by omega)).trans (h.2.1 j a1 a2 a3), (hx.1 72 (by decide)).trans h.2.2.1, (hx.2.1 43 (by decide) (by decide) (by decide) (by decide)).trans h.2.2.2⟩
theorem zOf.up (h : zOf iv0 iv) (c j : Nat) (x : Int32) (hc : c = 70 ∨ c = 71) : zOf iv0 (zu iv c j x) := ⟨fun q a1 a2 => (zu_n _ _ _ (by omega)).trans (h.1 q a1 a2), fun j2 a1 a2 a3 => by rw [zu_n _ _ _ (by omega)]; exact h.2.1 j2 a1 a2 a3, (zu_n _ _ _ (by omega)).trans h.2.2.1, by rw [zu_n _ _ _ (by omega)]; exact h.2.2.2⟩
theorem zOf.u41 (h : zOf iv0 iv) (j : Nat) (x : Int32) (hc : j = 35 ∨ j = 40 ∨ j = 41) : zOf iv0 (zu iv 41 j x) := ⟨fun q a1 a2 => (zu_n _ _ _ a1).trans (h.1 q a1 a2), fun j2 a1 a2 a3 => by rw [zu_s, pk_un (by omega)]; exact h.2.1 j2 a1 a2 a3, h.2.2.1, by rw [zu_s, pk_un (by omega)]; exact h.2.2.2⟩
theorem zOf.st (h : zOf iv0 iv) (hS : zSt iv0 B s) : zSt iv B s := ⟨h.2.2.2.trans hS.1, hS.2.1, by rw [h.2.2.1]; exact hS.2.2⟩
end ZF
def zDa (iv : zI) (pre : zLi) : Prop := iv 41 35 = nI pre.length ∧ (∀ j, j < (zfl pre).length → iv 68 j = zsc ((zfl pre).getD j 0) ∧ (1000 ≤ ((zfl pre).getD j 0).toInt → iv 69 j = (zfl pre).getD j 0 - 1000)) ∧ ∀ l, l < pre.length → iv 70 l = nI (zfl (pre.take l)).length ∧ iv 71 l = zdc (pre.getD l ([], 0)).2
theorem zDa.app {A A8 : zI} {pre : zLi} {P : List Int32} {κ : Int32} (h : zDa A pre) (e68 : ∀ j, j < (zfl pre).length → A8 68 j = A 68 j ∧ A8 69 j = A 69 j) (eP : ∀ j, j < P.length → A8 68 ((zfl pre).length + j) = zsc (P.reverse.getD j 0) ∧ (1000 ≤ (P.reverse.getD j 0).toInt → A8 69 ((zfl pre).length + j) = P.reverse.getD j 0 - 1000)) (e70 : A8 70 = upd (A 70) pre.length (nI (zfl pre).length)) (e71 : A8 71 = upd (A 71) pre.length (zdc κ)) (e35 : A8 41 35 = nI (pre.length + 1)) : zDa A8 (pre ++ [(P, κ)]) := by
  obtain ⟨h1, h2, h3⟩ := h
  have hfl : (zfl (pre ++ [(P, κ)])).length = (zfl pre).length + P.length := by rw [zfl_app, zfl_one, List.length_append, List.length_reverse]
  refine ⟨by rw [e35, List.length_append]; rfl, fun x hx => ?_, fun l hl => ?_⟩
  · rw [hfl] at hx
    rw [zfl_app, zfl_one, List.getD_eq_getElem?_getD, List.getElem?_append]
    by_cases c : x < (zfl pre).length
    · rw [if_pos c, (e68 x c).1, (e68 x c).2, ← List.getD_eq_getElem?_getD]
      exact h2 x c
    · rw [if_neg c, ← List.getD_eq_getElem?_getD]
      have := eP (x - (zfl pre).length) (by omega)
      rw [show (zfl pre).length + (x - (zfl pre).length) = x by omega] at this
      exact this
  · rw [List.length_append] at hl
    have hl : l < pre.length + 1 := hl
    rw [e70, e71]
    by_cases c : l = pre.length
    · subst c
      rw [pk_us, pk_us, List.take_append_of_le_length (Nat.le_refl _), List.take_of_length_le (Nat.le_refl _), List.getD_eq_getElem?_getD, List.getElem?_append_right (Nat.le_refl _), Nat.sub_self]
      exact ⟨rfl, rfl⟩
    · rw [pk_un c, pk_un c, List.take_append_of_le_length (by omega), List.getD_eq_getElem?_getD, List.getElem?_append_left (by omega), ← List.getD_eq_getElem?_getD]
      exact h3 l (by omega)
/-- before a line -/
def zOh (iv0 : zI) (B : Nat → Int32) (s : Nat) (pre : zLi) (i v : Nat) (iv : zI) (lw : zG) : Prop := zOf iv0 iv ∧ iv 41 40 = 0 ∧ iv 41 41 = -1 ∧ iv 41 37 = nI v ∧ iv 41 36 = nI (zfl pre).length ∧ zDa iv pre ∧ zMt B s i iv lw
def zHv (B : Nat → Int32) (s : Nat) (pre : zLi) (i v : Nat) : Prop := v ≤ 100 ∧ (∃ n0, (zfl pre).length ≤ 2 * v + n0 ∧ n0 ≤ zNN (zkn (zT B s) s) i) ∧ (∀ j, j < i → ¬ zls (zT B s) s j) ∧ pre.length ≤ 10
theorem zHv.len {B : Nat → Int32} {s : Nat} {pre : zLi} {i v : Nat} (h : zHv B s pre i v) (hs : s ≤ 800) : (zfl pre).length ≤ 400 := by
  obtain ⟨h1, ⟨n0, h2, h3⟩, h4, -⟩ := h
  have := zNN_200 hs h4
  omega
theorem zHv.jv {B : Nat → Int32} {s : Nat} {pre : zLi} {i v : Nat} (h : zHv B s pre i v) (hk : zkn (zT B s) s i = 200) : ∃ n0, zJv B s (zfl pre).length v n0 (0, i + 1, [], [], v) := by
  obtain ⟨h1, ⟨n0, h2, h3⟩, h4, -⟩ := h
  refine ⟨n0, ⟨⟨Nat.le_refl _, h1⟩, by simp [zoc], rfl, ?_, h2, fun w hw => absurd hw (by simp), by simp [zdeep]⟩, by simp, fun j hj => ?_⟩
  · show 0 + 0 + n0 ≤ zNN _ (i + 1)
    have := zNN_s (zkn (zT B s) s) i
    omega
  · have hj : j < i + 1 := hj
    by_cases c : j = i
    · subst c
      intro z
      unfold zls at z
      rw [hk] at z
      exact absurd z (by decide)
    · exact h4 j (by omega)
theorem zJv.rch {B : Nat → Int32} {s b v0 n0 : Nat} : ∀ {m : Nat} {c c' : zCf}, zJv B s b v0 n0 c → zrch (zkn (zT B s) s) m c c' → zJv B s b v0 n0 c'
  | 0, c, c', h, e => by
    have e : c = c' := e
    subst e
    exact h
  | m + 1, c, c', h, ⟨_, c1, e1, e2⟩ => zJv.rch (h.nx e1).1 e2
theorem zHv.nx {B : Nat → Int32} {s : Nat} {pre : zLi} {i v n0 m j v2 : Nat} {t : List Nat} {P0 : List Int32} (hl : pre.length < 10) (hJ : zJv B s (zfl pre).length v n0 (0, i + 1, [], [], v)) (hr : zrch (zkn (zT B s) s) m (0, i + 1, [], [], v) (2, j, t, P0, v2)) (hst : zstop (zkn (zT B s) s) (2, j, t, P0, v2)) (h1 : zordk (zkn (zT B s) s (j + 1))) (h2 : zkn (zT B s) s (j + 2) = 59) : zHv B s (pre ++ [(zflu t P0, zkn (zT B s) s (j + 1))]) (j + 3) v2 := by
  obtain ⟨g, -, gl⟩ := hJ.rch hr
  have hlen := g.len
  obtain ⟨⟨g1, g2⟩, g3, g4, g5, g6, g7, g8⟩ := g
  simp only at g1 g2 gl
  have ht48 : ∀ w, w ∈ t → w ≠ 48 := fun w hw z => hst.2.2 (z ▸ hw)
  have htl := zbn_len t ht48
  have hfl : (zfl (pre ++ [(zflu t P0, zkn (zT B s) s (j + 1))])).length = (zfl pre).length + (t.length + P0.length) := by rw [zfl_app, zfl_one, List.length_append, List.length_reverse, zflu_len]
  refine ⟨g2, ⟨zNN (zkn (zT B s) s) j, by rw [hfl]; omega, zNN_m 3⟩, fun x hx => ?_, by rw [List.length_append]; show pre.length + 1 ≤ 10; omega⟩
  have hx4 : x < j ∨ x = j ∨ x = j + 1 ∨ x = j + 2 := by omega
  rcases hx4 with z | z | z | z
  · exact gl x z
  · subst z
    intro z
    have := hst.2.1
    simp only at this
    unfold zls at z
    rw [this] at z
    exact absurd z (by decide)
  · subst z
    intro z
    unfold zls at z
    rcases h1 with e | e | e <;> rw [e] at z <;> exact absurd z (by decide)
  · subst z
    intro z
    unfold zls at z
    rw [h2] at z
    exact absurd z (by decide)
/-- the reference's orders, as they are followed -/
def zDm (iv : zI) (ls : zLi) : Prop := iv 41 30 = nI ls.length ∧ (∀ j, j < (zfl ls).length → iv 64 j = zsc ((zfl ls).getD j 0) ∧ (1000 ≤ ((zfl ls).getD j 0).toInt → iv 65 j = (zfl ls).getD j 0 - 1000)) ∧ (∀ l, l < ls.length → iv 67 l = zdc (ls.getD l ([], 0)).2) ∧ ∀ l, l ≤ ls.length → iv 66 l = nI (zfl (ls.take l)).length
def zMo (iv0 : zI) (pl : Nat → Nat) (r : zFa ⊕ zLi) (vr : Option Value) (iv2 : zI) : Prop := (∀ q, q ≠ 41 → (q < 64 ∨ 73 < q) → iv2 q = iv0 q) ∧ (∀ j, j ≠ 30 → (j < 35 ∨ 37 < j) → (j < 40 ∨ 46 < j) → (j < 49 ∨ 50 < j) → iv2 41 j = iv0 41 j) ∧ iv2 72 = iv0 72 ∧ match r with
  | .inl f => vr = some (.int (-1)) ∧ iv2 41 40 = f.1 ∧ iv2 41 41 = nI (pl f.2) ∧ iv2 41 30 = iv0 41 30 ∧ iv2 64 = iv0 64 ∧ iv2 65 = iv0 65 ∧ iv2 66 = iv0 66 ∧ iv2 67 = iv0 67
  | .inr ls => vr = some (.int (nI ls.length)) ∧ iv2 41 40 = 0 ∧ iv2 41 41 = -1 ∧ zDm iv2 ls
theorem zOf.mo {iv0 iv : zI} (h : zOf iv0 iv) {pl : Nat → Nat} {f : zFa} (h1 : iv 41 40 = f.1) (h2 : iv 41 41 = nI (pl f.2)) : zMo iv0 pl (.inl f) (some (.int (-1))) iv := ⟨fun q a1 a2 => h.1 q a1 (by omega), fun j _ a1 a2 a3 => h.2.1 j a1 a2 a3, h.2.2.1, rfl, h1, h2, h.2.1 30 (by decide) (by decide) (by decide), h.1 64 (by decide) (by decide), h.1 65 (by decide) (by decide), h.1 66 (by decide) (by decide), h.1 67 (by decide) (by decide)⟩
theorem zOf.wr {iv0 iv : zI} (h : zOf iv0 iv) {B : Nat → Int32} {s i : Nat} {lw : zG} (hT : zMt B s i iv lw) : zMo iv0 (zpl (zT B s) s) (.inl (zbad (zkn (zT B s) s i) i)) (some (.int (-1))) (zu (zu iv 41 40 (if iv 41 44 = 3 then 1 else 2)) 41 41 (iv 41 45)) := by
  refine ((h.u41 40 _ (by decide)).u41 41 _ (by decide)).mo ?_ ?_
  · rw [zu_s, pk_un (by decide), zu_ss]
    show (if iv 41 44 = 3 then (1 : Int32) else 2) = if zkn (zT B s) s i = 2 then 1 else 2
    by_cases c : zkn (zT B s) s i = 2
    · rw [if_pos c, if_pos (hT.2.1.s3.mpr c)]
    · rw [if_neg c, if_neg (fun z => c (hT.2.1.s3.mp z))]
  · rw [zu_ss]; exact hT.1
theorem zwrp {iv : zI} : 0 < (zu (zu iv 41 40 (if iv 41 44 = 3 then 1 else 2)) 41 41 (iv 41 45) 41 40).toInt := by
  rw [zu_s, pk_un (by decide), zu_ss]
  split <;> decide
/-! behind the last line -/
def zcp3 (u : zI) (m d a : Nat) (cur : zI) : Prop := (∀ q, (q < 64 ∨ 67 < q) → cur q = u q) ∧ (∀ j, j < m → cur 64 j = u 68 j ∧ cur 65 j = u 69 j) ∧ (∀ j, j < d → cur 67 j = u 71 j) ∧ ∀ j, j < a → cur 66 j = u 70 j
section ZC3
variable {u cur : zI} {m d a : Nat}
theorem zcp3.s1 (h : zcp3 u m 0 0 cur) : zcp3 u (m + 1) 0 0 (zu (zu cur 64 m (cur 68 m)) 65 m (zu cur 64 m (cur 68 m) 69 m)) := by
  obtain ⟨h1, h2, h3, h4⟩ := h
  refine ⟨fun q hq => by rw [zu_n _ _ _ (by omega), zu_n _ _ _ (by omega)]; exact h1 q hq, fun j hj => ?_, fun j hj => absurd hj (by omega), fun j hj => absurd hj (by omega)⟩
  rw [zu_n (c := 64) _ _ _ (by decide), zu_s, zu_s, zu_n (c := 69) _ _ _ (by decide), zu_n (c := 65) _ _ _ (by decide), h1 68 (by decide), h1 69 (by decide)]
  by_cases c : j = m
  · subst c
    exact ⟨pk_us, pk_us⟩
  · rw [pk_un c, pk_un c]
    exact h2 j (by omega)
theorem zcp3.s2 (h : zcp3 u m d 0 cur) : zcp3 u m (d + 1) 0 (zu cur 67 d (cur 71 d)) := by
  obtain ⟨h1, h2, h3, h4⟩ := h
  refine ⟨fun q hq => by rw [zu_n _ _ _ (by omega)]; exact h1 q hq, h2, fun j hj => ?_, fun j hj => absurd hj (by omega)⟩
  rw [zu_s, h1 71 (by decide)]
  by_cases c : j = d
  · subst c
    exact pk_us
  · rw [pk_un c]
    exact h3 j (by omega)
theorem zcp3.s3 (h : zcp3 u m d a cur) : zcp3 u m d (a + 1) (zu cur 66 a (cur 70 a)) := by
  obtain ⟨h1, h2, h3, h4⟩ := h
  refine ⟨fun q hq => by rw [zu_n _ _ _ (by omega)]; exact h1 q hq, h2, h3, fun j hj => ?_⟩
  rw [zu_s, h1 70 (by decide)]
  by_cases c : j = a
  · subst c
    exact pk_us
  · rw [pk_un c]
    exact h4 j (by omega)
end ZC3

set_option maxRecDepth 4000 in
theorem lm_o3 (n : Nat) (lw : zG) (u : zI) (M T : Nat) (hM : u 41 36 = nI M) (hM4 : M ≤ 400) (hT : u 41 35 = nI T) (hT10 : T ≤ 10) (Q0 : Option Value → zI → zG → Prop) (hQ : ∀ cur, zcp3 u M T (T + 1) cur → Q0 (some (.int (nI T))) (zu cur 41 30 (nI T)) lw) {X : zX} (C : zC X cX10_orders 2 RX10 (some .int) "orders" 0 0 0) (E : zEnd X (91 + 3 * n) 0 0 (zQ n Q0)) : ∀ (k : Nat) (l : Nat) (cur : zI), l + k = T + 1 → zcp3 u M T l cur → zJs X n 2 356 [some (.ref 41), some (.int (nI l))] [] cur lw := by
  intro k
  induction k with
  | zero =>
    intro l cur hk hc
    refine z_iload_n C dX10_orders_356 rfl ?_
    refine z_aload_n C dX10_orders_357 rfl ?_
    refine z_getI C dX10_orders_358 zf_X10_342 zk_41 (by decide) ?_
    refine zt_icmp_gt (tgt := 382) C dX10_orders_361 (nI_toInt (by omega)) (zt_nI (by rw [hc.1 41 (by decide)]; exact hT) (by omega)) (by decide) (fun q361 => ?_) (fun q361 => ?_)
    · refine z_aload_n C dX10_orders_382 rfl ?_
      refine z_aload_n C dX10_orders_383 rfl ?_
      refine z_getI C dX10_orders_384 zf_X10_342 zk_41 (by decide) ?_
      rw [hc.1 41 (by decide), hT]
      refine z_putI C dX10_orders_387 zf_X10_348 zk_41 (by decide) ?_
      refine z_aload_n C dX10_orders_390 rfl ?_
      refine z_getI C dX10_orders_391 zf_X10_348 zk_41 (by decide) ?_
      rw [zu_ss]
      refine zs_qiret C E dX10_orders_394 rfl ?_
      rw [show l = T + 1 by omega] at hc
      exact hQ cur hc
    · exfalso; omega
  | succ k ih =>
    intro l cur hk hc
    refine z_iload_n C dX10_orders_356 rfl ?_
    refine z_aload_n C dX10_orders_357 rfl ?_
    refine z_getI C dX10_orders_358 zf_X10_342 zk_41 (by decide) ?_
    refine zt_icmp_gt (tgt := 382) C dX10_orders_361 (nI_toInt (by omega)) (zt_nI (by rw [hc.1 41 (by decide)]; exact hT) (by omega)) (by decide) (fun q361 => ?_) (fun q361 => ?_)
    · exfalso; omega
    · refine z_aload_n C dX10_orders_364 rfl ?_
      refine zs_getR C dX10_orders_365 zf_X10_86 zk_41 (by decide) (zr_41_28 n) ?_
      refine z_iload_n C dX10_orders_368 rfl ?_
      refine z_aload_n C dX10_orders_369 rfl ?_
      refine zs_getR C dX10_orders_370 zf_X10_98 zk_41 (by decide) (zr_41_33 n) ?_
      refine z_iload_n C dX10_orders_373 rfl ?_
      refine z_iald C dX10_orders_374 zk_70 (by decide) ?_ ?_
      · exact vp_in_nI (by omega) (by decide)
      refine z_iast C dX10_orders_375 zk_66 (by decide) ?_ ?_
      · exact vp_in_nI (by omega) (by decide)
      refine z_iinc (y := 1) (lv' := [some (.ref 41), some (.int _)]) C dX10_orders_376 rfl (by decide) (by decide) rfl ?_
      refine z_goto (tgt := 356) C dX10_orders_379 (by decide) ?_
      rw [nI_1 l]
      simp only [nI_clamp (show l < 2 ^ 31 by omega)]
      exact ih (l + 1) _ (by omega) hc.s3

set_option maxRecDepth 4000 in
theorem lm_o2 (n : Nat) (lw : zG) (u : zI) (M T : Nat) (hM : u 41 36 = nI M) (hM4 : M ≤ 400) (hT : u 41 35 = nI T) (hT10 : T ≤ 10) (Q0 : Option Value → zI → zG → Prop) (hQ : ∀ cur, zcp3 u M T (T + 1) cur → Q0 (some (.int (nI T))) (zu cur 41 30 (nI T)) lw) {X : zX} (C : zC X cX10_orders 2 RX10 (some .int) "orders" 0 0 0) (E : zEnd X (91 + 3 * n) 0 0 (zQ n Q0)) : ∀ (k : Nat) (l : Nat) (cur : zI), l + k = T → zcp3 u M l 0 cur → zJs X n 2 328 [some (.ref 41), some (.int (nI l))] [] cur lw := by
  intro k
  induction k with
  | zero =>
    intro l cur hk hc
    refine z_iload_n C dX10_orders_328 rfl ?_
    refine z_aload_n C dX10_orders_329 rfl ?_
    refine z_getI C dX10_orders_330 zf_X10_342 zk_41 (by decide) ?_
    refine zt_icmp_ge (tgt := 354) C dX10_orders_333 (nI_toInt (by omega)) (zt_nI (by rw [hc.1 41 (by decide)]; exact hT) (by omega)) (by decide) (fun q333 => ?_) (fun q333 => ?_)
    · refine z_iconst (v := 0) C dX10_orders_354 (by decide) ?_
      refine z_istore_n (lv' := [some (.ref 41), some (.int _)]) C dX10_orders_355 (by decide) rfl ?_
      rw [show l = T by omega] at hc
      exact lm_o3 n lw u M T hM hM4 hT hT10 Q0 hQ C E (T + 1) 0 cur (by omega) hc
    · exfalso; omega
  | succ k ih =>
    intro l cur hk hc
    refine z_iload_n C dX10_orders_328 rfl ?_
    refine z_aload_n C dX10_orders_329 rfl ?_
    refine z_getI C dX10_orders_330 zf_X10_342 zk_41 (by decide) ?_
    refine zt_icmp_ge (tgt := 354) C dX10_orders_333 (nI_toInt (by omega)) (zt_nI (by rw [hc.1 41 (by decide)]; exact hT) (by omega)) (by decide) (fun q333 => ?_) (fun q333 => ?_)
    · exfalso; omega
    · refine z_aload_n C dX10_orders_336 rfl ?_
      refine zs_getR C dX10_orders_337 zf_X10_89 zk_41 (by decide) (zr_41_29 n) ?_
      refine z_iload_n C dX10_orders_340 rfl ?_
      refine z_aload_n C dX10_orders_341 rfl ?_
      refine zs_getR C dX10_orders_342 zf_X10_101 zk_41 (by decide) (zr_41_34 n) ?_
      refine z_iload_n C dX10_orders_345 rfl ?_
      refine z_iald C dX10_orders_346 zk_71 (by decide) ?_ ?_
      · exact vp_in_nI (by omega) (by decide)
      refine z_iast C dX10_orders_347 zk_67 (by decide) ?_ ?_
      · exact vp_in_nI (by omega) (by decide)
      refine z_iinc (y := 1) (lv' := [some (.ref 41), some (.int _)]) C dX10_orders_348 rfl (by decide) (by decide) rfl ?_
      refine z_goto (tgt := 328) C dX10_orders_351 (by decide) ?_
      rw [nI_1 l]
      simp only [nI_clamp (show l < 2 ^ 31 by omega)]
      exact ih (l + 1) _ (by omega) hc.s2

set_option maxRecDepth 4000 in
theorem lm_o1 (n : Nat) (lw : zG) (u : zI) (M T : Nat) (hM : u 41 36 = nI M) (hM4 : M ≤ 400) (hT : u 41 35 = nI T) (hT10 : T ≤ 10) (Q0 : Option Value → zI → zG → Prop) (hQ : ∀ cur, zcp3 u M T (T + 1) cur → Q0 (some (.int (nI T))) (zu cur 41 30 (nI T)) lw) {X : zX} (C : zC X cX10_orders 2 RX10 (some .int) "orders" 0 0 0) (E : zEnd X (91 + 3 * n) 0 0 (zQ n Q0)) : ∀ (k : Nat) (l : Nat) (cur : zI), l + k = M → zcp3 u l 0 0 cur → zJs X n 2 288 [some (.ref 41), some (.int (nI l))] [] cur lw := by
  intro k
  induction k with
  | zero =>
    intro l cur hk hc
    refine z_iload_n C dX10_orders_288 rfl ?_
    refine z_aload_n C dX10_orders_289 rfl ?_
    refine z_getI C dX10_orders_290 zf_X10_289 zk_41 (by decide) ?_
    refine zt_icmp_ge (tgt := 326) C dX10_orders_293 (nI_toInt (by omega)) (zt_nI (by rw [hc.1 41 (by decide)]; exact hM) (by omega)) (by decide) (fun q293 => ?_) (fun q293 => ?_)
    · refine z_iconst (v := 0) C dX10_orders_326 (by decide) ?_
      refine z_istore_n (lv' := [some (.ref 41), some (.int _)]) C dX10_orders_327 (by decide) rfl ?_
      rw [show l = M by omega] at hc
      exact lm_o2 n lw u M T hM hM4 hT hT10 Q0 hQ C E T 0 cur (by omega) hc
    · exfalso; omega
  | succ k ih =>
    intro l cur hk hc
    refine z_iload_n C dX10_orders_288 rfl ?_
    refine z_aload_n C dX10_orders_289 rfl ?_
    refine z_getI C dX10_orders_290 zf_X10_289 zk_41 (by decide) ?_
    refine zt_icmp_ge (tgt := 326) C dX10_orders_293 (nI_toInt (by omega)) (zt_nI (by rw [hc.1 41 (by decide)]; exact hM) (by omega)) (by decide) (fun q293 => ?_) (fun q293 => ?_)
    · exfalso; omega
    · refine z_aload_n C dX10_orders_296 rfl ?_
      refine zs_getR C dX10_orders_297 zf_X10_80 zk_41 (by decide) (zr_41_26 n) ?_
      refine z_iload_n C dX10_orders_300 rfl ?_
      refine z_aload_n C dX10_orders_301 rfl ?_
      refine zs_getR C dX10_orders_302 zf_X10_92 zk_41 (by decide) (zr_41_31 n) ?_
      refine z_iload_n C dX10_orders_305 rfl ?_
      refine z_iald C dX10_orders_306 zk_68 (by decide) ?_ ?_
      · exact vp_in_nI (by omega) (by decide)
      refine z_iast C dX10_orders_307 zk_64 (by decide) ?_ ?_
      · exact vp_in_nI (by omega) (by decide)
      refine z_aload_n C dX10_orders_308 rfl ?_
      refine zs_getR C dX10_orders_309 zf_X10_83 zk_41 (by decide) (zr_41_27 n) ?_
      refine z_iload_n C dX10_orders_312 rfl ?_
      refine z_aload_n C dX10_orders_313 rfl ?_
      refine zs_getR C dX10_orders_314 zf_X10_95 zk_41 (by decide) (zr_41_32 n) ?_
      refine z_iload_n C dX10_orders_317 rfl ?_
      refine z_iald C dX10_orders_318 zk_69 (by decide) ?_ ?_
      · exact vp_in_nI (by omega) (by decide)
      refine z_iast C dX10_orders_319 zk_65 (by decide) ?_ ?_
      · exact vp_in_nI (by omega) (by decide)
      refine z_iinc (y := 1) (lv' := [some (.ref 41), some (.int _)]) C dX10_orders_320 rfl (by decide) (by decide) rfl ?_
      refine z_goto (tgt := 288) C dX10_orders_323 (by decide) ?_
      rw [nI_1 l]
      simp only [nI_clamp (show l < 2 ^ 31 by omega)]
      exact ih (l + 1) _ (by omega) hc.s1
