/-! the whole relation, and a call on either side -/
def zRp (iv : zI) : Prop := ∃ s : Nat, iv 12 1 = nI s ∧ iv 41 39 = nI s ∧ s ≤ 800 ∧ zBU (iv 13) (iv 72)
def zRf (iv : zI) : Prop := iv 41 40 = iv 14 5 ∧ iv 41 41 = iv 14 6
def zRq (iv : zI) : Prop := ∃ t : Nat, iv 29 0 = nI t ∧ iv 41 53 = nI t ∧ t ≤ 24 ∧ ∀ k, k < t → (iv 79 k = iv 30 k ∧ (0 ≤ (iv 30 k).toInt ∧ (iv 30 k).toInt < (iv 1 0).toInt - 1)) ∧ (iv 78 k = iv 31 k ∧ (0 ≤ (iv 31 k).toInt ∧ (iv 31 k).toInt ≤ 10000)) ∧ iv 76 k = (if iv 32 k = 0 then iv 30 k + 1 else iv 30 k) ∧ iv 77 k = (if iv 32 k = 0 then iv 30 k else iv 30 k + 1)
def zRb (iv : zI) : Prop := ∃ b : Nat, iv 35 0 = nI b ∧ iv 41 62 = nI b ∧ b ≤ 100 ∧ (∀ k, k < b → iv 84 k = iv 36 k ∧ iv 37 k = zlo (iv 85 k) (iv 86 k) ∧ iv 38 k = zhi (iv 85 k) (iv 86 k) ∧ iv 87 k = iv 39 k ∧ ((iv 40 k = -1 ∧ iv 89 k = 0) ∨ (iv 89 k = 1 ∧ iv 88 k = iv 40 k ∧ 0 ≤ (iv 40 k).toInt))) ∧ ∀ k, b ≤ k → iv 89 k = 0
def zRz (n : Nat) (iv : zI) : Prop := ∀ i, n ≤ i → iv 60 i = 0 ∧ iv 61 i = 0 ∧ ∀ p, p < 5 → iv 62 (5 * i + p) = 0 ∧ iv 63 (5 * i + p) = 0
def zRk (n c : Nat) (iv : zI) : Prop := iv 41 11 = nI n ∧ (iv 0 10).toInt ≤ 1500 * c ∧ zRz n iv
def zRw (n c : Nat) (iv : zI) : Prop := ∃ t ls, zSim n t ls iv iv ∧ zRk n c iv ∧ zRp iv ∧ zRf iv ∧ zRq iv ∧ zRb iv
def zFr (S S41 : List Nat) (iv iv2 : zI) : Prop := (∀ q, q ≠ 41 → ¬ q ∈ S → iv2 q = iv q) ∧ ∀ j, ¬ j ∈ S41 → iv2 41 j = iv 41 j
section ZFR
variable {S S41 : List Nat} {iv iv2 : zI}
theorem zFr.rf (S S41 : List Nat) (iv : zI) : zFr S S41 iv iv := ⟨fun _ _ _ => rfl, fun _ _ => rfl⟩
theorem zFr.u (h : zFr S S41 iv iv2) (k j : Nat) (x : Int32) (hk : k ∈ S) (h41 : k ≠ 41) : zFr S S41 iv (zu iv2 k j x) := ⟨fun q a b => by rw [zu_n _ _ _ (show q ≠ k from fun z => b (z ▸ hk))]; exact h.1 q a b, fun j2 a => by rw [zu_n _ _ _ (Ne.symm h41)]; exact h.2 j2 a⟩
theorem zFr.u41 (h : zFr S S41 iv iv2) (j : Nat) (x : Int32) (hj : j ∈ S41) : zFr S S41 iv (zu iv2 41 j x) := ⟨fun q a b => by rw [zu_n _ _ _ a]; exact h.1 q a b, fun j2 a => by rw [zu_s, pk_un (show j2 ≠ j from fun z => a (z ▸ hj))]; exact h.2 j2 a⟩
theorem zall {S : List Nat} {p : Nat → Bool} (h : S.all p = true) {q : Nat} (hq : p q = false) : ¬ q ∈ S := fun z => by
  have := List.all_eq_true.mp h q z
  rw [hq] at this
  exact absurd this (by decide)
theorem zFr.p (hf : zFr S S41 iv iv2) (h : zRp iv) (hS : S.all (fun q => !(q == 12 || q == 13 || q == 72)) = true) (h41 : S41.all (fun j => !(j == 39)) = true) : zRp iv2 := by
  unfold zRp
  rw [hf.1 12 (by decide) (zall hS rfl), hf.1 13 (by decide) (zall hS rfl), hf.1 72 (by decide) (zall hS rfl), hf.2 39 (zall h41 rfl)]
  exact h
theorem zFr.f (hf : zFr S S41 iv iv2) (h : zRf iv) (hS : S.all (fun q => !(q == 14)) = true) (h41 : S41.all (fun j => !(j == 40 || j == 41)) = true) : zRf iv2 := by
  unfold zRf
  rw [hf.1 14 (by decide) (zall hS rfl), hf.2 40 (zall h41 rfl), hf.2 41 (zall h41 rfl)]
  exact h
theorem zFr.q (hf : zFr S S41 iv iv2) (h : zRq iv) (hS : S.all (fun q => !(q == 1 || q == 29 || q == 30 || q == 31 || q == 32 || q == 76 || q == 77 || q == 78 || q == 79)) = true) (h41 : S41.all (fun j => !(j == 53)) = true) : zRq iv2 := by
  unfold zRq
  rw [hf.1 1 (by decide) (zall hS rfl), hf.1 29 (by decide) (zall hS rfl), hf.1 30 (by decide) (zall hS rfl), hf.1 31 (by decide) (zall hS rfl), hf.1 32 (by decide) (zall hS rfl), hf.1 76 (by decide) (zall hS rfl), hf.1 77 (by decide) (zall hS rfl), hf.1 78 (by decide) (zall hS rfl), hf.1 79 (by decide) (zall hS rfl), hf.2 53 (zall h41 rfl)]
  exact h
theorem zFr.b (hf : zFr S S41 iv iv2) (h : zRb iv) (hS : S.all (fun q => !(q == 35 || q == 36 || q == 37 || q == 38 || q == 39 || q == 40 || q == 84 || q == 85 || q == 86 || q == 87 || q == 88 || q == 89)) = true) (h41 : S41.all (fun j => !(j == 62)) = true) : zRb iv2 := by
  unfold zRb
  rw [hf.1 35 (by decide) (zall hS rfl), hf.1 36 (by decide) (zall hS rfl), hf.1 37 (by decide) (zall hS rfl), hf.1 38 (by decide) (zall hS rfl), hf.1 39 (by decide) (zall hS rfl), hf.1 40 (by decide) (zall hS rfl), hf.1 84 (by decide) (zall hS rfl), hf.1 85 (by decide) (zall hS rfl), hf.1 86 (by decide) (zall hS rfl), hf.1 87 (by decide) (zall hS rfl), hf.1 88 (by decide) (zall hS rfl), hf.1 89 (by decide) (zall hS rfl), hf.2 62 (zall h41 rfl)]
  exact h
theorem zFr.k {n c : Nat} (hf : zFr S S41 iv iv2) (h : zRk n c iv) (hS : S.all (fun q => !(q == 0 || q == 60 || q == 61 || q == 62 || q == 63)) = true) (h41 : S41.all (fun j => !(j == 11)) = true) : zRk n (c + 1) iv2 := by
  unfold zRk zRz
  rw [hf.1 0 (by decide) (zall hS rfl), hf.1 60 (by decide) (zall hS rfl), hf.1 61 (by decide) (zall hS rfl), hf.1 62 (by decide) (zall hS rfl), hf.1 63 (by decide) (zall hS rfl), hf.2 11 (zall h41 rfl)]
  refine ⟨h.1, ?_, h.2.2⟩
  have := h.2.1
  omega
/-- what a small change leaves of the rest -/
theorem zFr.j {τ : Int} {i : Nat} (hf : zFr S S41 iv iv2) (h : zRj iv iv i τ) (hS : S.all (fun q => decide (q < 91) && !(q == 42 || q == 43 || (decide (50 ≤ q) && decide (q ≤ 63)))) = true) : zRj iv2 iv2 i τ := by
  have h91 : ∀ q, 91 ≤ q → ¬ q ∈ S := fun q hq z => by
    have := List.all_eq_true.mp hS q z
    simp only [Bool.and_eq_true, decide_eq_true_eq] at this
    omega
  have h50 : ∀ q, 50 ≤ q → q ≤ 63 → ¬ q ∈ S := fun q a b z => by
    have := List.all_eq_true.mp hS q z
    simp only [Bool.and_eq_true, decide_eq_true_eq, Bool.not_eq_true', Bool.or_eq_false_iff, Bool.and_eq_false_imp, decide_eq_false_iff_not] at this
    exact this.2.2 a b
  exact h.o (hf.1 _ (by omega) (h91 _ (by omega))) (hf.1 _ (by omega) (h91 _ (by omega))) (hf.1 _ (by omega) (h91 _ (by omega))) (fun q a b => by rw [hf.1 q (by omega) (h50 q a (by omega))]) (fun p hp => ⟨by rw [hf.1 62 (by decide) (h50 62 (by decide) (by decide))], by rw [hf.1 63 (by decide) (h50 63 (by decide) (by decide))]⟩) (hf.1 42 (by decide) (zall hS rfl)) (hf.1 43 (by decide) (zall hS rfl))
theorem zFr.s {n t : Nat} {ls : zLi} (hf : zFr S S41 iv iv2) (h : zSim n t ls iv iv) (hS : S.all (fun q => decide (11 ≤ q) && decide (q < 91) && !(decide (23 ≤ q) && decide (q ≤ 26)) && !(decide (42 ≤ q) && decide (q ≤ 67))) = true) (h41 : S41.all (fun j => !(j == 0 || j == 1 || j == 7 || j == 30)) = true) : zSim n t ls iv2 iv2 := by
  have hS2 : ∀ q, q < 11 ∨ 91 ≤ q ∨ (23 ≤ q ∧ q ≤ 26) ∨ (42 ≤ q ∧ q ≤ 67) → ¬ q ∈ S := fun q hq z => by
    have := List.all_eq_true.mp hS q z
    simp only [Bool.and_eq_true, decide_eq_true_eq, Bool.not_eq_true', Bool.and_eq_false_imp, decide_eq_false_iff_not] at this
    omega
  have e : ∀ q, q ≠ 41 → (q < 11 ∨ 91 ≤ q ∨ (23 ≤ q ∧ q ≤ 26) ∨ (42 ≤ q ∧ q ≤ 67)) → iv2 q = iv q := fun q a b => hf.1 q a (hS2 q b)
  obtain ⟨hX, hh, ho, ht, hck, hc, hg, hj⟩ := h
  have e0 := e 0 (by decide) (by omega)
  refine ⟨?_, hh.o (e 1 (by decide) (by omega)) (e 2 (by decide) (by omega)) (e 3 (by decide) (by omega)) (e 4 (by decide) (by omega)) (e 5 (by decide) (by omega)) (hf.2 1 (zall h41 rfl)) (e 42 (by decide) (by omega)) (e 43 (by decide) (by omega)) (e 44 (by decide) (by omega)) (e 45 (by decide) (by omega)), ?_, ht.o (e 1 (by decide) (by omega)) (e 7 (by decide) (by omega)) (e 8 (by decide) (by omega)) (e 9 (by decide) (by omega)) (e 10 (by decide) (by omega)) (hf.2 7 (zall h41 rfl)) (e 47 (by decide) (by omega)) (e 48 (by decide) (by omega)) (e 49 (by decide) (by omega)), ?_, by rw [e0]; exact hc, hg.o (e 23 (by decide) (by omega)) (e 24 (by decide) (by omega)) (e 25 (by decide) (by omega)) (e 26 (by decide) (by omega)) (hf.2 30 (zall h41 rfl)) (e 64 (by decide) (by omega)) (e 65 (by decide) (by omega)) (e 66 (by decide) (by omega)) (e 67 (by decide) (by omega)), fun j hjn => ?_⟩
  · unfold zXI zGI
    rw [e0, e 1 (by decide) (by omega), e 7 (by decide) (by omega), e 9 (by decide) (by omega), e 23 (by decide) (by omega), e 24 (by decide) (by omega)]
    obtain ⟨x1, x2, x3, x4, x5, x6, x7, x8⟩ := hX
    exact ⟨x1, x2, x3, x4, x5, x6, fun i hi => by rw [e _ (by omega) (by omega)]; exact x7 i hi, x8⟩
  · unfold zRo
    rw [e 46 (by decide) (by omega), e 6 (by decide) (by omega)]
    exact ho
  · rw [hf.2 0 (zall h41 rfl), e0]; exact hck
  · rw [e0]
    exact (hj j hjn).o (e _ (by omega) (by omega)) (e _ (by omega) (by omega)) (e _ (by omega) (by omega)) (fun q a b => by rw [e q (by omega) (by omega)]) (fun p hp => ⟨by rw [e 62 (by decide) (by omega)], by rw [e 63 (by decide) (by omega)]⟩) (e 42 (by decide) (by omega)) (e 43 (by decide) (by omega))
end ZFR
theorem zRw.up {n c : Nat} {iv : zI} (h : zRw n c iv) : zRw n (c + 1) iv := by
  obtain ⟨t, ls, h1, h2, h3⟩ := h
  exact ⟨t, ls, h1, (zFr.rf [] [] iv).k h2 rfl rfl, h3⟩
/-- the class's call, and behind it the reference's: the same answer, and the relation holds on -/
def zCall (n c : Nat) (iv : zI) (lw : zG) (yx : MethodName) (cx : ByteArray) (nx : Nat) (rx : Option FieldType) (ym : MethodName) (cm : ByteArray) (nm : Nat) (rm : Option FieldType) (as : List Value) : Prop :=
  ∃ lx, lx ≤ 60 ∧ zMs yx cx nx rx lx (.ref 0 :: as) n iv lw (fun v iv1 lw1 => ∃ r, v = some (.int r) ∧ ∃ lm, lm ≤ 60 ∧ zMs ym cm nm rm lm (.ref 41 :: as) n iv1 lw1 (fun v2 iv2 _ => v2 = some (.int r) ∧ zRw n (c + 1) iv2))
section ZCL
variable {n c : Nat} {iv iv1 iv2 : zI} {lw : zG} {yx : MethodName} {cx : ByteArray} {nx : Nat} {rx : Option FieldType} {lx : Nat} {ym : MethodName} {cm : ByteArray} {nm : Nat} {rm : Option FieldType} {lm : Nat} {as : List Value} {r r2 : Int32}
theorem zCall.i (hx : zMi yx cx nx rx lx (.ref 0 :: as) n iv lw r iv1 lw) (hm : zMi ym cm nm rm lm (.ref 41 :: as) n iv1 lw r2 iv2 lw) (he : r = r2) (hR : zRw n (c + 1) iv2) (hlx : lx ≤ 60 := by decide) (hlm : lm ≤ 60 := by decide) : zCall n c iv lw yx cx nx rx ym cm nm rm as := by
  subst he
  refine ⟨lx, hlx, zM.weak hx (fun v N kd iv' rf lw' hq => ?_)⟩
  obtain ⟨e1, e2, e3, e4, e5, e6⟩ := hq
  subst e5
  subst e6
  refine ⟨e1, e2, e3, r, e4, lm, hlm, zM.weak hm (fun v2 N2 kd2 iv'' rf2 lw'' hq2 => ?_)⟩
  obtain ⟨f1, f2, f3, f4, f5, f6⟩ := hq2
  subst f5
  exact ⟨f1, f2, f3, f4, hR⟩
/-- neither changes anything -/
theorem zCall.p (hR : zRw n c iv) (hx : zMi yx cx nx rx lx (.ref 0 :: as) n iv lw r iv lw) (hm : zMi ym cm nm rm lm (.ref 41 :: as) n iv lw r2 iv lw) (he : r = r2) (hlx : lx ≤ 60 := by decide) (hlm : lm ≤ 60 := by decide) : zCall n c iv lw yx cx nx rx ym cm nm rm as := zCall.i hx hm he hR.up hlx hlm
theorem zCall.q {Q : Option Value → zI → zG → Prop} (hx : zMs yx cx nx rx lx (.ref 0 :: as) n iv lw Q) (k : ∀ v iv1 lw1, Q v iv1 lw1 → ∃ r, v = some (.int r) ∧ ∃ lm, lm ≤ 60 ∧ zMs ym cm nm rm lm (.ref 41 :: as) n iv1 lw1 (fun v2 iv2 _ => v2 = some (.int r) ∧ zRw n (c + 1) iv2)) (hlx : lx ≤ 60 := by decide) : zCall n c iv lw yx cx nx rx ym cm nm rm as := by
  refine ⟨lx, hlx, zM.weak hx (fun v N kd iv' rf lw' hq => ?_)⟩
  obtain ⟨e1, e2, e3, hq⟩ := hq
  exact ⟨e1, e2, e3, k v iv' lw' hq⟩
end ZCL
theorem zMs.weak {y : MethodName} {cc : ByteArray} {nL : Nat} {ret : Option FieldType} {lvl : Nat} {as : List Value} {n : Nat} {iv : zI} {lw : zG} {Q Q2 : Option Value → zI → zG → Prop} (h : zMs y cc nL ret lvl as n iv lw Q) (k : ∀ v iv2 lw2, Q v iv2 lw2 → Q2 v iv2 lw2) : zMs y cc nL ret lvl as n iv lw Q2 := by
  refine zM.weak h (fun v N kd iv' rf lw' hq => ?_)
  obtain ⟨e1, e2, e3, hq⟩ := hq
  exact ⟨e1, e2, e3, k v iv' lw' hq⟩
/-! calls that change nothing -/
section ZK
variable {n c : Nat} {iv : zI} {lw : zG}
theorem k_road (hR : zRw n c iv) (k wh : Int32) : zCall n c iv lw yX9_road cX9_road 3 (some .int) yX10_road cX10_road 3 (some .int) [.int k, .int wh] := by
  obtain ⟨t, ls, ⟨hX, hh, ho, -⟩, -⟩ := id hR
  obtain ⟨h1, h2, h3, h4, h5, h6, -⟩ := hh
  refine zCall.p hR (x_road n iv lw k wh h2) (m_road n iv lw k wh (by rw [h1]; exact h2)) ?_
  rw [h1, h3, h4, h5, h6, ho.1]
theorem k_horses (hR : zRw n c iv) (te wh : Int32) : zCall n c iv lw yX9_horses cX9_horses 3 (some .int) yX10_horses cX10_horses 3 (some .int) [.int te, .int wh] := by
  obtain ⟨t, ls, ⟨hX, hh, ho, ht, -⟩, -⟩ := id hR
  obtain ⟨t1, t2, t3, t4, t5, t6, -⟩ := ht
  have e7 : (iv 7 0).toInt ≤ 20 := by rw [t1, nI_toInt (by omega)]; omega
  refine zCall.p hR (x_horses n iv lw te wh e7) (m_horses n iv lw te wh (by rw [t2, ← t1]; exact e7)) ?_
  rw [t2, t4, t5, t6, t1]
theorem k_fault (hR : zRw n c iv) (wh : Int32) : zCall n c iv lw yX9_fault cX9_fault 2 (some .int) yX10_fault cX10_fault 2 (some .int) [.int wh] := by
  obtain ⟨t, ls, -, -, -, hf, -⟩ := id hR
  refine zCall.p hR (x_fault n iv lw wh) (m_fault n iv lw wh) ?_
  rw [hf.1, hf.2]
theorem k_about (hR : zRw n c iv) (wh : Int32) : zCall n c iv lw yX9_about cX9_about 2 (some .int) yX10_about cX10_about 2 (some .int) [.int wh] := by
  obtain ⟨t, ls, ⟨hX, hh, ho, ht, hck, hc, hg, hj⟩, hk, ⟨s, p1, p2, -⟩, -, ⟨q, q1, q2, -⟩, ⟨b, b1, b2, -⟩⟩ := id hR
  refine zCall.p hR (x_about n iv lw wh) (m_about n iv lw wh) ?_
  rw [hck, hh.1, ht.2.1, ht.1, hk.1, hX.2.2.2.2.1, hg.1.1, hg.2.1.1, q1, q2, b1, b2, p1, p2]
/-- a coach that is, or none -/
theorem zco_c (hR : zRw n c iv) (co : Int32) : (∃ i, i < n ∧ co = nI i) ∨ (¬ (0 ≤ co.toInt ∧ co.toInt < n) ∧ ¬ (0 ≤ co.toInt ∧ co.toInt < (iv 41 11).toInt)) := by
  obtain ⟨t, ls, ⟨hX, -⟩, hk, -⟩ := hR
  have hn := hX.2.2.2.2.2.1
  by_cases h : 0 ≤ co.toInt ∧ co.toInt < n
  · left
    refine ⟨co.toNatClampNeg, ?_, (znI_cl h.1).symm⟩
    have := zcl_int h.1
    omega
  · right
    refine ⟨h, ?_⟩
    rw [hk.1, nI_toInt (by omega)]
    exact h
theorem k_where (hR : zRw n c iv) (co wh : Int32) : zCall n c iv lw yX9_where cX9_where 4 (some .int) yX10_where cX10_where 3 (some .int) [.int co, .int wh] := by
  obtain ⟨t, ls, ⟨hX, hh, ho, ht, hck, hc, hg, hj⟩, hk, -⟩ := id hR
  have hn := hX.2.2.2.2.2.1
  rcases zco_c hR co with ⟨i, hi, rfl⟩ | ⟨h1, h2⟩
  · refine zCall.p hR (x_where1 n iv lw hX.2.2.2.2.1 hn i hi wh) (m_where1 n iv lw hk.1 hn i hi wh) ?_
    obtain ⟨a, ⟨b1, b2, b3, b4⟩, cc, ⟨d1, d2⟩, e, f, g⟩ := hj i hi
    unfold zwhere zmwhere
    rw [b1, b2, b3, b4, e]
    by_cases s1 : iv (91 + 3 * i) 5 = 1
    · rw [(d1 s1).1]
      simp only [s1, if_true]
    · simp only [s1, if_false]
      by_cases s3 : iv (91 + 3 * i) 5 = 3
      · rw [(d2 s3).2.1]
      · simp only [s3, if_false]
  · exact zCall.p hR (x_where0 n iv lw hX.2.2.2.2.1 hn co h1 wh) (m_where0 n iv lw co wh h2) rfl
theorem k_part (hR : zRw n c iv) (co pa : Int32) : zCall n c iv lw yX9_part cX9_part 4 (some .int) yX10_part cX10_part 3 (some .int) [.int co, .int pa] := by
  obtain ⟨t, ls, ⟨hX, hh, ho, ht, hck, hc, hg, hj⟩, hk, -⟩ := id hR
  have hn := hX.2.2.2.2.2.1
  rcases zco_c hR co with ⟨i, hi, rfl⟩ | ⟨h1, h2⟩
  · refine zCall.p hR (x_part1 n iv lw hX.2.2.2.2.1 hn i hi pa) (m_part1 n iv lw hk.1 hn i hi pa) ?_
    obtain ⟨a, b, cc, d, e, f, g⟩ := hj i hi
    split
    · next z =>
      have := zcl_int z.1
      exact ((f pa.toNatClampNeg (by omega)).1).symm
    · rfl
  · exact zCall.p hR (x_part0 n iv lw hX.2.2.2.2.1 hn co h1 pa) (m_part0 n iv lw co pa h2) rfl
end ZK
