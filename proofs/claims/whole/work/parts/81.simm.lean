theorem zRg.o {u w u2 w2 : zI} {ls : zLi} (h : zRg u w ls) (e23 : u2 23 = u 23) (e24 : u2 24 = u 24) (e25 : u2 25 = u 25) (e26 : u2 26 = u 26) (f30 : w2 41 30 = w 41 30) (f64 : w2 64 = w 64) (f65 : w2 65 = w 65) (f66 : w2 66 = w 66) (f67 : w2 67 = w 67) : zRg u2 w2 ls := by
  unfold zRg zDr zDm
  rw [e23, e24, e25, e26, f30, f64, f65, f66, f67]
  exact h
theorem zact_sim {u w : zI} {n t i : Nat} {ls : zLi} (hX : zXI n t (zfl ls).length ls.length (zen ls) u) (hi : i < n) (hh : zRh u w) (ht : zRt u w t) (hck : w 41 0 = u 0 10) (hc : 0 ≤ (u 0 10).toInt ∧ (u 0 10).toInt ≤ 1000000) (hg : zRg u w ls) (hj : zRj u w i (u 0 10).toInt) : zRt (zact u i t ls.length) (zmact w i t ls.length (zfa ls)) t ∧ zRj (zact u i t ls.length) (zmact w i t ls.length (zfa ls)) i ((u 0 10).toInt + 1) ∧ (u (91 + 3 * i) 5 = 4 → zmact w i t ls.length (zfa ls) = w ∧ zact u i t ls.length = u) ∧ zmdn w i t = (if u (91 + 3 * i) 5 = 4 then 0 else if zact u i t ls.length (91 + 3 * i) 5 = 4 then 1 else 0) := by
  obtain ⟨g1, g2, g3, g4⟩ := zch_sim hX hi hh ht hck hc hj
  have hX1 := zXI.ch hX hi
  have hfw : zFw i w (zmcc w i t) := (zFw.rf i w).cc t
  have ho : ∀ q, q < 91 → q ≠ 8 → q ≠ 9 → q ≠ 10 → zch u i t q = u q := fun q a b c d => zch_o u i t b c d (by omega) (by omega) (by omega)
  have hh1 : zRh (zch u i t) (zmcc w i t) := zFw.rh hh (ho 1 (by decide) (by decide) (by decide) (by decide)) (ho 2 (by decide) (by decide) (by decide) (by decide)) (ho 3 (by decide) (by decide) (by decide) (by decide)) (ho 4 (by decide) (by decide) (by decide) (by decide)) (ho 5 (by decide) (by decide) (by decide) (by decide)) hfw
  have e0 : zch u i t 0 = u 0 := ho 0 (by decide) (by decide) (by decide) (by decide)
  have e41 : zmcc w i t 41 = w 41 := hfw.1 41 (by decide) (by decide) (by decide) (by decide)
  have hg1 : zRg (zch u i t) (zmcc w i t) ls := hg.o (ho 23 (by decide) (by decide) (by decide) (by decide)) (ho 24 (by decide) (by decide) (by decide) (by decide)) (ho 25 (by decide) (by decide) (by decide) (by decide)) (ho 26 (by decide) (by decide) (by decide) (by decide)) (by rw [e41]) (hfw.1 64 (by decide) (by decide) (by decide) (by decide)) (hfw.1 65 (by decide) (by decide) (by decide) (by decide)) (hfw.1 66 (by decide) (by decide) (by decide) (by decide)) (hfw.1 67 (by decide) (by decide) (by decide) (by decide))
  have hck1 : zmcc w i t 41 0 = zch u i t 0 10 := by rw [e41, e0]; exact hck
  have e55 := g2.2.1.1
  by_cases c : zch u i t (91 + 3 * i) 5 = 2
  · have eu : zact u i t ls.length = zobf (zch u i t) i (zbest (zch u i t) i t) (zord (zch u i t) i t ls.length) := by unfold zact; rw [if_pos c]
    have ew : zmact w i t ls.length (zfa ls) = zmobf (zmcc w i t) i (zmbest (zmcc w i t) i t) (zmord (zmcc w i t) i t ls.length (zfa ls)) := by unfold zmact; rw [if_pos (e55.trans c)]
    obtain ⟨o1, o2⟩ := zord_sim hX1 hi hh1 g1 hck1 g2 c hg1
    obtain ⟨eb, -⟩ := zbest_same (i := i) g1 g2.2.1.2.1
    have hs := zobf_sim hX1 hi hh1 g1 hck1 (by rw [e0]; exact hc) g2 c o1
    rw [e0] at hs
    rw [eu, ew, eb, o2]
    refine ⟨hs.1, hs.2, fun z => ?_, ?_⟩
    · exfalso
      have h1 := g3 z
      rw [h1] at e55
      have := e55.symm.trans hj.2.1.1
      rw [c, z] at this
      exact absurd this (by decide)
    · rw [g4, c]
      have hz : ¬ zobf (zch u i t) i (zbest (zch u i t) i t) (zord (zch u i t) i t ls.length) (91 + 3 * i) 5 = 4 := by
        unfold zobf
        split
        · rw [zdep_5]; decide
        · split
          · rw [zdep_5]; decide
          · rw [zu_s, pk_un (by decide), c]; decide
      rw [if_neg hz, if_neg (show ¬ (2 : Int32) = 4 by decide)]
  · have eu : zact u i t ls.length = zch u i t := by unfold zact; rw [if_neg c]
    have ew : zmact w i t ls.length (zfa ls) = zmcc w i t := by unfold zmact; rw [if_neg (fun z => c (e55.symm.trans z))]
    rw [eu, ew]
    refine ⟨g1, g2, fun z => ⟨g3 z, ?_⟩, g4⟩
    unfold zch
    rw [if_neg (fun q => by rw [z] at q; exact absurd q.1 (by decide)), if_neg (fun q => by rw [z] at q; exact absurd q.1 (by decide)), if_neg (fun q => by rw [z] at q; exact absurd q.1 (by decide))]
/-! all coaches in one minute -/
def zFx (n : Nat) (u0 w0 u w : zI) : Prop := (∀ q, q < 91 → q ≠ 8 → q ≠ 9 → q ≠ 10 → u q = u0 q) ∧ (∀ q, q ≠ 47 → q ≠ 48 → q ≠ 49 → (q < 55 ∨ 63 < q) → w q = w0 q) ∧ (∀ q j, 55 ≤ q → q ≤ 61 → n ≤ j → w q j = w0 q j) ∧ ∀ q j, 62 ≤ q → q ≤ 63 → 5 * n ≤ j → w q j = w0 q j
theorem zfold_sim {u0 w0 : zI} {n t : Nat} {ls : zLi} (hX : zXI n t (zfl ls).length ls.length (zen ls) u0) (hh : zRh u0 w0) (ht : zRt u0 w0 t) (hck : w0 41 0 = u0 0 10) (hc : 0 ≤ (u0 0 10).toInt ∧ (u0 0 10).toInt ≤ 1000000) (hg : zRg u0 w0 ls) (hj : ∀ j, j < n → zRj u0 w0 j (u0 0 10).toInt) : ∀ k, k ≤ n → zRt (zfold u0 t ls.length k) (zmfold w0 t ls.length (zfa ls) k) t ∧ zFx n u0 w0 (zfold u0 t ls.length k) (zmfold w0 t ls.length (zfa ls) k) ∧ (∀ j, j < n → zRj (zfold u0 t ls.length k) (zmfold w0 t ls.length (zfa ls) k) j (if j < k then (u0 0 10).toInt + 1 else (u0 0 10).toInt)) ∧ zdn u0 t ls.length k = zmcnt w0 t ls.length (zfa ls) k
  | 0, _ => ⟨ht, ⟨fun _ _ _ _ _ => rfl, fun _ _ _ _ _ => rfl, fun _ _ _ _ _ => rfl, fun _ _ _ _ _ => rfl⟩, fun j h => by rw [if_neg (by omega)]; exact hj j h, rfl⟩
  | k + 1, hk => by
    obtain ⟨h1, h2, h3, h4⟩ := zfold_sim hX hh ht hck hc hg hj k (by omega)
    have hX1 := hX.fold k (by omega)
    rw [zfold_s, zdn_s, show zmfold w0 t ls.length (zfa ls) (k + 1) = zmact (zmfold w0 t ls.length (zfa ls) k) k t ls.length (zfa ls) from rfl, show zmcnt w0 t ls.length (zfa ls) (k + 1) = zmcnt w0 t ls.length (zfa ls) k + zmdn (zmfold w0 t ls.length (zfa ls) k) k t from rfl]
    generalize zfold u0 t ls.length k = u at *
    generalize zmfold w0 t ls.length (zfa ls) k = w at *
    obtain ⟨f1, f2, f3, f4⟩ := h2
    have e0 : u 0 = u0 0 := f1 0 (by decide) (by decide) (by decide) (by decide)
    have e41 : w 41 = w0 41 := f2 41 (by decide) (by decide) (by decide) (by decide)
    have hh1 : zRh u w := hh.o (f1 1 (by decide) (by decide) (by decide) (by decide)) (f1 2 (by decide) (by decide) (by decide) (by decide)) (f1 3 (by decide) (by decide) (by decide) (by decide)) (f1 4 (by decide) (by decide) (by decide) (by decide)) (f1 5 (by decide) (by decide) (by decide) (by decide)) (by rw [e41]) (f2 42 (by decide) (by decide) (by decide) (by decide)) (f2 43 (by decide) (by decide) (by decide) (by decide)) (f2 44 (by decide) (by decide) (by decide) (by decide)) (f2 45 (by decide) (by decide) (by decide) (by decide))
    have hg1 : zRg u w ls := hg.o (f1 23 (by decide) (by decide) (by decide) (by decide)) (f1 24 (by decide) (by decide) (by decide) (by decide)) (f1 25 (by decide) (by decide) (by decide) (by decide)) (f1 26 (by decide) (by decide) (by decide) (by decide)) (by rw [e41]) (f2 64 (by decide) (by decide) (by decide) (by decide)) (f2 65 (by decide) (by decide) (by decide) (by decide)) (f2 66 (by decide) (by decide) (by decide) (by decide)) (f2 67 (by decide) (by decide) (by decide) (by decide))
    have hjk := h3 k (by omega)
    rw [if_neg (by omega), ← e0] at hjk
    obtain ⟨g1, g2, g3, g4⟩ := zact_sim hX1 (i := k) (by omega) hh1 h1 (by rw [e41, e0]; exact hck) (by rw [e0]; exact hc) hg1 hjk
    rw [e0] at g2
    have hfw : zFw k w (zmact w k t ls.length (zfa ls)) := (zFw.rf k w).act t ls.length (zfa ls)
    have hfu : ∀ q, q ≠ 8 → q ≠ 9 → q ≠ 10 → q ≠ 91 + 3 * k → q ≠ 91 + 3 * k + 1 → q ≠ 91 + 3 * k + 2 → zact u k t ls.length q = u q := fun q a b c d e f => zact_o u k t ls.length a b c d e f
    have other : ∀ j, j < n → j ≠ k → zRj (zact u k t ls.length) (zmact w k t ls.length (zfa ls)) j (if j < k then (u0 0 10).toInt + 1 else (u0 0 10).toInt) := fun j hjn hne => (h3 j hjn).o (hfu _ (by omega) (by omega) (by omega) (by omega) (by omega) (by omega)) (hfu _ (by omega) (by omega) (by omega) (by omega) (by omega) (by omega)) (hfu _ (by omega) (by omega) (by omega) (by omega) (by omega) (by omega)) (fun q a b => by
        rcases Nat.lt_or_ge q 55 with z | z
        · rw [hfw.1 q (by omega) (by omega) (by omega) (by omega)]
        · exact hfw.2.1 q j z b hne) (fun p hp => ⟨hfw.2.2 62 _ (by decide) (by decide) (by omega), hfw.2.2 63 _ (by decide) (by decide) (by omega)⟩) (hfw.1 42 (by decide) (by decide) (by decide) (by decide)) (hfw.1 43 (by decide) (by decide) (by decide) (by decide))
    have allj : ∀ j, j < n → zRj (zact u k t ls.length) (zmact w k t ls.length (zfa ls)) j (if j < k + 1 then (u0 0 10).toInt + 1 else (u0 0 10).toInt) := fun j hjn => by
      by_cases e : j = k
      · subst e
        rw [if_pos (by omega)]
        exact g2
      · have := other j hjn e
        by_cases q : j < k
        · rw [if_pos q] at this; rw [if_pos (by omega)]; exact this
        · rw [if_neg q] at this; rw [if_neg (by omega)]; exact this
    have hfr : zFx n u0 w0 (zact u k t ls.length) (zmact w k t ls.length (zfa ls)) := ⟨fun q a b c d => by rw [hfu q b c d (by omega) (by omega) (by omega)]; exact f1 q a b c d, fun q a b c d => by rw [hfw.1 q a b c d]; exact f2 q a b c d, fun q j a b c => by rw [hfw.2.1 q j a b (by omega)]; exact f3 q j a b c, fun q j a b c => by rw [hfw.2.2 q j a b (by omega)]; exact f4 q j a b c⟩
    by_cases c4 : u (91 + 3 * k) 5 = 4
    · obtain ⟨z1, z2⟩ := g3 c4
      rw [if_pos c4, if_pos c4]
      rw [z2] at g1 hfr allj
      refine ⟨g1, hfr, allj, ?_⟩
      rw [g4, if_pos c4, h4, Int32.add_zero]
    · rw [if_neg c4, if_neg c4]
      refine ⟨g1, hfr, allj, ?_⟩
      rw [g4, if_neg c4, h4]
/-! rest -/
theorem zrest_sim {u w : zI} {t : Nat} (ho : zRo u w) (h8 : w 47 = u 8 ∧ ∀ k, 0 ≤ (u 8 k).toInt ∧ (u 8 k).toInt ≤ 1000) (h9 : w 48 = u 9) (hP : zP9 (u 1 0).toInt t (u 9)) : ∀ m, m ≤ t → (zmrest w m 46 = zrest u m 6 ∧ ∀ k, 0 ≤ (zrest u m 6 k).toInt ∧ (zrest u m 6 k).toInt ≤ 100000) ∧ (zmrest w m 47 = zrest u m 8 ∧ ∀ k, 0 ≤ (zrest u m 8 k).toInt ∧ (zrest u m 8 k).toInt ≤ 1000)
  | 0, _ => ⟨ho, h8⟩
  | m + 1, hm => by
    obtain ⟨⟨o1, o2⟩, s1, s2⟩ := zrest_sim ho h8 h9 hP m (by omega)
    have e9 : zrest u m 9 = u 9 := zrest_o u (by decide) (by decide) m
    have e48 : zmrest w m 48 = u 9 := (zmrest_o w (by decide) (by decide) m).trans h9
    rw [show zrest u (m + 1) = zrs (zrest u m) m from rfl, show zmrest w (m + 1) = zmrs (zmrest w m) m from rfl]
    generalize zrest u m = a at *
    generalize zmrest w m = b at *
    unfold zrs zmrs
    have hk := hP m (by omega)
    have hs := s2 m
    have ec : (¬ (b 48 m).toInt < 0 ∧ (b 47 m).toInt < 1000) ↔ (¬ a 9 m = -1 ∧ (a 8 m).toInt < 1000) := by
      rw [e48, s1, e9]
      refine ⟨fun z => ⟨fun q => z.1 (by rw [q]; decide), z.2⟩, fun z => ⟨?_, z.2⟩⟩
      have := hk.resolve_left z.1
      omega
    by_cases c : ¬ a 9 m = -1 ∧ (a 8 m).toInt < 1000
    · rw [if_pos c, if_pos (ec.mpr c)]
      have q3 : (a 8 m + 3).toInt = (a 8 m).toInt + 3 := by rw [zt_add (by rw [show Int32.toInt 3 = 3 by decide]; omega) (by rw [show Int32.toInt 3 = 3 by decide]; omega), show Int32.toInt 3 = 3 by decide]
      have q1 : (a 8 m + 1).toInt = (a 8 m).toInt + 1 := zt_p1 (by omega)
      have st : ∀ x : Int32, 0 ≤ x.toInt → (if 1000 < x.toInt then (1000 : Int32) else x) = (if x < 1000 then x else 1000) ∧ 0 ≤ (if x < 1000 then x else (1000 : Int32)).toInt ∧ (if x < 1000 then x else (1000 : Int32)).toInt ≤ 1000 := by
        intro x hx
        by_cases z : x < 1000
        · have z2 := Int32.lt_iff_toInt_lt.mp z
          rw [show Int32.toInt 1000 = 1000 by decide] at z2
          rw [if_pos z, if_neg (by omega)]
          exact ⟨rfl, hx, by omega⟩
        · have z2 : ¬ x.toInt < (1000 : Int32).toInt := fun q => z (Int32.lt_iff_toInt_lt.mpr q)
          rw [show Int32.toInt 1000 = 1000 by decide] at z2
          rw [if_neg z]
          refine ⟨?_, by decide, by decide⟩
          by_cases z3 : 1000 < x.toInt
          · rw [if_pos z3]
          · rw [if_neg z3]
            exact Int32.toInt_inj.mp (by rw [show Int32.toInt 1000 = 1000 by decide]; omega)
      have eo : (0 < (b 46 (b 48 m).toNatClampNeg).toInt) ↔ (¬ a 6 (a 9 m).toNatClampNeg = 0) := by
        rw [o1, e48, e9]
        have := o2 (u 9 m).toNatClampNeg
        refine ⟨fun z q => by rw [q] at z; exact absurd z (by decide), fun z => ?_⟩
        have : ¬ (a 6 (u 9 m).toNatClampNeg).toInt = 0 := fun q => z (Int32.toInt_inj.mp (by rw [q]; decide))
        omega
      by_cases c2 : ¬ a 6 (a 9 m).toNatClampNeg = 0
      · rw [if_pos c2, if_pos (eo.mpr c2)]
        obtain ⟨p1, p2, p3⟩ := st (a 8 m + 3) (by omega)
        refine ⟨⟨?_, fun k => ?_⟩, ?_, fun k => ?_⟩
        · rw [zu_n _ _ _ (by decide), zu_s, zu_n _ _ _ (by decide), zu_s, o1, e48, e9]
        · rw [zu_n _ _ _ (by decide), zu_s]
          by_cases q : k = (a 9 m).toNatClampNeg
          · subst q
            rw [pk_us]
            have := o2 (a 9 m).toNatClampNeg
            have nz : ¬ (a 6 (a 9 m).toNatClampNeg).toInt = 0 := fun q => c2 (Int32.toInt_inj.mp (by rw [q]; decide))
            rw [zt_m1 (by omega)]
            omega
          · rw [pk_un q]; exact o2 k
        · rw [zu_s, zu_n _ _ _ (by decide), zu_s, zu_n _ _ _ (by decide), s1, p1]
        · rw [zu_s, zu_n _ _ _ (by decide)]
          by_cases q : k = m
          · subst q; rw [pk_us]; exact ⟨p2, p3⟩
          · rw [pk_un q]; exact s2 k
      · rw [if_neg c2, if_neg (fun z => c2 (eo.mp z))]
        obtain ⟨p1, p2, p3⟩ := st (a 8 m + 1) (by omega)
        refine ⟨⟨?_, fun k => ?_⟩, ?_, fun k => ?_⟩
        · rw [zu_n _ _ _ (by decide), zu_n _ _ _ (by decide)]; exact o1
        · rw [zu_n _ _ _ (by decide)]; exact o2 k
        · rw [zu_s, zu_s, s1, p1]
        · rw [zu_s]
          by_cases q : k = m
          · subst q; rw [pk_us]; exact ⟨p2, p3⟩
          · rw [pk_un q]; exact s2 k
    · rw [if_neg c, if_neg (fun z => c (ec.mp z))]
      exact ⟨⟨o1, o2⟩, s1, s2⟩
/-! a minute -/
def zSim (n t : Nat) (ls : zLi) (u w : zI) : Prop := zXI n t (zfl ls).length ls.length (zen ls) u ∧ zRh u w ∧ zRo u w ∧ zRt u w t ∧ w 41 0 = u 0 10 ∧ 0 ≤ (u 0 10).toInt ∧ zRg u w ls ∧ ∀ j, j < n → zRj u w j (u 0 10).toInt
def zFm (n : Nat) (u0 w0 u w : zI) : Prop := (∀ q, q < 91 → q ≠ 0 → q ≠ 6 → q ≠ 8 → q ≠ 9 → q ≠ 10 → u q = u0 q) ∧ (∀ j, j ≠ 10 → u 0 j = u0 0 j) ∧ (∀ q, q ≠ 41 → (q < 46 ∨ 49 < q) → (q < 55 ∨ 63 < q) → w q = w0 q) ∧ (∀ j, j ≠ 0 → w 41 j = w0 41 j) ∧ (∀ q j, 55 ≤ q → q ≤ 61 → n ≤ j → w q j = w0 q j) ∧ ∀ q j, 62 ≤ q → q ≤ 63 → 5 * n ≤ j → w q j = w0 q j
theorem zFm.tr {n : Nat} {a b c d e f : zI} (h : zFm n a b c d) (h2 : zFm n c d e f) : zFm n a b e f := ⟨fun q x1 x2 x3 x4 x5 x6 => (h2.1 q x1 x2 x3 x4 x5 x6).trans (h.1 q x1 x2 x3 x4 x5 x6), fun j x => (h2.2.1 j x).trans (h.2.1 j x), fun q x y z => (h2.2.2.1 q x y z).trans (h.2.2.1 q x y z), fun j x => (h2.2.2.2.1 j x).trans (h.2.2.2.1 j x), fun q j x y z => (h2.2.2.2.2.1 q j x y z).trans (h.2.2.2.2.1 q j x y z), fun q j x y z => (h2.2.2.2.2.2 q j x y z).trans (h.2.2.2.2.2 q j x y z)⟩
theorem zSim.min {n t : Nat} {ls : zLi} {u w : zI} (h : zSim n t ls u w) (hb : (u 0 10).toInt < 1000000) : zSim n t ls (zminu u n t ls.length) (zmminu w n t ls.length (zfa ls)) ∧ zFm n u w (zminu u n t ls.length) (zmminu w n t ls.length (zfa ls)) ∧ (zminu u n t ls.length 0 10).toInt = (u 0 10).toInt + 1 ∧ zdn (zrest u t) t ls.length n = zmcnt (zmrest w t) t ls.length (zfa ls) n := by
  obtain ⟨hX, hh, ho, ht, hck, hc, hg, hj⟩ := h
  obtain ⟨t1, t2, t3, t4, t5, t6, t7, t8⟩ := ht
  obtain ⟨r1, r2⟩ := zrest_sim ho ⟨t4, t7⟩ t5 t8 t (Nat.le_refl _)
  have ru : ∀ q, q ≠ 6 → q ≠ 8 → zrest u t q = u q := fun q a b => zrest_o u a b t
  have rw_ : ∀ q, q ≠ 46 → q ≠ 47 → zmrest w t q = w q := fun q a b => zmrest_o w a b t
  have hX1 := hX.rest
  have hXm := hX.minute
  have hh1 : zRh (zrest u t) (zmrest w t) := hh.o (ru 1 (by decide) (by decide)) (ru 2 (by decide) (by decide)) (ru 3 (by decide) (by decide)) (ru 4 (by decide) (by decide)) (ru 5 (by decide) (by decide)) (by rw [rw_ 41 (by decide) (by decide)]) (rw_ 42 (by decide) (by decide)) (rw_ 43 (by decide) (by decide)) (rw_ 44 (by decide) (by decide)) (rw_ 45 (by decide) (by decide))
  have ht1 : zRt (zrest u t) (zmrest w t) t := ⟨by rw [ru 7 (by decide) (by decide)]; exact t1, by rw [rw_ 41 (by decide) (by decide)]; exact t2, t3, r2.1, by rw [rw_ 48 (by decide) (by decide), ru 9 (by decide) (by decide)]; exact t5, by rw [rw_ 49 (by decide) (by decide), ru 10 (by decide) (by decide)]; exact t6, r2.2, by rw [ru 1 (by decide) (by decide), ru 9 (by decide) (by decide)]; exact t8⟩
  have e0 : zrest u t 0 = u 0 := ru 0 (by decide) (by decide)
  have e41 : zmrest w t 41 = w 41 := rw_ 41 (by decide) (by decide)
  have hg1 : zRg (zrest u t) (zmrest w t) ls := hg.o (ru 23 (by decide) (by decide)) (ru 24 (by decide) (by decide)) (ru 25 (by decide) (by decide)) (ru 26 (by decide) (by decide)) (by rw [e41]) (rw_ 64 (by decide) (by decide)) (rw_ 65 (by decide) (by decide)) (rw_ 66 (by decide) (by decide)) (rw_ 67 (by decide) (by decide))
  have hj1 : ∀ j, j < n → zRj (zrest u t) (zmrest w t) j (zrest u t 0 10).toInt := fun j hjn => by
    rw [e0]
    exact (hj j hjn).o (ru _ (by omega) (by omega)) (ru _ (by omega) (by omega)) (ru _ (by omega) (by omega)) (fun q a b => by rw [rw_ q (by omega) (by omega)]) (fun p hp => ⟨by rw [rw_ 62 (by decide) (by decide)], by rw [rw_ 63 (by decide) (by decide)]⟩) (rw_ 42 (by decide) (by decide)) (rw_ 43 (by decide) (by decide))
  obtain ⟨g1, g2, g3, g4⟩ := zfold_sim hX1 hh1 ht1 (by rw [e41, e0]; exact hck) (by rw [e0]; omega) hg1 hj1 n (Nat.le_refl _)
  unfold zminu at hXm ⊢
  unfold zmminu
  generalize zfold (zrest u t) t ls.length n = a at *
  generalize zmfold (zmrest w t) t ls.length (zfa ls) n = b at *
  obtain ⟨f1, f2, f3, f4⟩ := g2
  have a0 : a 0 = u 0 := (f1 0 (by decide) (by decide) (by decide) (by decide)).trans e0
  have b41 : b 41 = w 41 := (f2 41 (by decide) (by decide) (by decide) (by decide)).trans e41
  rw [e0] at hXm ⊢
  have ua : ∀ q, q < 91 → q ≠ 0 → q ≠ 8 → q ≠ 9 → q ≠ 10 → zu a 0 10 (u 0 10 + 1) q = zrest u t q := fun q x1 x2 x3 x4 x5 => by rw [zu_n _ _ _ x2]; exact f1 q x1 x3 x4 x5
  have wa : ∀ q, q ≠ 41 → q ≠ 47 → q ≠ 48 → q ≠ 49 → (q < 55 ∨ 63 < q) → zu b 41 0 (b 41 0 + 1) q = zmrest w t q := fun q x0 x1 x2 x3 x4 => by rw [zu_n _ _ _ x0]; exact f2 q x1 x2 x3 x4
  have ub : ∀ q, q ≠ 0 → zu a 0 10 (u 0 10 + 1) q = a q := fun q x => zu_n _ _ _ x
  have wb : ∀ q, q ≠ 41 → zu b 41 0 (b 41 0 + 1) q = b q := fun q x => zu_n _ _ _ x
  have w41 : ∀ j, j ≠ 0 → zu b 41 0 (b 41 0 + 1) 41 j = w 41 j := fun j x => by rw [zu_s, pk_un x, b41]
  have ck : (u 0 10 + 1).toInt = (u 0 10).toInt + 1 := zt_p1 (by omega)
  have uc : zu a 0 10 (u 0 10 + 1) 0 10 = u 0 10 + 1 := zu_ss _ _ _ _
  refine ⟨⟨hXm, ?_, ⟨?_, ?_⟩, ?_, ?_, ?_, ?_, fun j hjn => ?_⟩, ⟨fun q x1 x2 x3 x4 x5 x6 => ?_, fun j x => ?_, fun q x y z => ?_, fun j x => w41 j x, fun q j x y z => ?_, fun q j x y z => ?_⟩, by rw [uc]; exact ck, g4⟩
  · exact hh1.o (ua 1 (by decide) (by decide) (by decide) (by decide) (by decide)) (ua 2 (by decide) (by decide) (by decide) (by decide) (by decide)) (ua 3 (by decide) (by decide) (by decide) (by decide) (by decide)) (ua 4 (by decide) (by decide) (by decide) (by decide) (by decide)) (ua 5 (by decide) (by decide) (by decide) (by decide) (by decide)) (by rw [w41 1 (by decide), e41]) (wa 42 (by decide) (by decide) (by decide) (by decide) (by decide)) (wa 43 (by decide) (by decide) (by decide) (by decide) (by decide)) (wa 44 (by decide) (by decide) (by decide) (by decide) (by decide)) (wa 45 (by decide) (by decide) (by decide) (by decide) (by decide))
  · rw [wa 46 (by decide) (by decide) (by decide) (by decide) (by decide), ua 6 (by decide) (by decide) (by decide) (by decide) (by decide)]; exact r1.1
  · rw [ua 6 (by decide) (by decide) (by decide) (by decide) (by decide)]; exact r1.2
  · exact g1.o (ub 1 (by decide)) (ub 7 (by decide)) (ub 8 (by decide)) (ub 9 (by decide)) (ub 10 (by decide)) (by rw [w41 7 (by decide), b41]) (wb 47 (by decide)) (wb 48 (by decide)) (wb 49 (by decide))
  · rw [zu_ss, uc, b41, hck]
  · rw [uc, ck]; omega
  · exact hg1.o (ua 23 (by decide) (by decide) (by decide) (by decide) (by decide)) (ua 24 (by decide) (by decide) (by decide) (by decide) (by decide)) (ua 25 (by decide) (by decide) (by decide) (by decide) (by decide)) (ua 26 (by decide) (by decide) (by decide) (by decide) (by decide)) (by rw [w41 30 (by decide), e41]) (wa 64 (by decide) (by decide) (by decide) (by decide) (by decide)) (wa 65 (by decide) (by decide) (by decide) (by decide) (by decide)) (wa 66 (by decide) (by decide) (by decide) (by decide) (by decide)) (wa 67 (by decide) (by decide) (by decide) (by decide) (by decide))
  · have := g3 j hjn
    rw [if_pos hjn, e0] at this
    rw [uc, ck]
    exact this.o (ub _ (by omega)) (ub _ (by omega)) (ub _ (by omega)) (fun q x y => by rw [wb q (by omega)]) (fun p hp => ⟨by rw [wb 62 (by decide)], by rw [wb 63 (by decide)]⟩) (wb 42 (by decide)) (wb 43 (by decide))
  · rw [ua q x1 x2 x4 x5 x6]; exact ru q x3 x4
  · rw [zu_s, pk_un x, a0]
  · rw [wa q x (by omega) (by omega) (by omega) z]; exact rw_ q (by omega) (by omega)
  · rw [wb q (by omega), f3 q j x y z, rw_ q (by omega) (by omega)]
  · rw [wb q (by omega), f4 q j x y z, rw_ q (by omega) (by omega)]
theorem zSim.mins {n t : Nat} {ls : zLi} {u w : zI} (h : zSim n t ls u w) : ∀ k : Nat, (u 0 10).toInt + k ≤ 1000000 → zSim n t ls (zmins u n t ls.length k) (zmmins w n t ls.length (zfa ls) k) ∧ zFm n u w (zmins u n t ls.length k) (zmmins w n t ls.length (zfa ls) k) ∧ (zmins u n t ls.length k 0 10).toInt = (u 0 10).toInt + k ∧ zdns u n t ls.length k = zmdns w n t ls.length (zfa ls) k
  | 0, _ => ⟨h, ⟨fun _ _ _ _ _ _ _ => rfl, fun _ _ => rfl, fun _ _ _ _ => rfl, fun _ _ => rfl, fun _ _ _ _ _ => rfl, fun _ _ _ _ _ => rfl⟩, by show (u 0 10).toInt = _; omega, rfl⟩
  | k + 1, hk => by
    obtain ⟨g1, g2, g3, g4⟩ := zSim.mins h k (by omega)
    obtain ⟨f1, f2, f3, f4⟩ := g1.min (by omega)
    refine ⟨f1, g2.tr f2, ?_, ?_⟩
    · show (zminu (zmins u n t ls.length k) n t ls.length 0 10).toInt = _
      rw [f3, g3]
      omega
    · show zdns u n t ls.length k + _ = zmdns w n t ls.length (zfa ls) k + _
      rw [g4, f4]
