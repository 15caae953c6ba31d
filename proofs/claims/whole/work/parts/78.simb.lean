/-! begin and arrive, either way -/
theorem zbest_same {u w : zI} {i t : Nat} (ht : zRt u w t) (h56 : w 56 i = u (91 + 3 * i) 6) : zmbest w i t = zbest u i t ∧ ((zbest u i t = -1) ∨ ∃ k, k < t ∧ zbest u i t = nI k) := by
  obtain ⟨-, -, h20, h47, h48, -, hs, -⟩ := ht
  unfold zmbest zbest
  rw [h47, h48, h56]
  obtain ⟨e1, e2⟩ := zst_same (inn := u 9) (st := u 8) (fun k => (hs k).1) (u (91 + 3 * i) 6) t h20
  rw [e1]
  refine ⟨rfl, e2.imp (fun z => z.1) (fun ⟨k, hk, z, _⟩ => ⟨k, hk, z⟩)⟩
theorem zRt.o {u w u2 w2 : zI} {t : Nat} (h : zRt u w t) (e1 : u2 1 = u 1) (e7 : u2 7 = u 7) (e8 : u2 8 = u 8) (e9 : u2 9 = u 9) (e10 : u2 10 = u 10) (f7 : w2 41 7 = w 41 7) (f47 : w2 47 = w 47) (f48 : w2 48 = w 48) (f49 : w2 49 = w 49) : zRt u2 w2 t := by
  unfold zRt
  rw [e1, e7, e8, e9, e10, f7, f47, f48, f49]
  exact h
theorem zFw.rh {u w u2 w2 : zI} {i : Nat} (h : zRh u w) (e1 : u2 1 = u 1) (e2 : u2 2 = u 2) (e3 : u2 3 = u 3) (e4 : u2 4 = u 4) (e5 : u2 5 = u 5) (hf : zFw i w w2) : zRh u2 w2 :=
  h.o e1 e2 e3 e4 e5 (by rw [hf.1 41 (by decide) (by decide) (by decide) (by decide)]) (hf.1 42 (by decide) (by decide) (by decide) (by decide)) (hf.1 43 (by decide) (by decide) (by decide) (by decide)) (hf.1 44 (by decide) (by decide) (by decide) (by decide)) (hf.1 45 (by decide) (by decide) (by decide) (by decide))
theorem zharn_p (u : zI) (i : Nat) (te : Int32) : zharn u i te (91 + 3 * i + 1) = u (91 + 3 * i + 1) ∧ zharn u i te (91 + 3 * i + 2) = u (91 + 3 * i + 2) := ⟨zharn_o u i te (by omega) (by omega) (by omega), zharn_o u i te (by omega) (by omega) (by omega)⟩
theorem zset_sim {u w : zI} {n t m tl i : Nat} {en : Nat → Nat} (hX : zXI n t m tl en u) (hi : i < n) (hh : zRh u w) (ht : zRt u w t) (hck : w 41 0 = u 0 10) (hc : 0 ≤ (u 0 10).toInt ∧ (u 0 10).toInt ≤ 1000000) {τ : Int} (hj : zRj u w i τ) (h0 : u (91 + 3 * i) 5 = 0) : zRt (zset u i t) (zmset w i t) t ∧ zRj (zset u i t) (zmset w i t) i ((u 0 10).toInt + 1) := by
  have hX2 := zXI.set hX hi h0
  have hfw : zFw i w (zmset w i t) := (zFw.rf i w).set t
  obtain ⟨⟨a1, a2, a3, a4, a5⟩, ⟨b1, b2, b3, b4⟩, ⟨c0, c1, c4⟩, d, e, f, g⟩ := hj
  rw [h0, if_neg (by decide)] at e
  obtain ⟨eb, hb⟩ := zbest_same (i := i) ht b2
  have hne : ¬ u (91 + 3 * i) 5 = 4 := by rw [h0]; decide
  have hsg := (hX.2.2.2.2.2.2.1 i hi).sg hX.1.2 hne
  have f' : ∀ p, p < 5 → w 62 (5 * i + p) = u (91 + 3 * i + 1) p ∧ w 63 (5 * i + p) = u (91 + 3 * i + 1) p := fun p hp => by
    have := f p hp
    rw [h0, if_neg (by decide)] at this
    exact this
  obtain ⟨t1, t2, t3, t4, t5, t6, t7, t8⟩ := ht
  have hinv : zP9 (zset u i t 1 0).toInt t (zset u i t 9) := hX2.2.2.2.1
  rcases hb with hb | ⟨k, hk, hb⟩
  · have es : zset u i t = zu u (91 + 3 * i) 10 (u (91 + 3 * i) 10 + 1) := by unfold zset; rw [if_pos hb]
    have em : zmset w i t = zu w 60 i (w 60 i + 1) := by unfold zmset; rw [eb, hb, if_pos (by decide)]
    rw [es, em]
    have n1 : ∀ q, q < 91 → zu u (91 + 3 * i) 10 (u (91 + 3 * i) 10 + 1) q = u q := fun q hq => zu_n _ _ _ (by omega)
    refine ⟨⟨by rw [n1 7 (by decide)]; exact t1, t2, t3, by rw [n1 8 (by decide)]; exact t4, by rw [n1 9 (by decide)]; exact t5, by rw [n1 10 (by decide)]; exact t6, fun k => by rw [n1 8 (by decide)]; exact t7 k, by rw [n1 9 (by decide), n1 1 (by decide)]; exact t8⟩, ?_⟩
    have ej : ∀ j, j ≠ 10 → zu u (91 + 3 * i) 10 (u (91 + 3 * i) 10 + 1) (91 + 3 * i) j = u (91 + 3 * i) j := fun j hj => by rw [zu_s, pk_un hj]
    unfold zRj
    rw [ej 0 (by decide), ej 1 (by decide), ej 2 (by decide), ej 3 (by decide), ej 4 (by decide), ej 5 (by decide), ej 6 (by decide), ej 7 (by decide), ej 8 (by decide), ej 9 (by decide), ej 11 (by decide), ej 12 (by decide), h0, zu_ss, zu_n _ _ _ (show 91 + 3 * i + 1 ≠ 91 + 3 * i by omega), zu_n _ _ _ (show 91 + 3 * i + 2 ≠ 91 + 3 * i by omega)]
    rw [h0] at b1
    refine ⟨⟨a1, a2, a3, a4, a5⟩, ⟨b1, b2, b3, b4⟩, ⟨c0, c1, c4⟩, ⟨fun z => absurd z (by decide), fun z => absurd z (by decide)⟩, ?_, fun p hp => ?_, fun z => absurd z (by decide)⟩
    · rw [zu_ss, if_neg (by decide), e]
    · rw [if_neg (by decide)]; exact f' p hp
  · have hne1 : ¬ nI k = -1 := fun z => by
      have := congrArg Int32.toInt z
      rw [nI_toInt (by omega), show Int32.toInt (-1) = -1 by decide] at this
      omega
    have es : zset u i t = zdep (zharn u i (nI k)) i 0 := by unfold zset; rw [hb, if_neg hne1]
    have em : zmset w i t = zu (zu (zmlv (zmharn w i (nI k)) i (w 41 0)) 55 i 1) 60 i 0 := by unfold zmset; rw [eb, hb, if_neg (by rw [nI_toInt (by omega)]; omega)]
    have hcl : (nI k).toNatClampNeg = k := nI_clamp (by omega)
    have hw57 : zmharn w i (nI k) 57 i = nI k := zmharn_57 w i (nI k)
    have hwo : ∀ q, q ≠ 57 → q ≠ 48 → q ≠ 49 → zmharn w i (nI k) q = w q := fun q x y z => zmharn_o w i (nI k) x y z
    have huo : ∀ q, q ≠ 9 → q ≠ 10 → q ≠ 91 + 3 * i → zharn u i (nI k) q = u q := fun q x y z => zharn_o u i (nI k) x y z
    have huc : ∀ j, j ≠ 7 → zharn u i (nI k) (91 + 3 * i) j = u (91 + 3 * i) j := fun j hj => zharn_c u i (nI k) hj
    have hrl : zRl (zharn u i (nI k)) (zmharn w i (nI k)) i 0 := by
      refine ⟨hh.o (huo 1 (by decide) (by decide) (by omega)) (huo 2 (by decide) (by decide) (by omega)) (huo 3 (by decide) (by decide) (by omega)) (huo 4 (by decide) (by decide) (by omega)) (huo 5 (by decide) (by decide) (by omega)) (by rw [hwo 41 (by decide) (by decide) (by decide)]) (hwo 42 (by decide) (by decide) (by decide)) (hwo 43 (by decide) (by decide) (by decide)) (hwo 44 (by decide) (by decide) (by decide)) (hwo 45 (by decide) (by decide) (by decide)), ⟨?_, ?_⟩, ⟨?_, ?_, ?_, ?_⟩, ⟨?_, ?_, ?_⟩, ⟨?_, ?_⟩, fun p hp => ?_⟩
      · rw [hwo 47 (by decide) (by decide) (by decide), huo 8 (by decide) (by decide) (by omega)]; exact t4
      · rw [huo 8 (by decide) (by decide) (by omega)]; exact t7
      · rw [hwo 50 (by decide) (by decide) (by decide), huc 0 (by decide)]; exact a1
      · rw [hwo 51 (by decide) (by decide) (by decide), huc 1 (by decide)]; exact a2
      · rw [hwo 52 (by decide) (by decide) (by decide), huc 2 (by decide)]; exact a3
      · rw [hwo 53 (by decide) (by decide) (by decide), huc 3 (by decide)]; exact a4
      · rw [hwo 56 (by decide) (by decide) (by decide), huc 6 (by decide)]; exact b2
      · rw [hw57, zharn_7]
      · rw [hwo 60 (by decide) (by decide) (by decide), huc 10 (by decide)]; exact e
      · rw [huc 1 (by decide)]; exact c1
      · rw [zharn_sg, huo 1 (by decide) (by decide) (by omega)]; exact hsg
      · rw [hwo 63 (by decide) (by decide) (by decide), (zharn_p u i (nI k)).1, (f' p hp).2]
        split <;> exact (Int32.add_zero _).symm
    have hu010 : zharn u i (nI k) 0 = u 0 := huo 0 (by decide) (by decide) (by omega)
    obtain ⟨⟨g1, g2⟩, -⟩ := hrl.go (a := w 41 0) (by rw [hu010]; exact hck) (by rw [hu010]; exact hc)
    rw [es] at hinv ⊢
    rw [em]
    refine ⟨⟨?_, ?_, t3, ?_, ?_, ?_, g2, hinv⟩, ?_⟩
    · rw [zdep_o _ _ _ (by decide) (by omega) (by omega), huo 7 (by decide) (by decide) (by omega)]; exact t1
    · rw [zu_n _ _ _ (by decide), zu_n _ _ _ (by decide), zmlv_o _ _ _ (by decide) (by decide) (by decide) (by decide), hwo 41 (by decide) (by decide) (by decide)]; exact t2
    · rw [zu_n _ _ _ (by decide), zu_n _ _ _ (by decide)]; exact g1
    · rw [zu_n _ _ _ (by decide), zu_n _ _ _ (by decide), zmlv_o _ _ _ (by decide) (by decide) (by decide) (by decide), zdep_o _ _ _ (by decide) (by omega) (by omega)]
      unfold zmharn zharn
      rw [zu_n _ _ _ (by decide), zu_s, zu_n _ _ _ (by decide), zu_n _ _ _ (by omega), zu_n _ _ _ (by decide), zu_s, t5]
    · rw [zu_n _ _ _ (by decide), zu_n _ _ _ (by decide), zmlv_o _ _ _ (by decide) (by decide) (by decide) (by decide), zdep_o _ _ _ (by decide) (by omega) (by omega)]
      unfold zmharn zharn
      rw [zu_s, zu_n _ _ _ (by decide), zu_n _ _ _ (by decide), zu_n _ _ _ (by omega), zu_s, zu_n _ _ _ (by decide), t6]
    · have := hrl.rj (a := w 41 0) (w2 := zu (zu (zmlv (zmharn w i (nI k)) i (w 41 0)) 55 i 1) 60 i 0) (by rw [hu010]; exact hck) (by rw [hu010]; exact hc) (by rw [hwo 54 (by decide) (by decide) (by decide), huc 4 (by decide)]; exact a5) (by rw [hwo 61 (by decide) (by decide) (by decide), huc 12 (by decide)]; exact b4) (fun p hp => by rw [hwo 62 (by decide) (by decide) (by decide), (zharn_p u i (nI k)).1]; exact (f' p hp).1) (by rw [huc 0 (by decide)]; exact c0) (by rw [huc 4 (by decide)]; exact c4) (fun q x y => by rw [zu_n _ _ _ y, zu_n _ _ _ x]) (by rw [zu_n _ _ _ (by decide), zu_ss]; rfl) (by rw [zu_ss]; rfl)
      rw [hu010] at this
      exact this
/-! arrive -/
theorem zaddp_1 (iv : zI) (c : Nat) : ∀ m p, zaddp iv c m (c + 1) p = if p < m then iv (c + 1) p + iv (c + 2) p else iv (c + 1) p
  | 0, p => by rw [zaddp, if_neg (by omega)]
  | m + 1, p => by
    rw [zaddp, zu_s]
    by_cases e : p = m
    · subst e
      rw [pk_us, zaddp_1 iv c p p, if_neg (by omega), if_pos (by omega)]
    · rw [pk_un e, zaddp_1 iv c m p]
      by_cases h : p < m
      · rw [if_pos h, if_pos (by omega)]
      · rw [if_neg h, if_neg (by omega)]
theorem zar2_p (u : zI) (i a d : Nat) (p : Nat) : zar2 u i a d (91 + 3 * i + 1) p = if p < 5 then u (91 + 3 * i + 1) p + u (91 + 3 * i + 2) p else u (91 + 3 * i + 1) p := by
  unfold zar2 zar1
  rw [zu_n _ _ _ (by omega), zu_n _ _ _ (by omega), zaddp_1, zu_n _ _ _ (by omega), zu_n _ _ _ (by omega), zu_n _ _ _ (by omega), zu_n _ _ _ (by omega)]
theorem zar2_10 (u : zI) (i a d : Nat) : zar2 u i a d (91 + 3 * i) 10 = 0 := by
  unfold zar2 zar1
  rw [zu_s, pk_un (by decide), zu_s, pk_un (by decide), zaddp_o _ _ (by omega), zu_ss]
theorem zar2_11 (u : zI) (i a d : Nat) : zar2 u i a d (91 + 3 * i) 11 = ztoldx u i a d ∧ zar2 u i a d (91 + 3 * i) 12 = u 0 10 - ztoldx u i a d := by
  unfold zar2
  rw [zu_s, pk_us, pk_un (by decide), zu_ss]
  exact ⟨rfl, rfl⟩
theorem zmcp_62 (w : zI) (i : Nat) : ∀ m, ∀ p, p < m → zmcp w i m 62 (5 * i + p) = w 63 (5 * i + p)
  | 0, p, h => absurd h (by omega)
  | m + 1, p, h => by
    rw [zmcp, zu_s]
    by_cases e : p = m
    · subst e; rw [pk_us]
    · rw [pk_un (by omega)]; exact zmcp_62 w i m p (by omega)
theorem zma4_v (w : zI) (i : Nat) : zma4 w i 60 i = 0 ∧ zma4 w i 61 i = w 41 0 - zmtold w i (w 56 i + zstep (w 52 i) (w 53 i)).toNatClampNeg ∧ (∀ p, p < 5 → zma4 w i 62 (5 * i + p) = w 63 (5 * i + p)) := by
  refine ⟨?_, ?_, fun p hp => ?_⟩
  · unfold zma4
    rw [zu_ss]
  · unfold zma4
    rw [zu_n _ _ _ (by decide), zu_n _ _ _ (by decide), zu_n _ _ _ (by decide), zmcp_o _ _ (by decide)]
    unfold zma2
    rw [zu_ss]
  · unfold zma4
    rw [zu_n _ _ _ (by decide), zu_n _ _ _ (by decide), zu_n _ _ _ (by decide), zmcp_62 _ _ 5 p hp]
    unfold zma2 zma1
    rw [zu_n _ _ _ (by decide), zu_n _ _ _ (by decide)]
theorem zarr_sim {u w : zI} {n t m tl i : Nat} {en : Nat → Nat} (hX : zXI n t m tl en u) (hi : i < n) (hh : zRh u w) (ht : zRt u w t) (hck : w 41 0 = u 0 10) {τ σ : Int} (hj : zRj u w i τ) (h1 : u (91 + 3 * i) 5 = 1) : zRt (zarr u i (zaa (u (91 + 3 * i))) (zdd (u (91 + 3 * i)))) (zmarr w i) t ∧ zRj (zarr u i (zaa (u (91 + 3 * i))) (zdd (u (91 + 3 * i)))) (zmarr w i) i σ := by
  have hX2 := zXI.arr (a := zaa (u (91 + 3 * i))) (d := zdd (u (91 + 3 * i))) hX hi h1
  have hfw : zFw i w (zmarr w i) := (zFw.rf i w).arr
  obtain ⟨⟨a1, a2, a3, a4, a5⟩, ⟨b1, b2, b3, b4⟩, ⟨c0, c1, c4⟩, d, e, f, g⟩ := hj
  have hne : ¬ u (91 + 3 * i) 5 = 4 := by rw [h1]; decide
  have hCI := hX.2.2.2.2.2.2.1 i hi
  have had := hCI.ad hX.1.2 hne
  have hnx := hCI.nx hX.1.2 hne
  have f' : ∀ p, p < 5 → w 63 (5 * i + p) = u (91 + 3 * i + 1) p + u (91 + 3 * i + 2) p := fun p hp => by
    have := (f p hp).2
    rw [h1, if_pos (Or.inl rfl)] at this
    exact this
  obtain ⟨t1, t2, t3, t4, t5, t6, t7, t8⟩ := ht
  have hinv := hX2.2.2.2.1
  have hinn : w 56 i + zstep (w 52 i) (w 53 i) = u (91 + 3 * i) 6 + zstep (u (91 + 3 * i) 2) (u (91 + 3 * i) 3) := by rw [b2, a3, a4]
  have htold : ztoldx u i (zaa (u (91 + 3 * i))) (zdd (u (91 + 3 * i))) = zmtold w i (u (91 + 3 * i) 6 + zstep (u (91 + 3 * i) 2) (u (91 + 3 * i) 3)).toNatClampNeg := by
    obtain ⟨hI, -⟩ := hX
    obtain ⟨l1, l2, l3⟩ := had
    obtain ⟨k1, k2, k3, k5, k6, k7, k8, k9⟩ := hCI
    have k8 := k8 hne
    refine ztold_same hh.2.2.1 hh.2.2.2.1 a1 a3 a4 a5 (by omega) ?_
    have ql := congrArg Int32.toInt l1
    have qh := congrArg Int32.toInt l2
    rw [zlo_t, nI_toInt (by omega)] at ql
    rw [zhi_t, nI_toInt (by omega)] at qh
    by_cases c : (u (91 + 3 * i) 2).toInt < (u (91 + 3 * i) 3).toInt
    · rw [if_pos c] at hnx
      have := k5 c
      rw [if_neg (by omega)] at ql
      rw [if_pos (by omega)] at qh
      left
      refine ⟨c, Int32.toInt_inj.mp (by rw [ql, nI_toInt (by omega)]), ?_⟩
      have := zcl_int (x := u (91 + 3 * i) 6 + zstep (u (91 + 3 * i) 2) (u (91 + 3 * i) 3)) (by omega)
      omega
    · rw [if_neg c] at hnx
      have := k6 c
      rw [if_pos (by omega)] at ql
      rw [if_neg (by omega)] at qh
      right
      refine ⟨c, Int32.toInt_inj.mp (by rw [qh, nI_toInt (by omega)]), ?_⟩
      have := zcl_int (x := u (91 + 3 * i) 6 + zstep (u (91 + 3 * i) 2) (u (91 + 3 * i) 3)) (by omega)
      omega
  generalize zaa (u (91 + 3 * i)) = aa at *
  generalize zdd (u (91 + 3 * i)) = dd at *
  have e5 := zarr_5 u i aa dd
  have e6 := zarr_6 u i aa dd
  have ec : ∀ j, j ≠ 5 → j ≠ 6 → j ≠ 7 → j ≠ 10 → j ≠ 11 → j ≠ 12 → zarr u i aa dd (91 + 3 * i) j = u (91 + 3 * i) j := fun j x1 x2 x3 x4 x5 x6 => zarr_c u i aa dd x1 x2 x3 x4 x5 x6
  obtain ⟨v60, v61, v62⟩ := zma4_v w i
  have v56 := zma4_56 w i
  rw [hinn] at v61 v56
  rw [← htold, hck] at v61
  have eo : ∀ q, q ≠ 9 → q ≠ 10 → q ≠ 91 + 3 * i + 1 → q ≠ 91 + 3 * i → zarr u i aa dd q = u q := fun q x1 x2 x3 x4 => zarr_o u i aa dd x1 x2 x3 x4
  have wo : ∀ q, q ≠ 56 → q ≠ 61 → q ≠ 62 → q ≠ 59 → q ≠ 58 → q ≠ 60 → zma4 w i q = w q := fun q x1 x2 x3 x4 x5 x6 => zma4_o w i x1 x2 x3 x4 x5 x6
  have hmt : ∀ b, zmtold (zmarr w i) i b = zmtold w i b := fun b => zmtold_c (hfw.1 42 (by decide) (by decide) (by decide) (by decide)) (hfw.1 43 (by decide) (by decide) (by decide) (by decide)) (hfw.1 50 (by decide) (by decide) (by decide) (by decide)) (hfw.1 52 (by decide) (by decide) (by decide) (by decide)) (hfw.1 53 (by decide) (by decide) (by decide) (by decide)) (hfw.1 54 (by decide) (by decide) (by decide) (by decide))
  by_cases c : u (91 + 3 * i) 6 + zstep (u (91 + 3 * i) 2) (u (91 + 3 * i) 3) = u (91 + 3 * i) 3
  · rw [if_pos c] at e5
    have es : zarr u i aa dd = zu (zu (zu (zu (zar2 u i aa dd) 9 (u (91 + 3 * i) 7).toNatClampNeg (u (91 + 3 * i) 6 + zstep (u (91 + 3 * i) 2) (u (91 + 3 * i) 3))) 10 (u (91 + 3 * i) 7).toNatClampNeg (-1)) (91 + 3 * i) 7 (-1)) (91 + 3 * i) 5 4 := by unfold zarr; rw [if_pos c]
    have em : zmarr w i = zu (zu (zu (zu (zma4 w i) 55 i 4) 48 (w 57 i).toNatClampNeg (w 56 i + zstep (w 52 i) (w 53 i))) 49 (w 57 i).toNatClampNeg (-1)) 57 i (-1) := by unfold zmarr; rw [if_pos (by rw [hinn, a4]; exact c)]
    have x9 : zarr u i aa dd 9 = upd (u 9) (u (91 + 3 * i) 7).toNatClampNeg (u (91 + 3 * i) 6 + zstep (u (91 + 3 * i) 2) (u (91 + 3 * i) 3)) := by rw [es, zu_n _ _ _ (by omega), zu_n _ _ _ (by omega), zu_n _ _ _ (by decide), zu_s, zar2_o _ _ _ _ (by omega) (by omega)]
    have x10 : zarr u i aa dd 10 = upd (u 10) (u (91 + 3 * i) 7).toNatClampNeg (-1) := by rw [es, zu_n _ _ _ (by omega), zu_n _ _ _ (by omega), zu_s, zu_n _ _ _ (by decide), zar2_o _ _ _ _ (by omega) (by omega)]
    have x7 : zarr u i aa dd (91 + 3 * i) 7 = -1 := by rw [es, zu_s, pk_un (by decide), zu_ss]
    have xc : ∀ j, j ≠ 5 → j ≠ 7 → zarr u i aa dd (91 + 3 * i) j = zar2 u i aa dd (91 + 3 * i) j := fun j y1 y2 => by rw [es, zu_s, pk_un y1, zu_s, pk_un y2, zu_n _ _ _ (by omega), zu_n _ _ _ (by omega)]
    have xp : zarr u i aa dd (91 + 3 * i + 1) = zar2 u i aa dd (91 + 3 * i + 1) := by rw [es, zu_n _ _ _ (by omega), zu_n _ _ _ (by omega), zu_n _ _ _ (by omega), zu_n _ _ _ (by omega)]
    have y : ∀ q, q ≠ 55 → q ≠ 48 → q ≠ 49 → q ≠ 57 → zmarr w i q = zma4 w i q := fun q y1 y2 y3 y4 => by rw [em, zu_n _ _ _ y4, zu_n _ _ _ y3, zu_n _ _ _ y2, zu_n _ _ _ y1]
    refine ⟨⟨by rw [eo 7 (by decide) (by decide) (by omega) (by omega)]; exact t1, by rw [hfw.1 41 (by decide) (by decide) (by decide) (by decide)]; exact t2, t3, ?_, ?_, ?_, ?_, hinv⟩, ?_⟩
    · rw [y 47 (by decide) (by decide) (by decide) (by decide), wo 47 (by decide) (by decide) (by decide) (by decide) (by decide) (by decide), eo 8 (by decide) (by decide) (by omega) (by omega)]; exact t4
    · rw [x9, em, zu_n _ _ _ (by decide), zu_n _ _ _ (by decide), zu_s, zu_n _ _ _ (by decide), wo 48 (by decide) (by decide) (by decide) (by decide) (by decide) (by decide), t5, b3, hinn]
    · rw [x10, em, zu_n _ _ _ (by decide), zu_s, zu_n _ _ _ (by decide), zu_n _ _ _ (by decide), wo 49 (by decide) (by decide) (by decide) (by decide) (by decide) (by decide), t6, b3]
    · rw [eo 8 (by decide) (by decide) (by omega) (by omega)]; exact t7
    · unfold zRj
      have q50 := hfw.1 50 (by decide) (by decide) (by decide) (by decide)
      have q51 := hfw.1 51 (by decide) (by decide) (by decide) (by decide)
      have q52 := hfw.1 52 (by decide) (by decide) (by decide) (by decide)
      have q53 := hfw.1 53 (by decide) (by decide) (by decide) (by decide)
      have q54 := hfw.1 54 (by decide) (by decide) (by decide) (by decide)
      rw [q50, q51, q52, q53, q54, e5, e6, x7, ec 0 (by decide) (by decide) (by decide) (by decide) (by decide) (by decide), ec 1 (by decide) (by decide) (by decide) (by decide) (by decide) (by decide), ec 2 (by decide) (by decide) (by decide) (by decide) (by decide) (by decide), ec 3 (by decide) (by decide) (by decide) (by decide) (by decide) (by decide), ec 4 (by decide) (by decide) (by decide) (by decide) (by decide) (by decide), xc 10 (by decide) (by decide), xc 12 (by decide) (by decide), zar2_10, (zar2_11 u i aa dd).2, y 56 (by decide) (by decide) (by decide) (by decide), y 60 (by decide) (by decide) (by decide) (by decide), y 61 (by decide) (by decide) (by decide) (by decide), v56, v60, v61, xp]
      refine ⟨⟨a1, a2, a3, a4, a5⟩, ⟨?_, rfl, ?_, rfl⟩, ⟨c0, c1, c4⟩, ⟨fun z => absurd z (by decide), fun z => absurd z (by decide)⟩, rfl, fun p hp => ⟨?_, ?_⟩, fun z => absurd z (by decide)⟩
      · rw [em, zu_n _ _ _ (by decide), zu_n _ _ _ (by decide), zu_n _ _ _ (by decide), zu_ss]
      · rw [em, zu_ss]
      · rw [y 62 (by decide) (by decide) (by decide) (by decide), v62 p hp, f' p hp, zar2_p, if_pos hp]
      · rw [if_neg (by decide), y 63 (by decide) (by decide) (by decide) (by decide), wo 63 (by decide) (by decide) (by decide) (by decide) (by decide) (by decide), f' p hp, zar2_p, if_pos hp]
  · rw [if_neg c] at e5
    have es : zarr u i aa dd = zu (zar2 u i aa dd) (91 + 3 * i) 5 2 := by unfold zarr; rw [if_neg c]
    have em : zmarr w i = zu (zma4 w i) 55 i 2 := by unfold zmarr; rw [if_neg (by rw [hinn, a4]; exact c)]
    have x7 := zarr_7 u i aa dd c
    have x9 : ∀ q, q ≠ 91 + 3 * i → zarr u i aa dd q = zar2 u i aa dd q := fun q hq => by rw [es, zu_n _ _ _ hq]
    have xc : ∀ j, j ≠ 5 → zarr u i aa dd (91 + 3 * i) j = zar2 u i aa dd (91 + 3 * i) j := fun j y1 => by rw [es, zu_s, pk_un y1]
    have y : ∀ q, q ≠ 55 → zmarr w i q = zma4 w i q := fun q y1 => by rw [em, zu_n _ _ _ y1]
    refine ⟨⟨by rw [eo 7 (by decide) (by decide) (by omega) (by omega)]; exact t1, by rw [hfw.1 41 (by decide) (by decide) (by decide) (by decide)]; exact t2, t3, ?_, ?_, ?_, ?_, hinv⟩, ?_⟩
    · rw [y 47 (by decide), wo 47 (by decide) (by decide) (by decide) (by decide) (by decide) (by decide), eo 8 (by decide) (by decide) (by omega) (by omega)]; exact t4
    · rw [y 48 (by decide), wo 48 (by decide) (by decide) (by decide) (by decide) (by decide) (by decide), x9 9 (by omega), zar2_o _ _ _ _ (by omega) (by omega)]; exact t5
    · rw [y 49 (by decide), wo 49 (by decide) (by decide) (by decide) (by decide) (by decide) (by decide), x9 10 (by omega), zar2_o _ _ _ _ (by omega) (by omega)]; exact t6
    · rw [eo 8 (by decide) (by decide) (by omega) (by omega)]; exact t7
    · unfold zRj
      have q50 := hfw.1 50 (by decide) (by decide) (by decide) (by decide)
      have q51 := hfw.1 51 (by decide) (by decide) (by decide) (by decide)
      have q52 := hfw.1 52 (by decide) (by decide) (by decide) (by decide)
      have q53 := hfw.1 53 (by decide) (by decide) (by decide) (by decide)
      have q54 := hfw.1 54 (by decide) (by decide) (by decide) (by decide)
      rw [q50, q51, q52, q53, q54, e5, e6, x7, ec 0 (by decide) (by decide) (by decide) (by decide) (by decide) (by decide), ec 1 (by decide) (by decide) (by decide) (by decide) (by decide) (by decide), ec 2 (by decide) (by decide) (by decide) (by decide) (by decide) (by decide), ec 3 (by decide) (by decide) (by decide) (by decide) (by decide) (by decide), ec 4 (by decide) (by decide) (by decide) (by decide) (by decide) (by decide), xc 10 (by decide), xc 11 (by decide), xc 12 (by decide), zar2_10, (zar2_11 u i aa dd).1, (zar2_11 u i aa dd).2, y 56 (by decide), y 57 (by decide), y 60 (by decide), y 61 (by decide), v56, v60, v61, x9 (91 + 3 * i + 1) (by omega), wo 57 (by decide) (by decide) (by decide) (by decide) (by decide) (by decide)]
      refine ⟨⟨a1, a2, a3, a4, a5⟩, ⟨?_, rfl, b3, rfl⟩, ⟨c0, c1, c4⟩, ⟨fun z => absurd z (by decide), fun z => absurd z (by decide)⟩, rfl, fun p hp => ⟨?_, ?_⟩, fun _ => ?_⟩
      · rw [em, zu_ss]
      · rw [y 62 (by decide), v62 p hp, f' p hp, zar2_p, if_pos hp]
      · rw [if_neg (by decide), y 63 (by decide), wo 63 (by decide) (by decide) (by decide) (by decide) (by decide) (by decide), f' p hp, zar2_p, if_pos hp]
      · rw [hmt, htold]
