/-! what the guard of a held coach does, either way -/
theorem zwait_sim {u w : zI} {t i : Nat} (ht : zRt u w t) {τ σ : Int} (hj : zRj u w i τ) (h2 : u (91 + 3 * i) 5 = 2) : zRt (zu u (91 + 3 * i) 10 (u (91 + 3 * i) 10 + 1)) (zu w 60 i (w 60 i + 1)) t ∧ zRj (zu u (91 + 3 * i) 10 (u (91 + 3 * i) 10 + 1)) (zu w 60 i (w 60 i + 1)) i σ := by
  obtain ⟨⟨a1, a2, a3, a4, a5⟩, ⟨b1, b2, b3, b4⟩, ⟨c0, c1, c4⟩, d, e, f, g⟩ := hj
  have n1 : ∀ q, q < 91 → zu u (91 + 3 * i) 10 (u (91 + 3 * i) 10 + 1) q = u q := fun q hq => zu_n _ _ _ (by omega)
  refine ⟨ht.o (n1 1 (by decide)) (n1 7 (by decide)) (n1 8 (by decide)) (n1 9 (by decide)) (n1 10 (by decide)) rfl rfl rfl rfl, ?_⟩
  have ej : ∀ j, j ≠ 10 → zu u (91 + 3 * i) 10 (u (91 + 3 * i) 10 + 1) (91 + 3 * i) j = u (91 + 3 * i) j := fun j hj => by rw [zu_s, pk_un hj]
  have f' : ∀ p, p < 5 → w 62 (5 * i + p) = u (91 + 3 * i + 1) p ∧ w 63 (5 * i + p) = u (91 + 3 * i + 1) p := fun p hp => by
    have := f p hp
    rw [h2, if_neg (by decide)] at this
    exact this
  have g' := g h2
  rw [h2, if_neg (by decide)] at e
  unfold zRj
  rw [ej 0 (by decide), ej 1 (by decide), ej 2 (by decide), ej 3 (by decide), ej 4 (by decide), ej 5 (by decide), ej 6 (by decide), ej 7 (by decide), ej 8 (by decide), ej 9 (by decide), ej 11 (by decide), ej 12 (by decide), h2, zu_ss, zu_n _ _ _ (show 91 + 3 * i + 1 ≠ 91 + 3 * i by omega), zu_n _ _ _ (show 91 + 3 * i + 2 ≠ 91 + 3 * i by omega)]
  rw [h2] at b1
  refine ⟨⟨a1, a2, a3, a4, a5⟩, ⟨b1, b2, b3, b4⟩, ⟨c0, c1, c4⟩, ⟨fun z => absurd z (by decide), fun z => absurd z (by decide)⟩, ?_, fun p hp => ?_, fun _ => g'⟩
  · rw [zu_ss, if_neg (by decide), e]
  · rw [if_neg (by decide)]; exact f' p hp
theorem zobf_sim {u w : zI} {n t m tl i : Nat} {en : Nat → Nat} (hX : zXI n t m tl en u) (hi : i < n) (hh : zRh u w) (ht : zRt u w t) (hck : w 41 0 = u 0 10) (hc : 0 ≤ (u 0 10).toInt ∧ (u 0 10).toInt ≤ 1000000) {τ : Int} (hj : zRj u w i τ) (h2 : u (91 + 3 * i) 5 = 2) {od : Int32} (ho : zordk od) : zRt (zobf u i (zbest u i t) od) (zmobf w i (zbest u i t) (zdc od)) t ∧ zRj (zobf u i (zbest u i t) od) (zmobf w i (zbest u i t) (zdc od)) i ((u 0 10).toInt + 1) := by
  have hX2 := zXI.obf (od := od) hX hi h2
  have hwait := zwait_sim (σ := (u 0 10).toInt + 1) ht hj h2
  obtain ⟨⟨a1, a2, a3, a4, a5⟩, ⟨b1, b2, b3, b4⟩, ⟨c0, c1, c4⟩, d, e, f, g⟩ := hj
  rw [h2, if_neg (by decide)] at e
  obtain ⟨eb, hb⟩ := zbest_same (i := i) ht b2
  have hne : ¬ u (91 + 3 * i) 5 = 4 := by rw [h2]; decide
  have hsg := (hX.2.2.2.2.2.2.1 i hi).sg hX.1.2 hne
  have f' : ∀ p, p < 5 → w 62 (5 * i + p) = u (91 + 3 * i + 1) p ∧ w 63 (5 * i + p) = u (91 + 3 * i + 1) p := fun p hp => by
    have := f p hp
    rw [h2, if_neg (by decide)] at this
    exact this
  obtain ⟨t1, t2, t3, t4, t5, t6, t7, t8⟩ := ht
  have hinv := hX2.2.2.2.1
  rcases ho with ho | ho | ho
  · subst ho
    have es : zobf u i (zbest u i t) 202 = zu u (91 + 3 * i) 10 (u (91 + 3 * i) 10 + 1) := by unfold zobf; rw [if_neg (by decide), if_neg (fun z => absurd z.1 (by decide))]
    have em : zmobf w i (zbest u i t) (zdc 202) = zu w 60 i (w 60 i + 1) := by unfold zmobf; rw [if_pos (Or.inl (by decide))]
    rw [es, em]
    exact hwait
  · subst ho
    have es : zobf u i (zbest u i t) 203 = zdep u i 0 := by unfold zobf; rw [if_pos rfl]
    have em : zmobf w i (zbest u i t) (zdc 203) = zu (zu (zmlv w i (w 41 0)) 55 i 1) 60 i 0 := by unfold zmobf; rw [if_neg (fun z => z.elim (fun z => absurd z (by decide)) (fun z => absurd z.1 (by decide))), if_neg (by decide), if_pos (by decide)]
    have hrl : zRl u w i 0 := ⟨hh, ⟨t4, t7⟩, ⟨a1, a2, a3, a4⟩, ⟨b2, b3, e⟩, ⟨c1, hsg⟩, fun p hp => by rw [(f' p hp).2]; split <;> exact (Int32.add_zero _).symm⟩
    obtain ⟨⟨g1, g2⟩, -⟩ := hrl.go (a := w 41 0) hck hc
    rw [es] at hinv ⊢
    rw [em]
    refine ⟨⟨?_, ?_, t3, ?_, ?_, ?_, g2, hinv⟩, hrl.rj (a := w 41 0) hck hc a5 b4 (fun p hp => (f' p hp).1) c0 c4 (fun q x y => by rw [zu_n _ _ _ y, zu_n _ _ _ x]) (by rw [zu_n _ _ _ (by decide), zu_ss]; rfl) (by rw [zu_ss]; rfl)⟩
    · rw [zdep_o _ _ _ (by decide) (by omega) (by omega)]; exact t1
    · rw [zu_n _ _ _ (by decide), zu_n _ _ _ (by decide), zmlv_o _ _ _ (by decide) (by decide) (by decide) (by decide)]; exact t2
    · rw [zu_n _ _ _ (by decide), zu_n _ _ _ (by decide)]; exact g1
    · rw [zu_n _ _ _ (by decide), zu_n _ _ _ (by decide), zmlv_o _ _ _ (by decide) (by decide) (by decide) (by decide), zdep_o _ _ _ (by decide) (by omega) (by omega)]; exact t5
    · rw [zu_n _ _ _ (by decide), zu_n _ _ _ (by decide), zmlv_o _ _ _ (by decide) (by decide) (by decide) (by decide), zdep_o _ _ _ (by decide) (by omega) (by omega)]; exact t6
  · subst ho
    rcases hb with hb | ⟨k, hk, hb⟩
    · have es : zobf u i (zbest u i t) 204 = zu u (91 + 3 * i) 10 (u (91 + 3 * i) 10 + 1) := by unfold zobf; rw [if_neg (by decide), if_neg (fun z => z.2 hb)]
      have em : zmobf w i (zbest u i t) (zdc 204) = zu w 60 i (w 60 i + 1) := by unfold zmobf; rw [if_pos (Or.inr ⟨by decide, by rw [hb]; decide⟩)]
      rw [es, em]
      exact hwait
    · have hne1 : ¬ nI k = -1 := fun z => by
        have := congrArg Int32.toInt z
        rw [nI_toInt (by omega), show Int32.toInt (-1) = -1 by decide] at this
        omega
      have es : zobf u i (zbest u i t) 204 = zdep (zharn (zstb u i) i (nI k)) i 1 := by unfold zobf; rw [hb, if_neg (by decide), if_pos ⟨rfl, hne1⟩]
      have em : zmobf w i (zbest u i t) (zdc 204) = zu (zmlv (zmchg w i (nI k)) i (w 41 0 + 2)) 55 i 3 := by unfold zmobf; rw [hb, if_neg (fun z => z.elim (fun z => absurd z (by decide)) (fun z => by have := z.2; rw [nI_toInt (by omega)] at this; omega)), if_pos (by decide)]
      have hwo : ∀ q, q ≠ 57 → q ≠ 48 → q ≠ 49 → q ≠ 63 → zmchg w i (nI k) q = w q := fun q x y z v => zmchg_o w i (nI k) x y z v
      have hw57 : zmchg w i (nI k) 57 i = nI k := by
        unfold zmchg
        rw [zu_n _ _ _ (by decide)]
        exact zmharn_57 _ i (nI k)
      have hw63 : zmchg w i (nI k) 63 = upd (w 63) (5 * i + 4) (w 63 (5 * i + 4) + 2) := by
        unfold zmchg
        rw [zu_s, zmharn_o _ _ _ (by decide) (by decide) (by decide), zmunh_o _ _ (by decide) (by decide) (by decide)]
      have huo : ∀ q, q ≠ 9 → q ≠ 10 → q ≠ 91 + 3 * i → zharn (zstb u i) i (nI k) q = u q := fun q x y z => by rw [zharn_o _ i (nI k) x y z, zstb_o _ _ x y]
      have hsc : zstb u i (91 + 3 * i) = u (91 + 3 * i) := zstb_o _ _ (by omega) (by omega)
      have huc : ∀ j, j ≠ 7 → zharn (zstb u i) i (nI k) (91 + 3 * i) j = u (91 + 3 * i) j := fun j hj => by rw [zharn_c _ i (nI k) hj, hsc]
      have hsg2 : zsg (zharn (zstb u i) i (nI k)) i = zsg u i := by
        rw [zharn_sg]
        unfold zsg
        rw [hsc]
      have hrl : zRl (zharn (zstb u i) i (nI k)) (zmchg w i (nI k)) i 1 := by
        refine ⟨hh.o (huo 1 (by decide) (by decide) (by omega)) (huo 2 (by decide) (by decide) (by omega)) (huo 3 (by decide) (by decide) (by omega)) (huo 4 (by decide) (by decide) (by omega)) (huo 5 (by decide) (by decide) (by omega)) (by rw [hwo 41 (by decide) (by decide) (by decide) (by decide)]) (hwo 42 (by decide) (by decide) (by decide) (by decide)) (hwo 43 (by decide) (by decide) (by decide) (by decide)) (hwo 44 (by decide) (by decide) (by decide) (by decide)) (hwo 45 (by decide) (by decide) (by decide) (by decide)), ⟨?_, ?_⟩, ⟨?_, ?_, ?_, ?_⟩, ⟨?_, ?_, ?_⟩, ⟨?_, ?_⟩, fun p hp => ?_⟩
        · rw [hwo 47 (by decide) (by decide) (by decide) (by decide), huo 8 (by decide) (by decide) (by omega)]; exact t4
        · rw [huo 8 (by decide) (by decide) (by omega)]; exact t7
        · rw [hwo 50 (by decide) (by decide) (by decide) (by decide), huc 0 (by decide)]; exact a1
        · rw [hwo 51 (by decide) (by decide) (by decide) (by decide), huc 1 (by decide)]; exact a2
        · rw [hwo 52 (by decide) (by decide) (by decide) (by decide), huc 2 (by decide)]; exact a3
        · rw [hwo 53 (by decide) (by decide) (by decide) (by decide), huc 3 (by decide)]; exact a4
        · rw [hwo 56 (by decide) (by decide) (by decide) (by decide), huc 6 (by decide)]; exact b2
        · rw [hw57, zharn_7]
        · rw [hwo 60 (by decide) (by decide) (by decide) (by decide), huc 10 (by decide)]; exact e
        · rw [huc 1 (by decide)]; exact c1
        · rw [hsg2, huo 1 (by decide) (by decide) (by omega)]; exact hsg
        · rw [hw63, (zharn_p _ i (nI k)).1, zstb_o _ _ (by omega) (by omega), if_neg (show ¬ (1 : Int32) = 0 by decide)]
          by_cases c : p = 4
          · subst c
            rw [pk_us, if_pos rfl, (f' 4 (by decide)).2]
          · rw [pk_un (by omega), if_neg c, (f' p hp).2, Int32.add_zero]
      have hu010 : zharn (zstb u i) i (nI k) 0 = u 0 := huo 0 (by decide) (by decide) (by omega)
      have hat : w 41 0 + 2 = if (1 : Int32) = 0 then zharn (zstb u i) i (nI k) 0 10 else zharn (zstb u i) i (nI k) 0 10 + 2 := by rw [if_neg (by decide), hu010, hck]
      obtain ⟨⟨g1, g2⟩, -⟩ := hrl.go (a := w 41 0 + 2) hat (by rw [hu010]; exact hc)
      rw [es] at hinv ⊢
      rw [em]
      refine ⟨⟨?_, ?_, t3, ?_, ?_, ?_, g2, hinv⟩, ?_⟩
      · rw [zdep_o _ _ _ (by decide) (by omega) (by omega), huo 7 (by decide) (by decide) (by omega)]; exact t1
      · rw [zu_n _ _ _ (by decide), zmlv_o _ _ _ (by decide) (by decide) (by decide) (by decide), hwo 41 (by decide) (by decide) (by decide) (by decide)]; exact t2
      · rw [zu_n _ _ _ (by decide)]; exact g1
      · rw [zu_n _ _ _ (by decide), zmlv_o _ _ _ (by decide) (by decide) (by decide) (by decide), zdep_o _ _ _ (by decide) (by omega) (by omega)]
        unfold zmchg zmharn zmunh zharn zstb
        rw [zu_n _ _ _ (by decide), zu_n _ _ _ (by decide), zu_s, zu_n _ _ _ (by decide), zu_n _ _ _ (by decide), zu_n _ _ _ (by decide), zu_s, zu_n _ _ _ (by omega), zu_n _ _ _ (by decide), zu_s, zu_n _ _ _ (by decide), zu_s, t5, b2, b3]
      · rw [zu_n _ _ _ (by decide), zmlv_o _ _ _ (by decide) (by decide) (by decide) (by decide), zdep_o _ _ _ (by decide) (by omega) (by omega)]
        unfold zmchg zmharn zmunh zharn zstb
        rw [zu_n _ _ _ (by decide), zu_s, zu_n _ _ _ (by decide), zu_n _ _ _ (by decide), zu_n _ _ _ (by decide), zu_s, zu_n _ _ _ (by decide), zu_n _ _ _ (by omega), zu_s, zu_n _ _ _ (by decide), zu_s, zu_n _ _ _ (by decide), t6, b3]
      · have := hrl.rj (a := w 41 0 + 2) (w2 := zu (zmlv (zmchg w i (nI k)) i (w 41 0 + 2)) 55 i 3) hat (by rw [hu010]; exact hc) (by rw [hwo 54 (by decide) (by decide) (by decide) (by decide), huc 4 (by decide)]; exact a5) (by rw [hwo 61 (by decide) (by decide) (by decide) (by decide), huc 12 (by decide)]; exact b4) (fun p hp => by rw [hwo 62 (by decide) (by decide) (by decide) (by decide), (zharn_p _ i (nI k)).1, zstb_o _ _ (by omega) (by omega)]; exact (f' p hp).1) (by rw [huc 0 (by decide)]; exact c0) (by rw [huc 4 (by decide)]; exact c4) (fun q x y => by rw [zu_n _ _ _ x]) (by rw [zu_ss]; rfl) (by rw [zu_n _ _ _ (by decide), zmlv_o _ _ _ (by decide) (by decide) (by decide) (by decide)]; rfl)
        rw [hu010] at this
        exact this
/-! one coach in one minute -/
theorem zch_sim {u w : zI} {n t m tl i : Nat} {en : Nat → Nat} (hX : zXI n t m tl en u) (hi : i < n) (hh : zRh u w) (ht : zRt u w t) (hck : w 41 0 = u 0 10) (hc : 0 ≤ (u 0 10).toInt ∧ (u 0 10).toInt ≤ 1000000) (hj : zRj u w i (u 0 10).toInt) : zRt (zch u i t) (zmcc w i t) t ∧ zRj (zch u i t) (zmcc w i t) i ((u 0 10).toInt + 1) ∧ (u (91 + 3 * i) 5 = 4 → zmcc w i t = w) ∧ zmdn w i t = (if u (91 + 3 * i) 5 = 4 then 0 else if zch u i t (91 + 3 * i) 5 = 4 then 1 else 0) := by
  have hj0 := hj
  obtain ⟨⟨a1, a2, a3, a4, a5⟩, ⟨b1, b2, b3, b4⟩, ⟨c0, c1, c4⟩, ⟨d1, d2⟩, e, f, g⟩ := hj
  have hst := (hX.2.2.2.2.2.2.1 i hi).2.2.2.2.2.1
  have h54 : w 54 i = u (91 + 3 * i) 4 := a5
  rcases hst with s | s | s | s | s
  · have e1 : zmc1 w i = w := by unfold zmc1; rw [b1, s, if_neg (fun z => absurd z.1 (by decide))]
    by_cases q : (u (91 + 3 * i) 4).toInt ≤ (u 0 10).toInt
    · have eu : zch u i t = zset u i t := by unfold zch; rw [if_pos ⟨s, q⟩]
      have ew : zmcc w i t = zmset w i t := by unfold zmcc zmc2; rw [e1, if_pos ⟨b1.trans s, by rw [h54, hck]; exact q⟩]
      obtain ⟨g1, g2⟩ := zset_sim hX hi hh ht hck hc hj0 s
      rw [eu, ew]
      refine ⟨g1, g2, fun z => by rw [s] at z; exact absurd z (by decide), ?_⟩
      unfold zmdn
      rw [e1, if_neg (fun z => z.1 ⟨b1.trans s, by rw [h54, hck]; exact q⟩), s, if_neg (by decide)]
      have hz : ¬ zset u i t (91 + 3 * i) 5 = 4 := by
        unfold zset
        split
        · rw [zu_s, pk_un (by decide), s]; decide
        · rw [zdep_5]; decide
      rw [if_neg hz]
    · have eu : zch u i t = u := by unfold zch; rw [if_neg (fun z => q z.2), if_neg (fun z => by rw [s] at z; exact absurd z.1 (by decide)), if_neg (fun z => by rw [s] at z; exact absurd z.1 (by decide))]
      have ew : zmcc w i t = w := by unfold zmcc zmc2; rw [e1, if_neg (fun z => q (by have := z.2; rw [h54, hck] at this; exact this)), if_neg (fun z => by rw [b1, s] at z; exact absurd z.1 (by decide))]
      rw [eu, ew]
      refine ⟨ht, ⟨⟨a1, a2, a3, a4, a5⟩, ⟨b1, b2, b3, b4⟩, ⟨c0, c1, c4⟩, ⟨fun z => by rw [s] at z; exact absurd z (by decide), fun z => by rw [s] at z; exact absurd z (by decide)⟩, e, f, g⟩, fun _ => rfl, ?_⟩
      unfold zmdn
      rw [e1, if_neg (fun z => by have := z.2.1.1; rw [b1, s] at this; exact absurd this (by decide)), s, if_neg (by decide), if_neg (by decide)]
  · have e1 : zmc1 w i = w := by unfold zmc1; rw [b1, s, if_neg (fun z => absurd z.1 (by decide))]
    obtain ⟨k1, k2⟩ := d1 s
    by_cases q : (u (91 + 3 * i) 9).toInt ≤ (u 0 10).toInt
    · have eq9 : w 59 i = w 41 0 := by rw [k1, hck]; exact Int32.toInt_inj.mp (by omega)
      have eu : zch u i t = zarr u i (zaa (u (91 + 3 * i))) (zdd (u (91 + 3 * i))) := by unfold zch; rw [if_neg (fun z => by rw [s] at z; exact absurd z.1 (by decide)), if_neg (fun z => by rw [s] at z; exact absurd z.1 (by decide)), if_pos ⟨s, q⟩]
      have ew : zmcc w i t = zmarr w i := by unfold zmcc zmc2; rw [e1, if_neg (fun z => by rw [b1, s] at z; exact absurd z.1 (by decide)), if_pos ⟨b1.trans s, eq9⟩]
      obtain ⟨g1, g2⟩ := zarr_sim (σ := (u 0 10).toInt + 1) hX hi hh ht hck hj0 s
      rw [eu, ew]
      refine ⟨g1, g2, fun z => by rw [s] at z; exact absurd z (by decide), ?_⟩
      have g55 := g2.2.1.1
      unfold zmdn
      rw [e1, ew, g55, s, if_neg (show ¬ (1 : Int32) = 4 by decide)]
      by_cases z4 : zarr u i (zaa (u (91 + 3 * i))) (zdd (u (91 + 3 * i))) (91 + 3 * i) 5 = 4
      · rw [if_pos z4, if_pos ⟨fun z => by rw [b1, s] at z; exact absurd z.1 (by decide), ⟨b1.trans s, eq9⟩, z4⟩]
      · rw [if_neg z4, if_neg (fun z => z4 z.2.2)]
    · have hn9 : ¬ w 59 i = w 41 0 := fun z => q (by rw [k1, hck] at z; rw [z]; exact Int.le_refl _)
      have eu : zch u i t = u := by unfold zch; rw [if_neg (fun z => by rw [s] at z; exact absurd z.1 (by decide)), if_neg (fun z => by rw [s] at z; exact absurd z.1 (by decide)), if_neg (fun z => q z.2)]
      have ew : zmcc w i t = w := by unfold zmcc zmc2; rw [e1, if_neg (fun z => by rw [b1, s] at z; exact absurd z.1 (by decide)), if_neg (fun z => hn9 z.2)]
      rw [eu, ew]
      refine ⟨ht, ⟨⟨a1, a2, a3, a4, a5⟩, ⟨b1, b2, b3, b4⟩, ⟨c0, c1, c4⟩, ⟨fun _ => ⟨k1, by omega⟩, fun z => by rw [s] at z; exact absurd z (by decide)⟩, e, f, g⟩, fun _ => rfl, ?_⟩
      unfold zmdn
      rw [e1, if_neg (fun z => hn9 z.2.1.2), s, if_neg (by decide), if_neg (by decide)]
  · have e1 : zmc1 w i = w := by unfold zmc1; rw [b1, s, if_neg (fun z => absurd z.1 (by decide))]
    have eu : zch u i t = u := by unfold zch; rw [if_neg (fun z => by rw [s] at z; exact absurd z.1 (by decide)), if_neg (fun z => by rw [s] at z; exact absurd z.1 (by decide)), if_neg (fun z => by rw [s] at z; exact absurd z.1 (by decide))]
    have ew : zmcc w i t = w := by unfold zmcc zmc2; rw [e1, if_neg (fun z => by rw [b1, s] at z; exact absurd z.1 (by decide)), if_neg (fun z => by rw [b1, s] at z; exact absurd z.1 (by decide))]
    rw [eu, ew]
    refine ⟨ht, ⟨⟨a1, a2, a3, a4, a5⟩, ⟨b1, b2, b3, b4⟩, ⟨c0, c1, c4⟩, ⟨fun z => by rw [s] at z; exact absurd z (by decide), fun z => by rw [s] at z; exact absurd z (by decide)⟩, e, f, g⟩, fun _ => rfl, ?_⟩
    unfold zmdn
    rw [e1, if_neg (fun z => by have := z.2.1.1; rw [b1, s] at this; exact absurd this (by decide)), s, if_neg (by decide), if_neg (by decide)]
  · obtain ⟨k1, k2, k3, k4⟩ := d2 s
    by_cases q : (u (91 + 3 * i) 8).toInt ≤ (u 0 10).toInt
    · have eq8 : w 58 i = w 41 0 := by rw [k2, hck]; exact Int32.toInt_inj.mp (by omega)
      have e1 : zmc1 w i = zu (zu w 55 i 1) 60 i 0 := by unfold zmc1; rw [if_pos ⟨b1.trans s, eq8⟩]
      have v55 : zu (zu w 55 i 1) 60 i 0 55 i = 1 := by rw [zu_n _ _ _ (by decide), zu_ss]
      have v59 : ¬ zu (zu w 55 i 1) 60 i 0 59 i = zu (zu w 55 i 1) 60 i 0 41 0 := fun z => by
        have z : w 59 i = w 41 0 := z
        rw [k1, hck] at z
        rw [z] at k4
        omega
      have eu : zch u i t = zu u (91 + 3 * i) 5 1 := by unfold zch; rw [if_neg (fun z => by rw [s] at z; exact absurd z.1 (by decide)), if_pos ⟨s, q⟩]
      have ew : zmcc w i t = zu (zu w 55 i 1) 60 i 0 := by unfold zmcc zmc2; rw [e1, if_neg (fun z => by rw [v55] at z; exact absurd z.1 (by decide)), if_neg (fun z => v59 z.2)]
      rw [eu, ew]
      have n1 : ∀ q, q < 91 → zu u (91 + 3 * i) 5 1 q = u q := fun q hq => zu_n _ _ _ (by omega)
      have ej : ∀ j, j ≠ 5 → zu u (91 + 3 * i) 5 1 (91 + 3 * i) j = u (91 + 3 * i) j := fun j hj => by rw [zu_s, pk_un hj]
      have e5 : zu u (91 + 3 * i) 5 1 (91 + 3 * i) 5 = 1 := zu_ss _ _ _ _
      refine ⟨ht.o (n1 1 (by decide)) (n1 7 (by decide)) (n1 8 (by decide)) (n1 9 (by decide)) (n1 10 (by decide)) rfl rfl rfl rfl, ?_, fun z => by rw [s] at z; exact absurd z (by decide), ?_⟩
      · unfold zRj
        rw [ej 0 (by decide), ej 1 (by decide), ej 2 (by decide), ej 3 (by decide), ej 4 (by decide), ej 6 (by decide), ej 7 (by decide), ej 8 (by decide), ej 9 (by decide), ej 10 (by decide), ej 11 (by decide), ej 12 (by decide), e5, zu_n _ _ _ (show 91 + 3 * i + 1 ≠ 91 + 3 * i by omega), zu_n _ _ _ (show 91 + 3 * i + 2 ≠ 91 + 3 * i by omega), v55]
        refine ⟨⟨a1, a2, a3, a4, a5⟩, ⟨rfl, b2, b3, b4⟩, ⟨c0, c1, c4⟩, ⟨fun _ => ⟨k1, by omega⟩, fun z => absurd z (by decide)⟩, ?_, fun p hp => ?_, fun z => absurd z (by decide)⟩
        · rw [zu_ss, if_pos rfl]
        · rw [if_pos (Or.inl rfl)]
          have := f p hp
          rw [s, if_pos (Or.inr rfl)] at this
          exact this
      · unfold zmdn
        rw [e1, if_neg (fun z => v59 z.2.1.2), s, if_neg (by decide), e5, if_neg (by decide)]
    · have hn8 : ¬ w 58 i = w 41 0 := fun z => q (by rw [k2, hck] at z; rw [z]; exact Int.le_refl _)
      have e1 : zmc1 w i = w := by unfold zmc1; rw [if_neg (fun z => hn8 z.2)]
      have eu : zch u i t = u := by unfold zch; rw [if_neg (fun z => by rw [s] at z; exact absurd z.1 (by decide)), if_neg (fun z => q z.2), if_neg (fun z => by rw [s] at z; exact absurd z.1 (by decide))]
      have ew : zmcc w i t = w := by unfold zmcc zmc2; rw [e1, if_neg (fun z => by rw [b1, s] at z; exact absurd z.1 (by decide)), if_neg (fun z => by rw [b1, s] at z; exact absurd z.1 (by decide))]
      rw [eu, ew]
      refine ⟨ht, ⟨⟨a1, a2, a3, a4, a5⟩, ⟨b1, b2, b3, b4⟩, ⟨c0, c1, c4⟩, ⟨fun z => by rw [s] at z; exact absurd z (by decide), fun _ => ⟨k1, k2, by omega, k4⟩⟩, e, f, g⟩, fun _ => rfl, ?_⟩
      unfold zmdn
      rw [e1, if_neg (fun z => by have := z.2.1.1; rw [b1, s] at this; exact absurd this (by decide)), s, if_neg (by decide), if_neg (by decide)]
  · have e1 : zmc1 w i = w := by unfold zmc1; rw [b1, s, if_neg (fun z => absurd z.1 (by decide))]
    have eu : zch u i t = u := by unfold zch; rw [if_neg (fun z => by rw [s] at z; exact absurd z.1 (by decide)), if_neg (fun z => by rw [s] at z; exact absurd z.1 (by decide)), if_neg (fun z => by rw [s] at z; exact absurd z.1 (by decide))]
    have ew : zmcc w i t = w := by unfold zmcc zmc2; rw [e1, if_neg (fun z => by rw [b1, s] at z; exact absurd z.1 (by decide)), if_neg (fun z => by rw [b1, s] at z; exact absurd z.1 (by decide))]
    rw [eu, ew]
    refine ⟨ht, ⟨⟨a1, a2, a3, a4, a5⟩, ⟨b1, b2, b3, b4⟩, ⟨c0, c1, c4⟩, ⟨fun z => by rw [s] at z; exact absurd z (by decide), fun z => by rw [s] at z; exact absurd z (by decide)⟩, e, f, g⟩, fun _ => rfl, ?_⟩
    unfold zmdn
    rw [e1, if_neg (fun z => by have := z.2.1.1; rw [b1, s] at this; exact absurd this (by decide)), s, if_pos rfl]
