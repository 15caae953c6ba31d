/-! how the class's cells (those of u) and the reference's (those of w) stand to each other -/
def zRh (u w : zI) : Prop := w 41 1 = u 1 0 ∧ (2 ≤ (u 1 0).toInt ∧ (u 1 0).toInt ≤ 8) ∧ w 42 = u 2 ∧ w 43 = u 3 ∧ w 44 = u 4 ∧ w 45 = u 5 ∧ (∀ k, (0 ≤ (u 2 k).toInt ∧ (u 2 k).toInt ≤ 20) ∧ (0 ≤ (u 3 k).toInt ∧ (u 3 k).toInt ≤ 9) ∧ (0 ≤ (u 4 k).toInt ∧ (u 4 k).toInt ≤ 9) ∧ (0 ≤ (u 5 k).toInt ∧ (u 5 k).toInt < 4)) ∧ ∀ k : Nat, (k : Int) < (u 1 0).toInt - 1 → 1 ≤ (u 2 k).toInt
def zRo (u w : zI) : Prop := w 46 = u 6 ∧ ∀ k, 0 ≤ (u 6 k).toInt ∧ (u 6 k).toInt ≤ 100000
def zRt (u w : zI) (t : Nat) : Prop := u 7 0 = nI t ∧ w 41 7 = nI t ∧ t ≤ 20 ∧ w 47 = u 8 ∧ w 48 = u 9 ∧ w 49 = u 10 ∧ (∀ k, 0 ≤ (u 8 k).toInt ∧ (u 8 k).toInt ≤ 1000) ∧ zP9 (u 1 0).toInt t (u 9)
/-- a coach; what it does is not due before minute τ -/
def zRj (u w : zI) (i : Nat) (τ : Int) : Prop :=
  (w 50 i = u (91 + 3 * i) 0 ∧ w 51 i = u (91 + 3 * i) 1 ∧ w 52 i = u (91 + 3 * i) 2 ∧ w 53 i = u (91 + 3 * i) 3 ∧ w 54 i = u (91 + 3 * i) 4) ∧
  (w 55 i = u (91 + 3 * i) 5 ∧ w 56 i = u (91 + 3 * i) 6 ∧ w 57 i = u (91 + 3 * i) 7 ∧ w 61 i = u (91 + 3 * i) 12) ∧
  ((0 ≤ (u (91 + 3 * i) 0).toInt ∧ (u (91 + 3 * i) 0).toInt ≤ 2) ∧ (0 ≤ (u (91 + 3 * i) 1).toInt ∧ (u (91 + 3 * i) 1).toInt ≤ 50) ∧ (0 ≤ (u (91 + 3 * i) 4).toInt ∧ (u (91 + 3 * i) 4).toInt ≤ 10000000)) ∧
  ((u (91 + 3 * i) 5 = 1 → w 59 i = u (91 + 3 * i) 9 ∧ τ ≤ (u (91 + 3 * i) 9).toInt) ∧ (u (91 + 3 * i) 5 = 3 → w 59 i = u (91 + 3 * i) 9 ∧ w 58 i = u (91 + 3 * i) 8 ∧ τ ≤ (u (91 + 3 * i) 8).toInt ∧ (u (91 + 3 * i) 8).toInt < (u (91 + 3 * i) 9).toInt)) ∧
  (w 60 i = if u (91 + 3 * i) 5 = 1 then 0 else u (91 + 3 * i) 10) ∧
  (∀ p, p < 5 → w 62 (5 * i + p) = u (91 + 3 * i + 1) p ∧ w 63 (5 * i + p) = if u (91 + 3 * i) 5 = 1 ∨ u (91 + 3 * i) 5 = 3 then u (91 + 3 * i + 1) p + u (91 + 3 * i + 2) p else u (91 + 3 * i + 1) p) ∧
  (u (91 + 3 * i) 5 = 2 → u (91 + 3 * i) 11 = zmtold w i (u (91 + 3 * i) 6).toNatClampNeg)
theorem zRj.o {u w u2 w2 : zI} {i : Nat} {τ : Int} (h : zRj u w i τ) (e0 : u2 (91 + 3 * i) = u (91 + 3 * i)) (e1 : u2 (91 + 3 * i + 1) = u (91 + 3 * i + 1)) (e2 : u2 (91 + 3 * i + 2) = u (91 + 3 * i + 2)) (hw : ∀ q, 50 ≤ q → q ≤ 61 → w2 q i = w q i) (hp : ∀ p, p < 5 → w2 62 (5 * i + p) = w 62 (5 * i + p) ∧ w2 63 (5 * i + p) = w 63 (5 * i + p)) (h42 : w2 42 = w 42) (h43 : w2 43 = w 43) : zRj u2 w2 i τ := by
  obtain ⟨⟨a1, a2, a3, a4, a5⟩, ⟨b1, b2, b3, b4⟩, c, ⟨d1, d2⟩, e, f, g⟩ := h
  unfold zRj
  rw [e0, e1, e2, hw 50 (by decide) (by decide), hw 51 (by decide) (by decide), hw 52 (by decide) (by decide), hw 53 (by decide) (by decide), hw 54 (by decide) (by decide), hw 55 (by decide) (by decide), hw 56 (by decide) (by decide), hw 57 (by decide) (by decide), hw 58 (by decide) (by decide), hw 59 (by decide) (by decide), hw 60 (by decide) (by decide), hw 61 (by decide) (by decide)]
  refine ⟨⟨a1, a2, a3, a4, a5⟩, ⟨b1, b2, b3, b4⟩, c, ⟨d1, d2⟩, e, fun p hp2 => ?_, fun z => ?_⟩
  · rw [(hp p hp2).1, (hp p hp2).2]; exact f p hp2
  · rw [g z]
    unfold zmtold
    rw [h42, h43, hw 50 (by decide) (by decide), hw 52 (by decide) (by decide), hw 53 (by decide) (by decide), hw 54 (by decide) (by decide)]
/-! numbers -/
theorem zdiv_t {a b : Int32} (ha : 0 ≤ a.toInt) (hb : 0 < b.toInt) : (a / b).toInt = a.toInt / b.toInt := by
  rw [Int32.toInt_div_of_ne_right a b (fun z => by rw [z] at hb; exact absurd hb (by decide)), Int.tdiv_eq_ediv_of_nonneg ha]
theorem zmul_t {a b : Int32} {m n : Int} (ha : 0 ≤ a.toInt ∧ a.toInt ≤ m) (hb : 0 ≤ b.toInt ∧ b.toInt ≤ n) (hmn : m * n ≤ 2147483647) : (a * b).toInt = a.toInt * b.toInt ∧ 0 ≤ (a * b).toInt ∧ (a * b).toInt ≤ m * n := by
  have h0 : 0 ≤ a.toInt * b.toInt := Int.mul_nonneg ha.1 hb.1
  have h1 : a.toInt * b.toInt ≤ m * n := Int.mul_le_mul ha.2 hb.2 hb.1 (Int.le_trans ha.1 ha.2)
  have e : (a * b).toInt = a.toInt * b.toInt := by
    rw [Int32.toInt_mul]
    exact Int.bmod_eq_of_le (by omega) (by omega)
  exact ⟨e, by rw [e]; exact h0, by rw [e]; exact h1⟩
theorem zpace_t (k : Int32) : 6 ≤ (zpace k).toInt ∧ (zpace k).toInt ≤ 9 := by
  unfold zpace
  split
  · decide
  · split <;> decide
/-! the strongest team -/
theorem zst_same {inn st : Nat → Int32} (hs : ∀ k, 0 ≤ (st k).toInt) (a : Int32) : ∀ m, m ≤ 20 → (zstr inn st a m).1 = zmst inn st a m ∧ ((zmst inn st a m = -1 ∧ (zstr inn st a m).2 = -1) ∨ ∃ k, k < m ∧ zmst inn st a m = nI k ∧ (zstr inn st a m).2 = st k)
  | 0, _ => ⟨rfl, Or.inl ⟨rfl, rfl⟩⟩
  | m + 1, hm => by
    obtain ⟨h1, h2⟩ := zst_same hs a m (by omega)
    rw [zstr_s, show zmst inn st a (m + 1) = if inn m = a ∧ ((zmst inn st a m).toInt < 0 ∨ (st (zmst inn st a m).toNatClampNeg).toInt < (st m).toInt) then nI m else zmst inn st a m from rfl]
    have key : (inn m = a ∧ (zstr inn st a m).2.toInt < (st m).toInt) ↔ (inn m = a ∧ ((zmst inn st a m).toInt < 0 ∨ (st (zmst inn st a m).toNatClampNeg).toInt < (st m).toInt)) := by
      rcases h2 with ⟨e1, e2⟩ | ⟨k, hk, e1, e2⟩
      · rw [e1, e2, show Int32.toInt (-1) = -1 by decide]
        have := hs m
        exact ⟨fun z => ⟨z.1, Or.inl (by omega)⟩, fun z => ⟨z.1, by omega⟩⟩
      · rw [e1, e2, nI_clamp (by omega), nI_toInt (by omega)]
        exact ⟨fun z => ⟨z.1, Or.inr z.2⟩, fun z => ⟨z.1, z.2.resolve_left (by omega)⟩⟩
    by_cases c : inn m = a ∧ (zstr inn st a m).2.toInt < (st m).toInt
    · rw [if_pos c, if_pos (key.mp c)]
      exact ⟨rfl, Or.inr ⟨m, by omega, rfl, rfl⟩⟩
    · rw [if_neg c, if_neg (fun z => c (key.mpr z))]
      refine ⟨h1, h2.imp id (fun ⟨k, hk, e1, e2⟩ => ⟨k, by omega, e1, e2⟩)⟩
/-! what was told -/
theorem zacc_sum (a : Int32) (f : Nat → Int32) : ∀ d, zacc a f d = a + zsum f d
  | 0 => by rw [zacc, zsum, Int32.add_zero]
  | d + 1 => by rw [zacc, zsum, zacc_sum a f d, Int32.add_assoc]
theorem zsum_first (f : Nat → Int32) : ∀ m, zsum f (m + 1) = f 0 + zsum (fun j => f (j + 1)) m
  | 0 => by rw [zsum, zsum, zsum, Int32.add_zero, Int32.zero_add]
  | m + 1 => by rw [zsum, zsum_first f m, zsum, Int32.add_assoc]
theorem zsum_rev (f : Nat → Int32) : ∀ d, zsum (fun j => f (d - (j + 1))) d = zsum f d
  | 0 => rfl
  | d + 1 => by
    rw [zsum_first, zsum, ← zsum_rev f d, Int32.add_comm]
    congr 1
    · exact zsum_c (fun j hj => by rw [show d + 1 - (j + 1 + 1) = d - (j + 1) by omega])
theorem zsum_two (f : Nat → Int32) : ∀ d, zsum (fun j => f j + (if j = 0 then 0 else 2)) d = zsum f d + nI (2 * (d - 1))
  | 0 => by rw [zsum, zsum, Int32.zero_add]; rfl
  | 1 => by
    rw [zsum, zsum, zsum, zsum, if_pos rfl, Int32.zero_add, Int32.zero_add, Int32.add_zero]
    exact (Int32.add_zero _).symm
  | d + 2 => by
    rw [zsum, zsum_two f (d + 1), show zsum f (d + 2) = zsum f (d + 1) + f (d + 1) from rfl, if_neg (by omega)]
    have e : nI (2 * (d + 2 - 1)) = nI (2 * (d + 1 - 1)) + 2 := by
      rw [show 2 * (d + 2 - 1) = 2 * (d + 1 - 1) + 1 + 1 by omega, ← nI_1, ← nI_1, Int32.add_assoc]
      rfl
    rw [e, Int32.add_assoc, Int32.add_assoc]
    congr 1
    rw [← Int32.add_assoc, Int32.add_comm _ (f (d + 1)), Int32.add_assoc]
theorem ztwo (a d : Nat) (h : a + d ≤ 1000) : 2 * (if 0 < nI (a + d) - nI a - 1 then nI (a + d) - nI a - 1 else 0) = nI (2 * (d - 1)) := by
  rw [zsubN (by omega) (by omega), show a + d - a = d by omega]
  by_cases hd : d = 0
  · subst hd
    rw [if_neg (by decide)]
    rfl
  · obtain ⟨e, rfl⟩ : ∃ e, d = e + 1 := ⟨d - 1, by omega⟩
    rw [nI_prd (by omega), show e + 1 - 1 = e by omega]
    have h2 : (2 : Int32) * nI e = nI (2 * e) := pk_mul 2 e
    by_cases h0 : (0 : Int32) < nI e
    · rw [if_pos h0]; exact h2
    · rw [if_neg h0]
      have : e = 0 := by
        have : ¬ (0 : Int32).toInt < (nI e).toInt := fun z => h0 (Int32.lt_iff_toInt_lt.mpr z)
        rw [nI_toInt (by omega), show Int32.toInt 0 = 0 by decide] at this
        omega
      subst this
      rfl
theorem ztold_same {u w : zI} {i a d b : Nat} (h42 : w 42 = u 2) (h43 : w 43 = u 3) (h50 : w 50 i = u (91 + 3 * i) 0) (h52 : w 52 i = u (91 + 3 * i) 2) (h53 : w 53 i = u (91 + 3 * i) 3) (h54 : w 54 i = u (91 + 3 * i) 4) (hd : a + d ≤ 1000) (hc : ((u (91 + 3 * i) 2).toInt < (u (91 + 3 * i) 3).toInt ∧ u (91 + 3 * i) 2 = nI a ∧ b = a + d) ∨ (¬ (u (91 + 3 * i) 2).toInt < (u (91 + 3 * i) 3).toInt ∧ u (91 + 3 * i) 2 = nI (a + d) ∧ b = a)) : ztoldx u i a d = zmtold w i b := by
  unfold ztoldx zmtold
  rw [ztwo a d hd, h42, h43, h50, h52, h53, h54]
  rcases hc with ⟨c1, c2, c3⟩ | ⟨c1, c2, c3⟩
  · rw [if_pos c1, c2, nI_clamp (by omega), c3, show a + d - a = d by omega, zacc_sum, zacc_sum, zsum_two (fun j => u 2 (a + j) * zpace (u (91 + 3 * i) 0) + 2 * u 3 (a + j)) d, Int32.add_assoc]
  · rw [if_neg c1, c2, nI_clamp (by omega), c3, show a + d - a = d by omega, zacc_sum, zacc_sum, zsum_two (fun j => u 2 (a + d - (j + 1)) * zpace (u (91 + 3 * i) 0) + 2 * u 3 (a + d - (j + 1))) d, Int32.add_assoc]
    congr 2
    rw [← zsum_rev]
    exact zsum_c (fun j hj => by rw [show a + (d - (j + 1)) = a + d - (j + 1) by omega])
