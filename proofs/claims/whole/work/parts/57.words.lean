/-! words: the class's by their letters, the reference's packed -/
abbrev zwm (T : Nat → Int32) (q f m : Nat) : Prop := ∀ x, x < m → T (q + x) = zsb 0 (f + x)
theorem zspo_iff (T : Nat → Int32) (q f : Nat) : ∀ k j, zspo T q f j k = true ↔ ∀ x, x < k → f + (j + x) < 88 ∧ zsb 0 (f + (j + x)) = T (q + (j + x))
  | 0, j => ⟨fun _ x hx => absurd hx (by omega), fun _ => rfl⟩
  | k + 1, j => by
    rw [zspo]
    by_cases h : f + j < 88 ∧ zsb 0 (f + j) = T (q + j)
    · rw [if_pos h, zspo_iff T q f k (j + 1)]
      refine ⟨fun z x hx => ?_, fun z x hx => ?_⟩
      · by_cases hx0 : x = 0
        · subst hx0; exact h
        · have := z (x - 1) (by omega)
          rw [show j + 1 + (x - 1) = j + x by omega] at this
          exact this
      · have := z (x + 1) (by omega)
        rw [show j + (x + 1) = j + 1 + x by omega] at this
        exact this
    · rw [if_neg h]
      exact ⟨fun z => absurd z (by simp), fun z => absurd (z 0 (by omega)) h⟩
theorem zwd_run (T : Nat → Int32) (q e f kd k : Nat) : ∀ m i, (∀ j, j < m → ¬ zsb 0 (i + j) = 32) → zwd T q e (m + k) i f kd = zwd T q e k (i + m) f kd
  | 0, i, _ => by rw [Nat.zero_add]; rfl
  | m + 1, i, h => by
    rw [show m + 1 + k = (m + k) + 1 by omega, zwd, if_neg (show ¬ zsb 0 i = 32 from h 0 (by omega)), zwd_run T q e f kd k m (i + 1) (fun j hj => by rw [show i + 1 + j = i + (j + 1) by omega]; exact h (j + 1) (by omega)), show i + 1 + m = i + (m + 1) by omega]
theorem zwd_word {T : Nat → Int32} {q e i m k kd : Nat} (h : ∀ j, j < m → ¬ zsb 0 (i + j) = 32) (hs : zsb 0 (i + m) = 32) (h88 : i + m ≤ 88) : zwd T q e (m + (k + 1)) i i kd = if e - q = m ∧ zwm T q i m then nI kd else zwd T q e k (i + m + 1) (i + m + 1) (kd + 1) := by
  rw [zwd_run T q e i kd (k + 1) m i h, zwd, if_pos hs]
  by_cases hc : e - q = m ∧ zwm T q i m
  · rw [if_pos hc, if_pos]
    refine ⟨by omega, ?_⟩
    rw [zspo_iff]
    intro x hx
    rw [Nat.zero_add]
    exact ⟨by omega, (hc.2 x (by omega)).symm⟩
  · rw [if_neg hc, if_neg]
    intro z
    refine hc ⟨by omega, fun x hx => ?_⟩
    have := ((zspo_iff T q i (e - q) 0).mp z.2 x (by omega)).2
    rw [Nat.zero_add] at this
    exact this.symm

/-- the kind of a word of m letters at q -/
def zwk (T : Nat → Int32) (q m : Nat) : Int32 := (if m = 4 ∧ zwm T q 0 4 then 200 else (if m = 2 ∧ zwm T q 5 2 then 201 else (if m = 4 ∧ zwm T q 8 4 then 202 else (if m = 2 ∧ zwm T q 13 2 then 203 else (if m = 6 ∧ zwm T q 16 6 then 204 else (if m = 2 ∧ zwm T q 23 2 then 205 else (if m = 3 ∧ zwm T q 26 3 then 206 else (if m = 3 ∧ zwm T q 30 3 then 207 else (if m = 4 ∧ zwm T q 34 4 then 208 else (if m = 4 ∧ zwm T q 39 4 then 209 else (if m = 3 ∧ zwm T q 44 3 then 210 else (if m = 5 ∧ zwm T q 48 5 then 211 else (if m = 4 ∧ zwm T q 54 4 then 212 else (if m = 5 ∧ zwm T q 59 5 then 213 else (if m = 5 ∧ zwm T q 65 5 then 214 else (if m = 5 ∧ zwm T q 71 5 then 215 else (if m = 3 ∧ zwm T q 77 3 then 216 else (if m = 6 ∧ zwm T q 81 6 then 217 else 3))))))))))))))))))

theorem zwd_end (T : Nat → Int32) (q e i f kd : Nat) : zwd T q e 0 i f kd = 3 := rfl

theorem zwd_eq (T : Nat → Int32) (q e : Nat) : zwd T q e 88 0 0 200 = zwk T q (e - q) := by
  unfold zwk
  have h0 := zwd_word (T := T) (q := q) (e := e) (i := 0) (m := 4) (k := 83) (kd := 200) (by decide) (by decide) (by decide)
  have h1 := zwd_word (T := T) (q := q) (e := e) (i := 5) (m := 2) (k := 80) (kd := 201) (by decide) (by decide) (by decide)
  have h2 := zwd_word (T := T) (q := q) (e := e) (i := 8) (m := 4) (k := 75) (kd := 202) (by decide) (by decide) (by decide)
  have h3 := zwd_word (T := T) (q := q) (e := e) (i := 13) (m := 2) (k := 72) (kd := 203) (by decide) (by decide) (by decide)
  have h4 := zwd_word (T := T) (q := q) (e := e) (i := 16) (m := 6) (k := 65) (kd := 204) (by decide) (by decide) (by decide)
  have h5 := zwd_word (T := T) (q := q) (e := e) (i := 23) (m := 2) (k := 62) (kd := 205) (by decide) (by decide) (by decide)
  have h6 := zwd_word (T := T) (q := q) (e := e) (i := 26) (m := 3) (k := 58) (kd := 206) (by decide) (by decide) (by decide)
  have h7 := zwd_word (T := T) (q := q) (e := e) (i := 30) (m := 3) (k := 54) (kd := 207) (by decide) (by decide) (by decide)
  have h8 := zwd_word (T := T) (q := q) (e := e) (i := 34) (m := 4) (k := 49) (kd := 208) (by decide) (by decide) (by decide)
  have h9 := zwd_word (T := T) (q := q) (e := e) (i := 39) (m := 4) (k := 44) (kd := 209) (by decide) (by decide) (by decide)
  have h10 := zwd_word (T := T) (q := q) (e := e) (i := 44) (m := 3) (k := 40) (kd := 210) (by decide) (by decide) (by decide)
  have h11 := zwd_word (T := T) (q := q) (e := e) (i := 48) (m := 5) (k := 34) (kd := 211) (by decide) (by decide) (by decide)
  have h12 := zwd_word (T := T) (q := q) (e := e) (i := 54) (m := 4) (k := 29) (kd := 212) (by decide) (by decide) (by decide)
  have h13 := zwd_word (T := T) (q := q) (e := e) (i := 59) (m := 5) (k := 23) (kd := 213) (by decide) (by decide) (by decide)
  have h14 := zwd_word (T := T) (q := q) (e := e) (i := 65) (m := 5) (k := 17) (kd := 214) (by decide) (by decide) (by decide)
  have h15 := zwd_word (T := T) (q := q) (e := e) (i := 71) (m := 5) (k := 11) (kd := 215) (by decide) (by decide) (by decide)
  have h16 := zwd_word (T := T) (q := q) (e := e) (i := 77) (m := 3) (k := 7) (kd := 216) (by decide) (by decide) (by decide)
  have h17 := zwd_word (T := T) (q := q) (e := e) (i := 81) (m := 6) (k := 0) (kd := 217) (by decide) (by decide) (by decide)
  refine (show zwd T q e 88 0 0 200 = _ from h0).trans ?_
  by_cases c0 : e - q = 4 ∧ zwm T q 0 4
  · rw [if_pos c0, if_pos c0]; rfl
  rw [if_neg c0, if_neg c0]
  refine (show zwd T q e 83 5 5 201 = _ from h1).trans ?_
  by_cases c1 : e - q = 2 ∧ zwm T q 5 2
  · rw [if_pos c1, if_pos c1]; rfl
  rw [if_neg c1, if_neg c1]
  refine (show zwd T q e 80 8 8 202 = _ from h2).trans ?_
  by_cases c2 : e - q = 4 ∧ zwm T q 8 4
  · rw [if_pos c2, if_pos c2]; rfl
  rw [if_neg c2, if_neg c2]
  refine (show zwd T q e 75 13 13 203 = _ from h3).trans ?_
  by_cases c3 : e - q = 2 ∧ zwm T q 13 2
  · rw [if_pos c3, if_pos c3]; rfl
  rw [if_neg c3, if_neg c3]
  refine (show zwd T q e 72 16 16 204 = _ from h4).trans ?_
  by_cases c4 : e - q = 6 ∧ zwm T q 16 6
  · rw [if_pos c4, if_pos c4]; rfl
  rw [if_neg c4, if_neg c4]
  refine (show zwd T q e 65 23 23 205 = _ from h5).trans ?_
  by_cases c5 : e - q = 2 ∧ zwm T q 23 2
  · rw [if_pos c5, if_pos c5]; rfl
  rw [if_neg c5, if_neg c5]
  refine (show zwd T q e 62 26 26 206 = _ from h6).trans ?_
  by_cases c6 : e - q = 3 ∧ zwm T q 26 3
  · rw [if_pos c6, if_pos c6]; rfl
  rw [if_neg c6, if_neg c6]
  refine (show zwd T q e 58 30 30 207 = _ from h7).trans ?_
  by_cases c7 : e - q = 3 ∧ zwm T q 30 3
  · rw [if_pos c7, if_pos c7]; rfl
  rw [if_neg c7, if_neg c7]
  refine (show zwd T q e 54 34 34 208 = _ from h8).trans ?_
  by_cases c8 : e - q = 4 ∧ zwm T q 34 4
  · rw [if_pos c8, if_pos c8]; rfl
  rw [if_neg c8, if_neg c8]
  refine (show zwd T q e 49 39 39 209 = _ from h9).trans ?_
  by_cases c9 : e - q = 4 ∧ zwm T q 39 4
  · rw [if_pos c9, if_pos c9]; rfl
  rw [if_neg c9, if_neg c9]
  refine (show zwd T q e 44 44 44 210 = _ from h10).trans ?_
  by_cases c10 : e - q = 3 ∧ zwm T q 44 3
  · rw [if_pos c10, if_pos c10]; rfl
  rw [if_neg c10, if_neg c10]
  refine (show zwd T q e 40 48 48 211 = _ from h11).trans ?_
  by_cases c11 : e - q = 5 ∧ zwm T q 48 5
  · rw [if_pos c11, if_pos c11]; rfl
  rw [if_neg c11, if_neg c11]
  refine (show zwd T q e 34 54 54 212 = _ from h12).trans ?_
  by_cases c12 : e - q = 4 ∧ zwm T q 54 4
  · rw [if_pos c12, if_pos c12]; rfl
  rw [if_neg c12, if_neg c12]
  refine (show zwd T q e 29 59 59 213 = _ from h13).trans ?_
  by_cases c13 : e - q = 5 ∧ zwm T q 59 5
  · rw [if_pos c13, if_pos c13]; rfl
  rw [if_neg c13, if_neg c13]
  refine (show zwd T q e 23 65 65 214 = _ from h14).trans ?_
  by_cases c14 : e - q = 5 ∧ zwm T q 65 5
  · rw [if_pos c14, if_pos c14]; rfl
  rw [if_neg c14, if_neg c14]
  refine (show zwd T q e 17 71 71 215 = _ from h15).trans ?_
  by_cases c15 : e - q = 5 ∧ zwm T q 71 5
  · rw [if_pos c15, if_pos c15]; rfl
  rw [if_neg c15, if_neg c15]
  refine (show zwd T q e 11 77 77 216 = _ from h16).trans ?_
  by_cases c16 : e - q = 3 ∧ zwm T q 77 3
  · rw [if_pos c16, if_pos c16]; rfl
  rw [if_neg c16, if_neg c16]
  refine (show zwd T q e 7 81 81 217 = _ from h17).trans ?_
  by_cases c17 : e - q = 6 ∧ zwm T q 81 6
  · rw [if_pos c17, if_pos c17]; rfl
  rw [if_neg c17, if_neg c17]
  rfl

def zpk (A : Nat → Nat) : Nat → Nat
  | 0 => 0
  | m + 1 => zpk A m * 256 + A m
theorem zpk_inj {A B : Nat → Nat} : ∀ m1 m2, (∀ x, x < m1 → 1 ≤ A x ∧ A x < 256) → (∀ x, x < m2 → 1 ≤ B x ∧ B x < 256) → zpk A m1 = zpk B m2 → m1 = m2 ∧ ∀ x, x < m1 → A x = B x
  | 0, 0, _, _, _ => ⟨rfl, fun x hx => absurd hx (by omega)⟩
  | 0, m2 + 1, _, hB, h => by
    have := hB m2 (by omega)
    simp only [zpk] at h
    omega
  | m1 + 1, 0, hA, _, h => by
    have := hA m1 (by omega)
    simp only [zpk] at h
    omega
  | m1 + 1, m2 + 1, hA, hB, h => by
    have a1 := hA m1 (by omega)
    have b1 := hB m2 (by omega)
    simp only [zpk] at h
    have h1 : zpk A m1 = zpk B m2 ∧ A m1 = B m2 := by omega
    obtain ⟨e1, e2⟩ := zpk_inj m1 m2 (fun x hx => hA x (by omega)) (fun x hx => hB x (by omega)) h1.1
    subst e1
    refine ⟨rfl, fun x hx => ?_⟩
    by_cases hx2 : x = m1
    · subst hx2; exact h1.2
    · exact e2 x (by omega)
theorem zpk_c {A B : Nat → Nat} : ∀ m, (∀ x, x < m → A x = B x) → zpk A m = zpk B m
  | 0, _ => rfl
  | m + 1, h => by rw [zpk, zpk, zpk_c m (fun x hx => h x (by omega)), h m (by omega)]
theorem zpk_lt {A : Nat → Nat} : ∀ m, (∀ x, x < m → A x < 128) → 2 * zpk A m < 256 ^ m
  | 0, _ => by show 2 * 0 < 1; decide
  | m + 1, h => by
    have ih := zpk_lt m (fun x hx => h x (by omega))
    have := h m (by omega)
    rw [zpk, Nat.pow_succ]
    generalize 256 ^ m = P at *
    omega
theorem zsh8 {v c : Nat} (hv : v < 2 ^ 55) (hc : c < 256) : Int64.ofNat v <<< ((8 : Int32).toInt64 &&& 63) ||| (nI c).toInt64 = Int64.ofNat (v * 256 + c) := by
  have e8 : ((8 : Int32).toInt64 &&& 63) = 8 := by decide
  have ec : (nI c).toInt64 = Int64.ofNat c := by
    apply Int64.toInt_inj.mp
    rw [Int32.toInt_toInt64, nI_toInt (by omega), Int64.toInt_ofNat_of_lt (by omega)]
  rw [e8, ec]
  apply Int64.toBitVec_inj.mp
  rw [Int64.toBitVec_or, Int64.toBitVec_shiftLeft]
  apply BitVec.eq_of_toNat_eq
  have e9 : ((8 : Int64).toBitVec.smod 64) = 8#64 := by decide
  rw [e9, BitVec.toNat_or]
  show ((Int64.ofNat v).toBitVec <<< (8#64).toNat).toNat ||| _ = _
  rw [BitVec.toNat_shiftLeft]
  have f : ∀ x, x < 2 ^ 64 → (Int64.ofNat x).toBitVec.toNat = x := fun x hx => by
    show (BitVec.ofNat 64 x).toNat = x
    rw [BitVec.toNat_ofNat, Nat.mod_eq_of_lt hx]
  rw [f v (by omega), f c (by omega), f _ (by omega)]
  rw [show (8#64).toNat = 8 from rfl, Nat.mod_eq_of_lt (by rw [Nat.shiftLeft_eq]; omega), ← Nat.shiftLeft_add_eq_or_of_lt (by omega), Nat.shiftLeft_eq]
theorem zpk64_eq {U : Nat → Int32} {q : Nat} : ∀ m, m ≤ 8 → (∀ x, x < m → zisL (U (q + x))) → zpk64 U q m = Int64.ofNat (zpk (fun x => (U (q + x)).toNatClampNeg) m)
  | 0, _, _ => rfl
  | m + 1, hm, h => by
    rw [zpk64, zpk64_eq m (by omega) (fun x hx => h x (by omega)), zpk]
    have hm2 := h m (by omega)
    have hc := zcl_int (x := U (q + m)) (by omega)
    have hb := zpk_lt (A := fun x => (U (q + x)).toNatClampNeg) m (fun x hx => by have h1 := h x (by omega); have := zcl_int (x := U (q + x)) (by omega); show (U (q + x)).toNatClampNeg < 128; omega)
    have hb2 : 256 ^ m ≤ 256 ^ 7 := Nat.pow_le_pow_right (by decide) (by omega)
    generalize 256 ^ m = P at *
    have hb3 : 256 ^ 7 = 2 ^ 56 := by decide
    rw [hb3] at hb2
    have e := zsh8 (v := zpk (fun x => (U (q + x)).toNatClampNeg) m) (c := (U (q + m)).toNatClampNeg) (by omega) (by omega)
    rw [znI_cl (show 0 ≤ (U (q + m)).toInt by omega)] at e
    exact e
theorem zsb_let : ∀ j, j < 88 → ¬ zsb 0 j = 32 → 97 ≤ (zsb 0 j).toInt ∧ (zsb 0 j).toInt ≤ 122 := by decide +kernel
/-- packed like the word at f if it is that word -/
theorem zpk_word {T U : Nat → Int32} {q m f m2 : Nat} {c : Nat} (hm : m ≤ 8) (hL : ∀ x, x < m → zisL (U (q + x))) (hT : ∀ x, x < m → T (q + x) = U (q + x)) (hW : ∀ x, x < m2 → ¬ zsb 0 (f + x) = 32) (h88 : f + m2 ≤ 88) (hc : zpk (fun x => (zsb 0 (f + x)).toNatClampNeg) m2 = c) (hc2 : c < 2 ^ 62) : (m = m2 ∧ zwm T q f m2) ↔ zpk64 U q m = Int64.ofNat c := by
  rw [zpk64_eq m hm hL]
  have hA : ∀ x, x < m → 1 ≤ (U (q + x)).toNatClampNeg ∧ (U (q + x)).toNatClampNeg < 256 := fun x hx => by
    have := hL x hx
    have := zcl_int (x := U (q + x)) (by omega)
    omega
  have hB : ∀ x, x < m2 → 1 ≤ (zsb 0 (f + x)).toNatClampNeg ∧ (zsb 0 (f + x)).toNatClampNeg < 256 := fun x hx => by
    have := zsb_let (f + x) (by omega) (hW x hx)
    have := zcl_int (x := zsb 0 (f + x)) (by omega)
    omega
  refine ⟨fun ⟨e, h⟩ => ?_, fun h => ?_⟩
  · subst e
    rw [← hc]
    congr 1
    exact zpk_c m (fun x hx => by show (U (q + x)).toNatClampNeg = _; rw [← hT x hx, h x hx])
  · have hb := zpk_lt (A := fun x => (U (q + x)).toNatClampNeg) m (fun x hx => by have h1 := hL x hx; have := zcl_int (x := U (q + x)) (by omega); show (U (q + x)).toNatClampNeg < 128; omega)
    have hb2 : 256 ^ m ≤ 256 ^ 8 := Nat.pow_le_pow_right (by decide) (by omega)
    generalize 256 ^ m = P at *
    have hb3 : 256 ^ 8 = 2 ^ 64 := by decide
    rw [hb3] at hb2
    have h1 := congrArg Int64.toInt h
    rw [Int64.toInt_ofNat_of_lt (by omega), Int64.toInt_ofNat_of_lt (by omega)] at h1
    obtain ⟨e1, e2⟩ := zpk_inj m m2 hA hB (by rw [hc]; omega)
    refine ⟨e1, fun x hx => ?_⟩
    have := e2 x (by omega)
    have h3 := hL x (by omega)
    have h4 := zsb_let (f + x) (by omega) (hW x hx)
    rw [hT x (by omega)]
    rw [← znI_cl (show 0 ≤ (U (q + x)).toInt by omega), ← znI_cl (show 0 ≤ (zsb 0 (f + x)).toInt by omega), this]

/-- the class's kind of a word, and the reference's packed one -/
def zWd (κ : Int32) (w : Int64) : Prop := (κ = 200 ∧ w = 2003330414) ∨ (κ = 201 ∧ w = 25711) ∨ (κ = 202 ∧ w = 2002872692) ∨ (κ = 203 ∧ w = 26479) ∨ (κ = 204 ∧ w = 109299962373989) ∨ (κ = 205 ∧ w = 28530) ∨ (κ = 206 ∧ w = 6385252) ∨ (κ = 207 ∧ w = 7237492) ∨ (κ = 208 ∧ w = 1818326117) ∨ (κ = 209 ∧ w = 1819238756) ∨ (κ = 210 ∧ w = 7173476) ∨ (κ = 211 ∧ w = 469920146803) ∨ (κ = 212 ∧ w = 1835100524) ∨ (κ = 213 ∧ w = 474214787188) ∨ (κ = 214 ∧ w = 440005915496) ∨ (κ = 215 ∧ w = 499985311076) ∨ (κ = 216 ∧ w = 6909550) ∨ (κ = 217 ∧ w = 131260264768868) ∨ (κ = 3 ∧ ¬ w = 2003330414 ∧ ¬ w = 25711 ∧ ¬ w = 2002872692 ∧ ¬ w = 26479 ∧ ¬ w = 109299962373989 ∧ ¬ w = 28530 ∧ ¬ w = 6385252 ∧ ¬ w = 7237492 ∧ ¬ w = 1818326117 ∧ ¬ w = 1819238756 ∧ ¬ w = 7173476 ∧ ¬ w = 469920146803 ∧ ¬ w = 1835100524 ∧ ¬ w = 474214787188 ∧ ¬ w = 440005915496 ∧ ¬ w = 499985311076 ∧ ¬ w = 6909550 ∧ ¬ w = 131260264768868)

theorem zwk_wd {T U : Nat → Int32} {q m : Nat} (hm : m ≤ 8) (hL : ∀ x, x < m → zisL (U (q + x))) (hT : ∀ x, x < m → T (q + x) = U (q + x)) : zWd (zwk T q m) (zpk64 U q m) := by
  have h0 := zpk_word (T := T) (f := 0) (m2 := 4) (c := 2003330414) hm hL hT (by decide) (by decide) (by decide +kernel) (by decide)
  have h1 := zpk_word (T := T) (f := 5) (m2 := 2) (c := 25711) hm hL hT (by decide) (by decide) (by decide +kernel) (by decide)
  have h2 := zpk_word (T := T) (f := 8) (m2 := 4) (c := 2002872692) hm hL hT (by decide) (by decide) (by decide +kernel) (by decide)
  have h3 := zpk_word (T := T) (f := 13) (m2 := 2) (c := 26479) hm hL hT (by decide) (by decide) (by decide +kernel) (by decide)
  have h4 := zpk_word (T := T) (f := 16) (m2 := 6) (c := 109299962373989) hm hL hT (by decide) (by decide) (by decide +kernel) (by decide)
  have h5 := zpk_word (T := T) (f := 23) (m2 := 2) (c := 28530) hm hL hT (by decide) (by decide) (by decide +kernel) (by decide)
  have h6 := zpk_word (T := T) (f := 26) (m2 := 3) (c := 6385252) hm hL hT (by decide) (by decide) (by decide +kernel) (by decide)
  have h7 := zpk_word (T := T) (f := 30) (m2 := 3) (c := 7237492) hm hL hT (by decide) (by decide) (by decide +kernel) (by decide)
  have h8 := zpk_word (T := T) (f := 34) (m2 := 4) (c := 1818326117) hm hL hT (by decide) (by decide) (by decide +kernel) (by decide)
  have h9 := zpk_word (T := T) (f := 39) (m2 := 4) (c := 1819238756) hm hL hT (by decide) (by decide) (by decide +kernel) (by decide)
  have h10 := zpk_word (T := T) (f := 44) (m2 := 3) (c := 7173476) hm hL hT (by decide) (by decide) (by decide +kernel) (by decide)
  have h11 := zpk_word (T := T) (f := 48) (m2 := 5) (c := 469920146803) hm hL hT (by decide) (by decide) (by decide +kernel) (by decide)
  have h12 := zpk_word (T := T) (f := 54) (m2 := 4) (c := 1835100524) hm hL hT (by decide) (by decide) (by decide +kernel) (by decide)
  have h13 := zpk_word (T := T) (f := 59) (m2 := 5) (c := 474214787188) hm hL hT (by decide) (by decide) (by decide +kernel) (by decide)
  have h14 := zpk_word (T := T) (f := 65) (m2 := 5) (c := 440005915496) hm hL hT (by decide) (by decide) (by decide +kernel) (by decide)
  have h15 := zpk_word (T := T) (f := 71) (m2 := 5) (c := 499985311076) hm hL hT (by decide) (by decide) (by decide +kernel) (by decide)
  have h16 := zpk_word (T := T) (f := 77) (m2 := 3) (c := 6909550) hm hL hT (by decide) (by decide) (by decide +kernel) (by decide)
  have h17 := zpk_word (T := T) (f := 81) (m2 := 6) (c := 131260264768868) hm hL hT (by decide) (by decide) (by decide +kernel) (by decide)
  unfold zWd zwk
  by_cases c0 : m = 4 ∧ zwm T q 0 4
  · rw [if_pos c0]; exact Or.inl ⟨rfl, h0.mp c0⟩
  rw [if_neg c0]
  by_cases c1 : m = 2 ∧ zwm T q 5 2
  · rw [if_pos c1]; exact Or.inr (Or.inl ⟨rfl, h1.mp c1⟩)
  rw [if_neg c1]
  by_cases c2 : m = 4 ∧ zwm T q 8 4
  · rw [if_pos c2]; exact Or.inr (Or.inr (Or.inl ⟨rfl, h2.mp c2⟩))
  rw [if_neg c2]
  by_cases c3 : m = 2 ∧ zwm T q 13 2
  · rw [if_pos c3]; exact Or.inr (Or.inr (Or.inr (Or.inl ⟨rfl, h3.mp c3⟩)))
  rw [if_neg c3]
  by_cases c4 : m = 6 ∧ zwm T q 16 6
  · rw [if_pos c4]; exact Or.inr (Or.inr (Or.inr (Or.inr (Or.inl ⟨rfl, h4.mp c4⟩))))
  rw [if_neg c4]
  by_cases c5 : m = 2 ∧ zwm T q 23 2
  · rw [if_pos c5]; exact Or.inr (Or.inr (Or.inr (Or.inr (Or.inr (Or.inl ⟨rfl, h5.mp c5⟩)))))
  rw [if_neg c5]
  by_cases c6 : m = 3 ∧ zwm T q 26 3
  · rw [if_pos c6]; exact Or.inr (Or.inr (Or.inr (Or.inr (Or.inr (Or.inr (Or.inl ⟨rfl, h6.mp c6⟩))))))
  rw [if_neg c6]
  by_cases c7 : m = 3 ∧ zwm T q 30 3
  · rw [if_pos c7]; exact Or.inr (Or.inr (Or.inr (Or.inr (Or.inr (Or.inr (Or.inr (Or.inl ⟨rfl, h7.mp c7⟩)))))))
  rw [if_neg c7]
  by_cases c8 : m = 4 ∧ zwm T q 34 4
  · rw [if_pos c8]; exact Or.inr (Or.inr (Or.inr (Or.inr (Or.inr (Or.inr (Or.inr (Or.inr (Or.inl ⟨rfl, h8.mp c8⟩))))))))
  rw [if_neg c8]
  by_cases c9 : m = 4 ∧ zwm T q 39 4
  · rw [if_pos c9]; exact Or.inr (Or.inr (Or.inr (Or.inr (Or.inr (Or.inr (Or.inr (Or.inr (Or.inr (Or.inl ⟨rfl, h9.mp c9⟩)))))))))
  rw [if_neg c9]
  by_cases c10 : m = 3 ∧ zwm T q 44 3
  · rw [if_pos c10]; exact Or.inr (Or.inr (Or.inr (Or.inr (Or.inr (Or.inr (Or.inr (Or.inr (Or.inr (Or.inr (Or.inl ⟨rfl, h10.mp c10⟩))))))))))
  rw [if_neg c10]
  by_cases c11 : m = 5 ∧ zwm T q 48 5
  · rw [if_pos c11]; exact Or.inr (Or.inr (Or.inr (Or.inr (Or.inr (Or.inr (Or.inr (Or.inr (Or.inr (Or.inr (Or.inr (Or.inl ⟨rfl, h11.mp c11⟩)))))))))))
  rw [if_neg c11]
  by_cases c12 : m = 4 ∧ zwm T q 54 4
  · rw [if_pos c12]; exact Or.inr (Or.inr (Or.inr (Or.inr (Or.inr (Or.inr (Or.inr (Or.inr (Or.inr (Or.inr (Or.inr (Or.inr (Or.inl ⟨rfl, h12.mp c12⟩))))))))))))
  rw [if_neg c12]
  by_cases c13 : m = 5 ∧ zwm T q 59 5
  · rw [if_pos c13]; exact Or.inr (Or.inr (Or.inr (Or.inr (Or.inr (Or.inr (Or.inr (Or.inr (Or.inr (Or.inr (Or.inr (Or.inr (Or.inr (Or.inl ⟨rfl, h13.mp c13⟩)))))))))))))
  rw [if_neg c13]
  by_cases c14 : m = 5 ∧ zwm T q 65 5
  · rw [if_pos c14]; exact Or.inr (Or.inr (Or.inr (Or.inr (Or.inr (Or.inr (Or.inr (Or.inr (Or.inr (Or.inr (Or.inr (Or.inr (Or.inr (Or.inr (Or.inl ⟨rfl, h14.mp c14⟩))))))))))))))
  rw [if_neg c14]
  by_cases c15 : m = 5 ∧ zwm T q 71 5
  · rw [if_pos c15]; exact Or.inr (Or.inr (Or.inr (Or.inr (Or.inr (Or.inr (Or.inr (Or.inr (Or.inr (Or.inr (Or.inr (Or.inr (Or.inr (Or.inr (Or.inr (Or.inl ⟨rfl, h15.mp c15⟩)))))))))))))))
  rw [if_neg c15]
  by_cases c16 : m = 3 ∧ zwm T q 77 3
  · rw [if_pos c16]; exact Or.inr (Or.inr (Or.inr (Or.inr (Or.inr (Or.inr (Or.inr (Or.inr (Or.inr (Or.inr (Or.inr (Or.inr (Or.inr (Or.inr (Or.inr (Or.inr (Or.inl ⟨rfl, h16.mp c16⟩))))))))))))))))
  rw [if_neg c16]
  by_cases c17 : m = 6 ∧ zwm T q 81 6
  · rw [if_pos c17]; exact Or.inr (Or.inr (Or.inr (Or.inr (Or.inr (Or.inr (Or.inr (Or.inr (Or.inr (Or.inr (Or.inr (Or.inr (Or.inr (Or.inr (Or.inr (Or.inr (Or.inr (Or.inl ⟨rfl, h17.mp c17⟩)))))))))))))))))
  rw [if_neg c17]
  exact Or.inr (Or.inr (Or.inr (Or.inr (Or.inr (Or.inr (Or.inr (Or.inr (Or.inr (Or.inr (Or.inr (Or.inr (Or.inr (Or.inr (Or.inr (Or.inr (Or.inr (Or.inr (⟨rfl, fun z => c0 (h0.mpr z), fun z => c1 (h1.mpr z), fun z => c2 (h2.mpr z), fun z => c3 (h3.mpr z), fun z => c4 (h4.mpr z), fun z => c5 (h5.mpr z), fun z => c6 (h6.mpr z), fun z => c7 (h7.mpr z), fun z => c8 (h8.mpr z), fun z => c9 (h9.mpr z), fun z => c10 (h10.mpr z), fun z => c11 (h11.mpr z), fun z => c12 (h12.mpr z), fun z => c13 (h13.mpr z), fun z => c14 (h14.mpr z), fun z => c15 (h15.mpr z), fun z => c16 (h16.mpr z), fun z => c17 (h17.mpr z)⟩))))))))))))))))))
