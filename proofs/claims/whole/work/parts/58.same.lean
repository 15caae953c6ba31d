/-! the class's token and the reference's are the same -/
theorem zand255 : ∀ b : Int32, -128 ≤ b.toInt → b.toInt < 128 → (b &&& 255).toInt = if 0 ≤ b.toInt then b.toInt else b.toInt + 256 := by
  intro b h1 h2
  have key : ∀ k : Nat, k < 256 → ((Int32.ofInt ((k : Int) - 128)) &&& 255).toInt = if 0 ≤ ((k : Int) - 128) then ((k : Int) - 128) else ((k : Int) - 128) + 256 := by decide +kernel
  obtain ⟨k, hk⟩ : ∃ k : Nat, (k : Int) = b.toInt + 128 := ⟨(b.toInt + 128).toNat, by omega⟩
  have e : b = Int32.ofInt ((k : Int) - 128) := by
    apply Int32.toInt_inj.mp
    rw [Int32.toInt_ofInt_of_le (by omega) (by omega)]
    omega
  have := key k (by omega)
  rw [← e] at this
  rw [this]
  have e2 : ((k : Int) - 128) = b.toInt := by omega
  rw [e2]
/-- what the tape holds, either way -/
def zBU (B R : Nat → Int32) : Prop := ∀ j, j < 800 → (-128 ≤ (B j).toInt ∧ (B j).toInt < 128) ∧ R j = B j &&& 255
theorem zBU.at {B R : Nat → Int32} (h : zBU B R) {s : Nat} (hs : s ≤ 800) (j : Nat) : (zisL (zU R s j) ↔ zisL (zT B s j)) ∧ (zisD (zU R s j) ↔ zisD (zT B s j)) ∧ (zisB (zU R s j) ↔ zisB (zT B s j)) ∧ (zsgn (zU R s j) ↔ 0 < (zT B s j).toInt ∧ zsgn (zT B s j)) ∧ (0 ≤ (zT B s j).toInt → j < s → zU R s j = zT B s j) ∧ (zT B s j).toInt < 128 := by
  unfold zU zT
  by_cases hj : j < s
  · rw [if_pos hj, if_pos hj]
    obtain ⟨h1, h2⟩ := h j (by omega)
    have h3 := zand255 (B j) h1.1 h1.2
    rw [← h2] at h3
    by_cases h0 : 0 ≤ (B j).toInt
    · rw [if_pos h0] at h3
      have e : R j = B j := Int32.toInt_inj.mp h3
      rw [e]
      refine ⟨Iff.rfl, Iff.rfl, Iff.rfl, ⟨fun z => ⟨?_, z⟩, fun z => z.2⟩, fun _ _ => rfl, h1.2⟩
      rcases z with z | z | z | z | z | z | z | z <;> rw [z] <;> decide
    · rw [if_neg h0] at h3
      have ne : ∀ c : Int32, 0 ≤ c.toInt → c.toInt < 128 → ¬ R j = c ∧ ¬ B j = c := fun c a b => ⟨fun z => by rw [z] at h3; omega, fun z => by rw [z] at h0; omega⟩
      refine ⟨⟨fun z => by omega, fun z => by omega⟩, ⟨fun z => by omega, fun z => by omega⟩, ⟨fun z => ?_, fun z => ?_⟩, ⟨fun z => ?_, fun z => by omega⟩, fun z => absurd z h0, h1.2⟩
      · rcases z with z | z
        · exact absurd z (ne 32 (by decide) (by decide)).1
        · exact absurd z (ne 10 (by decide) (by decide)).1
      · rcases z with z | z
        · exact absurd z (ne 32 (by decide) (by decide)).2
        · exact absurd z (ne 10 (by decide) (by decide)).2
      · exfalso
        rcases z with z | z | z | z | z | z | z | z
        · exact (ne 59 (by decide) (by decide)).1 z
        · exact (ne 60 (by decide) (by decide)).1 z
        · exact (ne 62 (by decide) (by decide)).1 z
        · exact (ne 61 (by decide) (by decide)).1 z
        · exact (ne 43 (by decide) (by decide)).1 z
        · exact (ne 45 (by decide) (by decide)).1 z
        · exact (ne 40 (by decide) (by decide)).1 z
        · exact (ne 41 (by decide) (by decide)).1 z
  · rw [if_neg hj, if_neg hj]
    refine ⟨by decide, by decide, by decide, by decide, fun _ z => absurd z hj, by decide⟩
theorem zBU.le {B R : Nat → Int32} (h : zBU B R) {s : Nat} (hs : s ≤ 800) : zle (zU R s) = zle (zT B s) := by
  funext j
  unfold zle
  exact decide_eq_decide.mpr (h.at hs j).1
theorem zBU.di {B R : Nat → Int32} (h : zBU B R) {s : Nat} (hs : s ≤ 800) : zdi (zU R s) = zdi (zT B s) := by
  funext j
  unfold zdi
  exact decide_eq_decide.mpr (h.at hs j).2.1
theorem zBU.bl {B R : Nat → Int32} (h : zBU B R) {s : Nat} (hs : s ≤ 800) : zbl (zU R s) = zbl (zT B s) := by
  funext j
  unfold zbl
  exact decide_eq_decide.mpr (h.at hs j).2.2.1
theorem zBU.te {B R : Nat → Int32} (h : zBU B R) {s : Nat} (hs : s ≤ 800) (q : Nat) : zte (zU R s) s q = zte (zT B s) s q := by
  unfold zte
  rw [h.le hs, h.di hs]
  have h1 := (h.at hs q).1
  have h2 := (h.at hs q).2.1
  by_cases c : s ≤ q
  · rw [if_pos c, if_pos c]
  · rw [if_neg c, if_neg c]
    by_cases c1 : zisL (zT B s q)
    · rw [if_pos c1, if_pos (h1.mpr c1)]
    · rw [if_neg c1, if_neg (fun z => c1 (h1.mp z))]
      by_cases c2 : zisD (zT B s q)
      · rw [if_pos c2, if_pos (h2.mpr c2)]
      · rw [if_neg c2, if_neg (fun z => c2 (h2.mp z))]
theorem znm_b {T : Nat → Int32} {q : Nat} : ∀ m, m ≤ 6 → (∀ x, x < m → zisD (T (q + x))) → 0 ≤ (znm T q m).toInt ∧ (znm T q m).toInt < (10 : Int) ^ m
  | 0, _, _ => ⟨by show (0 : Int) ≤ (0 : Int32).toInt; decide, by show (0 : Int32).toInt < 1; decide⟩
  | m + 1, hm, h => by
    obtain ⟨h1, h2⟩ := znm_b m (by omega) (fun x hx => h x (by omega))
    have hd := h m (by omega)
    have hp : (10 : Int) ^ m ≤ 100000 := by
      have : m ≤ 5 := by omega
      match m, this with
      | 0, _ => decide
      | 1, _ => decide
      | 2, _ => decide
      | 3, _ => decide
      | 4, _ => decide
      | 5, _ => decide
    rw [Int.pow_succ]
    generalize (10 : Int) ^ m = P at *
    rw [znm]
    have e1 : (znm T q m * 10).toInt = (znm T q m).toInt * 10 := by
      rw [Int32.toInt_mul, show Int32.toInt 10 = 10 by decide]
      exact Int.bmod_eq_of_le (by omega) (by omega)
    have e2 : (znm T q m * 10 + T (q + m)).toInt = (znm T q m).toInt * 10 + (T (q + m)).toInt := by
      rw [Int32.toInt_add, e1]
      exact Int.bmod_eq_of_le (by omega) (by omega)
    have e3 : (znm T q m * 10 + T (q + m) - 48).toInt = (znm T q m).toInt * 10 + (T (q + m)).toInt - 48 := by
      rw [Int32.toInt_sub, e2, show Int32.toInt 48 = 48 by decide]
      exact Int.bmod_eq_of_le (by omega) (by omega)
    rw [e3]
    omega
theorem znm_c {T U : Nat → Int32} {q : Nat} : ∀ m, (∀ x, x < m → T (q + x) = U (q + x)) → znm T q m = znm U q m
  | 0, _ => rfl
  | m + 1, h => by rw [znm, znm, znm_c m (fun x hx => h x (by omega)), h m (by omega)]
/-- a kind of the class, and sort, number and word of the reference -/
def zSm (κ so nu : Int32) (w : Int64) : Prop := (κ = 1 ∧ so = 0) ∨ (κ = 2 ∧ so = 3) ∨ ((1000 ≤ κ.toInt ∧ κ.toInt < 1001000) ∧ so = 2 ∧ nu = κ - 1000) ∨ (zsgn κ ∧ so = κ) ∨ (so = 1 ∧ zWd κ w)
theorem ztok_sm {B R : Nat → Int32} (h : zBU B R) {s : Nat} (hs : s ≤ 800) {q : Nat} (hq : q ≤ s) {nu : Int32} {w : Int64} (hnu : zus (zU R s) s q = 2 → nu = znm (zU R s) q (zrn (zdi (zU R s)) q (s - q) - q)) (hw : zus (zU R s) s q = 1 → w = zpk64 (zU R s) q (zrn (zle (zU R s)) q (s - q) - q)) : zSm (ztok (zT B s) s q) (zus (zU R s) s q) nu w := by
  have hE := h.at hs
  rw [h.le hs] at hw
  rw [h.di hs] at hnu
  unfold zus at hnu hw ⊢
  rw [h.le hs, h.di hs] at hnu hw ⊢
  unfold ztok
  by_cases c : s ≤ q
  · rw [if_pos c, if_pos c]; exact Or.inl ⟨rfl, rfl⟩
  rw [if_neg c] at hnu hw ⊢
  rw [if_neg c]
  have h1 := (hE q).1
  have h2 := (hE q).2.1
  have g1 := zrn_ge (zle (zT B s)) (s - q) q
  have g2 := zrn_ge (zdi (zT B s)) (s - q) q
  by_cases c1 : zisL (zT B s q)
  · rw [if_pos (h1.mpr c1)] at hnu hw ⊢
    rw [if_pos c1]
    by_cases c2 : 8 < zrn (zle (zT B s)) q (s - q) - q
    · rw [if_pos c2, if_pos c2]; exact Or.inr (Or.inl ⟨rfl, rfl⟩)
    · rw [if_neg c2] at hnu hw ⊢
      rw [if_neg c2, zwd_eq, hw rfl]
      have hl : ∀ x, x < zrn (zle (zT B s)) q (s - q) - q → zisL (zT B s (q + x)) := fun x hx => decide_eq_true_iff.mp (zrn_in (zle (zT B s)) (s - q) q (q + x) (by omega) (by omega))
      exact Or.inr (Or.inr (Or.inr (Or.inr ⟨rfl, zwk_wd (by omega) (fun x hx => (hE _).1.mpr (hl x hx)) (fun x hx => ((hE _).2.2.2.2.1 (by have := hl x hx; omega) (by omega)).symm)⟩)))
  rw [if_neg (fun z => c1 (h1.mp z))] at hnu hw ⊢
  rw [if_neg c1]
  by_cases c2 : zisD (zT B s q)
  · rw [if_pos (h2.mpr c2)] at hnu hw ⊢
    rw [if_pos c2]
    have h3 := (hE (zrn (zdi (zT B s)) q (s - q))).1
    by_cases c3 : 6 < zrn (zdi (zT B s)) q (s - q) - q ∨ zisL (zT B s (zrn (zdi (zT B s)) q (s - q)))
    · rw [if_pos c3, if_pos (c3.imp id h3.mpr)]; exact Or.inr (Or.inl ⟨rfl, rfl⟩)
    · have c3U : ¬ (6 < zrn (zdi (zT B s)) q (s - q) - q ∨ zisL (zU R s (zrn (zdi (zT B s)) q (s - q)))) := fun z => c3 (z.imp id h3.mp)
      rw [if_neg c3U] at hnu hw ⊢
      rw [if_neg c3, hnu rfl]
      have hl : ∀ x, x < zrn (zdi (zT B s)) q (s - q) - q → zisD (zT B s (q + x)) := fun x hx => decide_eq_true_iff.mp (zrn_in (zdi (zT B s)) (s - q) q (q + x) (by omega) (by omega))
      have c4 : zrn (zdi (zT B s)) q (s - q) - q ≤ 6 := by
        rcases Nat.lt_or_ge 6 (zrn (zdi (zT B s)) q (s - q) - q) with z | z
        · exact absurd (Or.inl z) c3
        · exact z
      have hb := znm_b _ c4 hl
      have hp : (10 : Int) ^ (zrn (zdi (zT B s)) q (s - q) - q) ≤ 1000000 := by
        generalize zrn (zdi (zT B s)) q (s - q) - q = m at c4
        match m, c4 with
        | 0, _ => decide
        | 1, _ => decide
        | 2, _ => decide
        | 3, _ => decide
        | 4, _ => decide
        | 5, _ => decide
        | 6, _ => decide
      rw [znm_c (U := zT B s) _ (fun x hx => (hE _).2.2.2.2.1 (by have := hl x hx; omega) (by omega))]
      generalize znm (zT B s) q (zrn (zdi (zT B s)) q (s - q) - q) = z at hb
      generalize (10 : Int) ^ (zrn (zdi (zT B s)) q (s - q) - q) = P at hb hp
      have e : (1000 + z).toInt = 1000 + z.toInt := by
        rw [Int32.toInt_add, show Int32.toInt 1000 = 1000 by decide]
        exact Int.bmod_eq_of_le (by omega) (by omega)
      refine Or.inr (Or.inr (Or.inl ⟨by omega, rfl, ?_⟩))
      apply Int32.toInt_inj.mp
      rw [Int32.toInt_sub, e, show Int32.toInt 1000 = 1000 by decide, Int.bmod_eq_of_le (by omega) (by omega)]
      omega
  rw [if_neg (fun z => c2 (h2.mp z))] at hnu hw ⊢
  rw [if_neg c2]
  have h4 := (hE q).2.2.2.1
  by_cases c3 : 0 < (zT B s q).toInt ∧ zsgn (zT B s q)
  · rw [if_pos c3, if_pos (h4.mpr c3)]
    exact Or.inr (Or.inr (Or.inr (Or.inl ⟨c3.2, (hE q).2.2.2.2.1 (by omega) (by omega)⟩)))
  · rw [if_neg c3, if_neg (fun z => c3 (h4.mp z))]
    exact Or.inr (Or.inl ⟨rfl, rfl⟩)
