/-! what always holds of the orders' machine -/
abbrev zisN (κ : Int32) : Prop := κ = 207
def zoc : List Int32 → Nat
  | [] => 0
  | κ :: P => (if zisO κ then 1 else 0) + zoc P
def znc : List Int32 → Nat
  | [] => 0
  | κ :: P => (if κ = 207 then 1 else 0) + znc P
/-- the pile's height, if nothing falls short -/
def zht : List Int32 → Option Nat
  | [] => some 0
  | κ :: P => match zht P with
    | none => none
    | some h => if zisO κ then some (h + 1) else if κ = 207 then (if 1 ≤ h then some h else none) else (if 2 ≤ h then some (h - 1) else none)
theorem zht_s {κ : Int32} {P : List Int32} {h : Nat} (e : zht P = some h) : zht (κ :: P) = if zisO κ then some (h + 1) else if κ = 207 then (if 1 ≤ h then some h else none) else (if 2 ≤ h then some (h - 1) else none) := by
  rw [zht, e]
theorem zlen_ht : ∀ (P : List Int32) (h : Nat), zht P = some h → P.length + h = 2 * zoc P + znc P
  | [], h, e => by
    have e : some 0 = some h := e
    have := Option.some.inj e
    subst this
    rfl
  | κ :: P, h, e => by
    match hP : zht P with
    | none => rw [zht, hP] at e; exact absurd e (by simp)
    | some h1 =>
      have ih := zlen_ht P h1 hP
      rw [zht_s hP] at e
      rw [List.length_cons, zoc, znc]
      by_cases c1 : zisO κ
      · rw [if_pos c1] at e ⊢
        have := Option.some.inj e
        have c2 : ¬ κ = 207 := fun z => by rw [z] at c1; exact absurd c1 (by decide)
        rw [if_neg c2]
        omega
      · rw [if_neg c1] at e ⊢
        by_cases c2 : κ = 207
        · rw [if_pos c2] at e ⊢
          by_cases c3 : 1 ≤ h1
          · rw [if_pos c3] at e
            have := Option.some.inj e
            omega
          · rw [if_neg c3] at e; exact absurd e (by simp)
        · rw [if_neg c2] at e ⊢
          by_cases c3 : 2 ≤ h1
          · rw [if_pos c3] at e
            have := Option.some.inj e
            omega
          · rw [if_neg c3] at e; exact absurd e (by simp)
def zbW : List Nat → Nat
  | [] => 0
  | w :: W => (if w = 48 ∨ w = 40 then 0 else 1) + zbW W
def znW : List Nat → Nat
  | [] => 0
  | w :: W => (if w = 40 then 1 else 0) + znW W
theorem zbW_app (s W : List Nat) : zbW (s ++ W) = zbW s + zbW W := by
  induction s with
  | nil => simp [zbW]
  | cons a s ih => simp only [List.cons_append, zbW, ih]; omega
theorem znW_app (s W : List Nat) : znW (s ++ W) = znW s + znW W := by
  induction s with
  | nil => simp [znW]
  | cons a s ih => simp only [List.cons_append, znW, ih]; omega
theorem zbn_len : ∀ (s : List Nat), (∀ w, w ∈ s → w ≠ 48) → s.length = zbW s + znW s
  | [], _ => rfl
  | a :: s, h => by
    have ih := zbn_len s (fun w hw => h w (by simp [hw]))
    have ha := h a (by simp)
    rw [List.length_cons, ih, zbW, znW]
    by_cases c : a = 40
    · rw [if_pos (Or.inr c), if_pos c]; omega
    · rw [if_neg (fun z => z.elim ha c), if_neg c]; omega
def zNN (k : Nat → Int32) (i : Nat) : Nat := zcn (fun j => decide (k j = 207)) i
def zwo (W : List Nat) : Prop := ∀ w, w ∈ W → 40 ≤ w ∧ w ≤ 48
/-- b items before this line, v0 operands, n0 nots -/
def zInv (k : Nat → Int32) (b v0 n0 : Nat) (c : zCf) : Prop :=
  (v0 ≤ c.2.2.2.2 ∧ c.2.2.2.2 ≤ 100) ∧ zoc c.2.2.2.1 = c.2.2.2.2 - v0 ∧ zht c.2.2.2.1 = some (zbW c.2.2.1 + (if c.1 = 2 then 1 else 0)) ∧ znc c.2.2.2.1 + znW c.2.2.1 + n0 ≤ zNN k c.2.1 ∧ b ≤ 2 * v0 + n0 ∧ zwo c.2.2.1 ∧ zdeep c.2.2.1 ≤ (if c.1 = 0 then 8 else 7)
theorem zInv.len {k : Nat → Int32} {b v0 n0 now i v : Nat} {W : List Nat} {P : List Int32} (h : zInv k b v0 n0 (now, i, W, P, v)) : b + P.length + zbW W + znW W ≤ 2 * v + zNN k i := by
  obtain ⟨h1, h2, h3, h4, h5, -⟩ := h
  have := zlen_ht P _ h3
  simp only at *
  omega
theorem zop_c {w : Nat} (h : 40 ≤ w ∧ w ≤ 47) : ¬ zisO (zop w) ∧ (zop w = 207 ↔ w = 40) := by
  have key : ∀ w, w < 48 → 40 ≤ w → ¬ zisO (zop w) ∧ (zop w = 207 ↔ w = 40) := by decide
  exact key w (by omega) h.1
/-- one is popped -/
theorem zpop {w : Nat} {W : List Nat} {P : List Int32} (hw : 40 ≤ w ∧ w ≤ 47) (h : zht P = some (zbW (w :: W) + 1)) : zht (zop w :: P) = some (zbW W + 1) ∧ zoc (zop w :: P) = zoc P ∧ znc (zop w :: P) + znW W = znc P + znW (w :: W) := by
  obtain ⟨c1, c2⟩ := zop_c hw
  rw [zht_s h, if_neg c1, zoc, if_neg c1, znc, zbW, znW]
  by_cases c : w = 40
  · rw [if_pos (c2.mpr c), if_pos (c2.mpr c), if_pos (Or.inr c), if_pos c, if_pos (by omega)]
    refine ⟨by congr 1; omega, by omega, by omega⟩
  · rw [show (if w = 48 ∨ w = 40 then 0 else 1) = 1 from if_neg (fun z => by omega), if_neg (fun z => c (c2.mp z)), if_neg (fun z => c (c2.mp z)), if_neg c, if_pos (by omega)]
    refine ⟨by congr 1; omega, by omega, by omega⟩
theorem zsett_inv {p : Nat → Bool} (hp : p 48 = false) : ∀ (W : List Nat) (P : List Int32), zwo W → zht P = some (zbW W + 1) → zht (zsett p W P).2 = some (zbW (zsett p W P).1 + 1) ∧ zoc (zsett p W P).2 = zoc P ∧ znc (zsett p W P).2 + znW (zsett p W P).1 = znc P + znW W ∧ zwo (zsett p W P).1 ∧ zdeep (zsett p W P).1 ≤ zdeep W ∧ (∀ w, w ∈ (zsett p W P).1 → w ∈ W)
  | [], P, hW, h => ⟨h, rfl, rfl, hW, Nat.le_refl _, fun _ z => z⟩
  | w :: W, P, hW, h => by
    by_cases c : p w = true
    · have e : zsett p (w :: W) P = zsett p W (zop w :: P) := by show (if p w = true then _ else _) = _; rw [if_pos c]
      rw [e]
      have hw := hW w (by simp)
      have hne : w ≠ 48 := fun z => by subst z; rw [hp] at c; exact absurd c (by decide)
      obtain ⟨h1, h2, h3⟩ := zpop (W := W) ⟨hw.1, by omega⟩ h
      obtain ⟨g1, g2, g3, g4, g5, g6⟩ := zsett_inv hp W (zop w :: P) (fun x hx => hW x (by simp [hx])) h1
      refine ⟨g1, by omega, by omega, g4, ?_, fun x hx => by simp [g6 x hx]⟩
      have : zdeep W ≤ zdeep (w :: W) := by rw [zdeep]; omega
      omega
    · have e : zsett p (w :: W) P = (w :: W, P) := by show (if p w = true then _ else _) = _; rw [if_neg c]
      rw [e]
      exact ⟨h, rfl, rfl, hW, Nat.le_refl _, fun _ z => z⟩
theorem zsett_48 {p : Nat → Bool} (hp : ∀ w, w ≠ 48 → p w = true) (hp2 : p 48 = false) : ∀ (W : List Nat) (P : List Int32), 48 ∈ W → ∃ W2, (zsett p W P).1 = 48 :: W2
  | [], P, h => absurd h (by simp)
  | w :: W, P, h => by
    by_cases c : w = 48
    · subst c
      refine ⟨W, ?_⟩
      show (if p 48 = true then _ else _ : List Nat × List Int32).1 = _
      rw [if_neg (by rw [hp2]; decide)]
    · have h2 : 48 ∈ W := by simp at h; rcases h with h | h; exact absurd h.symm c; exact h
      obtain ⟨W2, e⟩ := zsett_48 hp hp2 W (zop w :: P) h2
      refine ⟨W2, ?_⟩
      show (if p w = true then zsett p W (zop w :: P) else _ : List Nat × List Int32).1 = _
      rw [if_pos (hp w c)]
      exact e
theorem zNN_s (k : Nat → Int32) (i : Nat) : zNN k (i + 1) = zNN k i + (if k i = 207 then 1 else 0) := by
  show zcn _ i + _ = _
  unfold zNN
  by_cases c : k i = 207
  · simp [c]
  · simp [c]
theorem zInv.st {k : Nat → Int32} {b v0 n0 : Nat} {c c' : zCf} (h : zInv k b v0 n0 c) (hnow : c.1 ≤ 2) (hs : zst k c = .inr c') : zInv k b v0 n0 c' ∧ c'.1 ≤ 2 ∧ c'.2.1 = c.2.1 + 1 := by
  obtain ⟨now, i, W, P, v⟩ := c
  obtain ⟨h1, h2, h3, h4, h5, h6, h7⟩ := h
  simp only at h1 h2 h3 h4 h5 h6 h7 hnow
  have hN := zNN_s k i
  by_cases hn : now = 2
  · subst hn
    rw [zst_2] at hs
    unfold zsig at hs
    rw [if_pos rfl] at h3
    have hN2 : zNN k i ≤ zNN k (i + 1) := by omega
    rw [if_neg (by decide)] at h7
    have bin : ∀ (p : Nat → Bool) (hp : p 48 = false) (nw w : Nat), nw ≠ 2 → (41 ≤ w ∧ w ≤ 47) → zInv k b v0 n0 (nw, i + 1, w :: (zsett p W P).1, (zsett p W P).2, v) := by
      intro p hp nw w hnw hw
      obtain ⟨g1, g2, g3, g4, g5, g6⟩ := zsett_inv hp W P h6 h3
      refine ⟨h1, by show zoc _ = _; rw [g2]; exact h2, ?_, ?_, h5, ?_, ?_⟩
      · show zht _ = some (zbW (w :: _) + (if nw = 2 then 1 else 0))
        rw [g1, if_neg hnw, zbW, if_neg (by omega)]
        congr 1
        omega
      · show znc (zsett p W P).2 + znW (w :: (zsett p W P).1) + n0 ≤ zNN k (i + 1)
        rw [znW, if_neg (by omega)]
        omega
      · intro x hx
        have hx : x ∈ w :: (zsett p W P).1 := hx
        rcases List.mem_cons.mp hx with e | e
        · omega
        · exact g4 x e
      · show zdeep (w :: _) ≤ (if nw = 0 then 8 else 7)
        rw [zdeep, if_neg (by omega)]
        split <;> omega
    split at hs
    · cases hs
      refine ⟨bin zq46 (by decide) 1 _ (by decide) (by split <;> omega), by simp, rfl⟩
    · split at hs
      · split at hs
        · cases hs
        · cases hs
          refine ⟨bin zq46 (by decide) 1 _ (by decide) (by split; omega; split <;> omega), by simp, rfl⟩
      · split at hs
        · cases hs
          refine ⟨bin (zqo _) (by unfold zqo; simp) 0 _ (by decide) (by split <;> omega), by simp, rfl⟩
        · split at hs
          · next hc =>
            cases hs
            obtain ⟨g1, g2, g3, g4, g5, g6⟩ := zsett_inv (p := zq0) (by decide) W P h6 h3
            obtain ⟨W2, e⟩ := zsett_48 (p := zq0) (fun w hw => decide_eq_true_iff.mpr hw) (by decide) W P hc.2
            rw [e] at g1 g3 g4 g5
            rw [zbW, if_pos (Or.inl rfl)] at g1
            rw [znW, if_neg (by decide)] at g3
            rw [zdeep, if_pos (Or.inl rfl)] at g5
            refine ⟨⟨h1, by show zoc _ = _; rw [g2]; exact h2, ?_, ?_, h5, ?_, ?_⟩, by simp, rfl⟩
            · show zht _ = some (zbW (zsett zq0 W P).1.tail + (if 2 = 2 then 1 else 0))
              rw [g1, e, if_pos rfl]
              show some _ = some (zbW W2 + 1)
              congr 1
              omega
            · show znc (zsett zq0 W P).2 + znW (zsett zq0 W P).1.tail + n0 ≤ zNN k (i + 1)
              rw [e]
              show znc (zsett zq0 W P).2 + znW W2 + n0 ≤ zNN k (i + 1)
              omega
            · show zwo (zsett zq0 W P).1.tail
              rw [e]
              exact fun x hx => g4 x (List.mem_cons_of_mem _ hx)
            · show zdeep (zsett zq0 W P).1.tail ≤ (if 2 = 0 then 8 else 7)
              rw [e, if_neg (by decide)]
              show zdeep W2 ≤ 7
              omega
          · cases hs
  · rw [zst_n hn] at hs
    unfold zopn at hs
    rw [if_neg hn] at h3
    split at hs
    · cases hs
    · next hd =>
      have hd7 : zdeep W ≤ 7 := by
        by_cases c0 : now = 0
        · have : ¬ 8 ≤ zdeep W := fun z => hd ⟨c0, z⟩
          omega
        · rw [if_neg c0] at h7; exact h7
      split at hs
      · next ho =>
        split at hs
        · cases hs
        · split at hs
          · cases hs
          · next hv h3n =>
            cases hs
            have ho : zisO (k i) := ho.elim id (fun z => absurd z h3n)
            have c2 : ¬ k i = 207 := fun z => by rw [z] at ho; exact absurd ho (by decide)
            refine ⟨⟨⟨by show v0 ≤ v + 1; omega, by show v + 1 ≤ 100; omega⟩, ?_, ?_, ?_, h5, h6, by show zdeep W ≤ (if 2 = 0 then 8 else 7); rw [if_neg (by decide)]; exact hd7⟩, by simp, rfl⟩
            · show (if zisO (k i) then 1 else 0) + zoc P = v + 1 - v0
              rw [if_pos ho, h2]; omega
            · show zht (k i :: P) = some (zbW W + (if 2 = 2 then 1 else 0))
              rw [zht_s h3, if_pos ho, if_pos rfl]
            · show (if k i = 207 then 1 else 0) + znc P + znW W + n0 ≤ zNN k (i + 1)
              rw [if_neg c2]; omega
      · split at hs
        · next hk =>
          cases hs
          refine ⟨⟨h1, h2, ?_, ?_, h5, ?_, ?_⟩, by simp, rfl⟩
          · show zht P = some (zbW (48 :: W) + (if 0 = 2 then 1 else 0))
            rw [h3, if_neg (by decide), zbW, if_pos (Or.inl rfl)]
            congr 1
            omega
          · show znc P + znW (48 :: W) + n0 ≤ zNN k (i + 1)
            rw [znW, if_neg (by decide)]; omega
          · exact fun x hx => by
              rcases List.mem_cons.mp hx with e | e
              · omega
              · exact h6 x e
          · show zdeep (48 :: W) ≤ (if 0 = 0 then 8 else 7)
            rw [zdeep, if_pos (Or.inl rfl), if_pos rfl]
            omega
        · split at hs
          · next hk =>
            cases hs
            refine ⟨⟨h1, h2, ?_, ?_, h5, ?_, ?_⟩, by simp, rfl⟩
            · show zht P = some (zbW (40 :: W) + (if 0 = 2 then 1 else 0))
              rw [h3, if_neg (by decide), zbW, if_pos (Or.inr rfl)]
              congr 1
              omega
            · show znc P + znW (40 :: W) + n0 ≤ zNN k (i + 1)
              rw [znW, if_pos rfl]
              rw [if_pos hk.2] at hN
              omega
            · exact fun x hx => by
                rcases List.mem_cons.mp hx with e | e
                · omega
                · exact h6 x e
            · show zdeep (40 :: W) ≤ (if 0 = 0 then 8 else 7)
              rw [zdeep, if_pos (Or.inr rfl), if_pos rfl]
              omega
          · cases hs
theorem zInv.rch {k : Nat → Int32} {b v0 n0 : Nat} : ∀ {n : Nat} {c c' : zCf}, zInv k b v0 n0 c → c.1 ≤ 2 → zrch k n c c' → zInv k b v0 n0 c' ∧ c'.1 ≤ 2 ∧ c'.2.1 = c.2.1 + n
  | 0, c, c', h, hn, e => by
    have e : c = c' := e
    subst e
    exact ⟨h, hn, rfl⟩
  | n + 1, c, c', h, hn, ⟨_, c1, e1, e2⟩ => by
    obtain ⟨g1, g2, g3⟩ := h.st hn e1
    obtain ⟨f1, f2, f3⟩ := zInv.rch g1 g2 e2
    exact ⟨f1, f2, by omega⟩
theorem zInv.R {k : Nat → Int32} {b v0 n0 : Nat} {c c' : zCf} (h : zInv k b v0 n0 c) (hn : c.1 ≤ 2) (hr : zR k c c') : zInv k b v0 n0 c' := by
  obtain ⟨n, hr⟩ := hr
  exact (h.rch hn hr).1
/-! few tokens are not -/
theorem zwk_207 {T : Nat → Int32} {q m : Nat} (h : zwk T q m = 207) : m = 3 := by
  unfold zwk at h
  by_cases c0 : m = 4 ∧ zwm T q 0 4
  · rw [if_pos c0] at h; exact absurd h (by decide)
  rw [if_neg c0] at h
  by_cases c1 : m = 2 ∧ zwm T q 5 2
  · rw [if_pos c1] at h; exact absurd h (by decide)
  rw [if_neg c1] at h
  by_cases c2 : m = 4 ∧ zwm T q 8 4
  · rw [if_pos c2] at h; exact absurd h (by decide)
  rw [if_neg c2] at h
  by_cases c3 : m = 2 ∧ zwm T q 13 2
  · rw [if_pos c3] at h; exact absurd h (by decide)
  rw [if_neg c3] at h
  by_cases c4 : m = 6 ∧ zwm T q 16 6
  · rw [if_pos c4] at h; exact absurd h (by decide)
  rw [if_neg c4] at h
  by_cases c5 : m = 2 ∧ zwm T q 23 2
  · rw [if_pos c5] at h; exact absurd h (by decide)
  rw [if_neg c5] at h
  by_cases c6 : m = 3 ∧ zwm T q 26 3
  · rw [if_pos c6] at h; exact absurd h (by decide)
  rw [if_neg c6] at h
  by_cases c7 : m = 3 ∧ zwm T q 30 3
  · exact c7.1
  rw [if_neg c7] at h
  by_cases c8 : m = 4 ∧ zwm T q 34 4
  · rw [if_pos c8] at h; exact absurd h (by decide)
  rw [if_neg c8] at h
  by_cases c9 : m = 4 ∧ zwm T q 39 4
  · rw [if_pos c9] at h; exact absurd h (by decide)
  rw [if_neg c9] at h
  by_cases c10 : m = 3 ∧ zwm T q 44 3
  · rw [if_pos c10] at h; exact absurd h (by decide)
  rw [if_neg c10] at h
  by_cases c11 : m = 5 ∧ zwm T q 48 5
  · rw [if_pos c11] at h; exact absurd h (by decide)
  rw [if_neg c11] at h
  by_cases c12 : m = 4 ∧ zwm T q 54 4
  · rw [if_pos c12] at h; exact absurd h (by decide)
  rw [if_neg c12] at h
  by_cases c13 : m = 5 ∧ zwm T q 59 5
  · rw [if_pos c13] at h; exact absurd h (by decide)
  rw [if_neg c13] at h
  by_cases c14 : m = 5 ∧ zwm T q 65 5
  · rw [if_pos c14] at h; exact absurd h (by decide)
  rw [if_neg c14] at h
  by_cases c15 : m = 5 ∧ zwm T q 71 5
  · rw [if_pos c15] at h; exact absurd h (by decide)
  rw [if_neg c15] at h
  by_cases c16 : m = 3 ∧ zwm T q 77 3
  · rw [if_pos c16] at h; exact absurd h (by decide)
  rw [if_neg c16] at h
  by_cases c17 : m = 6 ∧ zwm T q 81 6
  · rw [if_pos c17] at h; exact absurd h (by decide)
  rw [if_neg c17] at h
  exact absurd h (by decide)
theorem ztok_207 {T : Nat → Int32} {s q : Nat} (hs : s ≤ 800) (h : ztok T s q = 207) : q < s ∧ zisL (T q) ∧ zrn (zle T) q (s - q) = q + 3 := by
  unfold ztok at h
  by_cases c : s ≤ q
  · rw [if_pos c] at h; exact absurd h (by decide)
  rw [if_neg c] at h
  by_cases c1 : zisL (T q)
  · rw [if_pos c1] at h
    by_cases c2 : 8 < zrn (zle T) q (s - q) - q
    · rw [if_pos c2] at h; exact absurd h (by decide)
    · rw [if_neg c2, zwd_eq] at h
      have := zwk_207 h
      have := zrn_ge (zle T) (s - q) q
      exact ⟨by omega, c1, by omega⟩
  rw [if_neg c1] at h
  by_cases c2 : zisD (T q)
  · rw [if_pos c2] at h
    by_cases c3 : 6 < zrn (zdi T) q (s - q) - q ∨ zisL (T (zrn (zdi T) q (s - q)))
    · rw [if_pos c3] at h; exact absurd h (by decide)
    · rw [if_neg c3] at h
      have g := zrn_ge (zdi T) (s - q) q
      have hl : ∀ x, x < zrn (zdi T) q (s - q) - q → zisD (T (q + x)) := fun x hx => decide_eq_true_iff.mp (zrn_in (zdi T) (s - q) q (q + x) (by omega) (by omega))
      have c4 : zrn (zdi T) q (s - q) - q ≤ 6 := by
        rcases Nat.lt_or_ge 6 (zrn (zdi T) q (s - q) - q) with z | z
        · exact absurd (Or.inl z) c3
        · exact z
      have hb := znm_b _ c4 hl
      have hp : (10 : Int) ^ (zrn (zdi T) q (s - q) - q) ≤ 1000000 := by
        generalize zrn (zdi T) q (s - q) - q = m at c4
        match m, c4 with
        | 0, _ => decide
        | 1, _ => decide
        | 2, _ => decide
        | 3, _ => decide
        | 4, _ => decide
        | 5, _ => decide
        | 6, _ => decide
      generalize znm T q (zrn (zdi T) q (s - q) - q) = z at hb h
      generalize (10 : Int) ^ (zrn (zdi T) q (s - q) - q) = P at hb hp
      have e : (1000 + z).toInt = 1000 + z.toInt := by
        rw [Int32.toInt_add, show Int32.toInt 1000 = 1000 by decide]
        exact Int.bmod_eq_of_le (by omega) (by omega)
      rw [h, show (207 : Int32).toInt = 207 by decide] at e
      omega
  rw [if_neg c2] at h
  by_cases c3 : 0 < (T q).toInt ∧ zsgn (T q)
  · rw [if_pos c3] at h
    have := c3.2
    rw [h] at this
    exact absurd this (by decide)
  · rw [if_neg c3] at h; exact absurd h (by decide)
theorem zNN_b {B : Nat → Int32} {s : Nat} (hs : s ≤ 800) : ∀ i, (∀ j, j < i → ¬ zls (zT B s) s j) → 4 * zNN (zkn (zT B s) s) i ≤ zpl (zT B s) s i + (if zisL (zT B s (zpl (zT B s) s i)) then 0 else 1)
  | 0, _ => by
    show 4 * 0 ≤ _
    omega
  | i + 1, h => by
    have ih := zNN_b hs i (fun j hj => h j (by omega))
    have h1 := (zps_lt (fun z => h i (by omega) (Or.inl z)))
    have h2 := zpl_in (zT B s) s (i + 1)
    rw [zNN_s]
    by_cases c : zkn (zT B s) s i = 207
    · rw [if_pos c]
      obtain ⟨e1, e2, e3⟩ := ztok_207 hs c
      rw [if_pos e2] at ih
      have e4 : zps (zT B s) s (i + 1) = zpl (zT B s) s i + 3 := by
        rw [zps_s]
        unfold zte
        rw [if_neg (by omega), if_pos e2, e3]
      by_cases c5 : zpl (zT B s) s (i + 1) = zpl (zT B s) s i + 3
      · have nl : ¬ zisL (zT B s (zpl (zT B s) s (i + 1))) := by
          rw [c5, ← e3]
          intro z
          have g := zrn_ge (zle (zT B s)) (s - zpl (zT B s) s i) (zpl (zT B s) s i)
          rcases Nat.lt_or_ge (zrn (zle (zT B s)) (zpl (zT B s) s i) (s - zpl (zT B s) s i)) s with q | q
          · have := zrn_out (zle (zT B s)) (s - zpl (zT B s) s i) (zpl (zT B s) s i) (by omega)
            unfold zle at this
            rw [decide_eq_false_iff_not] at this
            exact this z
          · unfold zT at z
            rw [if_neg (by unfold zT at q; omega)] at z
            exact absurd z (by decide)
        rw [if_neg nl]
        omega
      · split <;> omega
    · rw [if_neg c]
      split at ih <;> split <;> omega
theorem zNN_200 {B : Nat → Int32} {s i : Nat} (hs : s ≤ 800) (h : ∀ j, j < i → ¬ zls (zT B s) s j) : zNN (zkn (zT B s) s) i ≤ 200 := by
  have h1 := zNN_b hs i h
  have h2 := zpl_in (zT B s) s i
  split at h1 <;> omega
