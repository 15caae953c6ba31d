/-! the orders' machine: now (0 a one is due, 1 a term, 2 what follows one), the token, what waits, what is written (the last first), the operands so far -/
abbrev zCf : Type := Nat × Nat × List Nat × List Int32 × Nat
abbrev zFa : Type := Int32 × Nat
def zop (w : Nat) : Int32 := if w = 40 then 207 else if w = 41 then 205 else if w = 42 then 206 else if w = 43 then 61 else if w = 44 then 60 else if w = 45 then 62 else if w = 46 then 43 else 45
def zdeep : List Nat → Nat
  | [] => 0
  | w :: W => (if w = 48 ∨ w = 40 then 1 else 0) + zdeep W
def zsett (p : Nat → Bool) : List Nat → List Int32 → List Nat × List Int32
  | [], P => ([], P)
  | w :: W, P => if p w = true then zsett p W (zop w :: P) else (w :: W, P)
def zq46 (w : Nat) : Bool := decide (w ≠ 48 ∧ 46 ≤ w)
def zq0 (w : Nat) : Bool := decide (w ≠ 48)
def zqo (a : Bool) (w : Nat) : Bool := decide (w ≠ 48 ∧ (a = false ∨ w ≠ 41))
def zcmT : List Nat → Bool
  | [] => false
  | w :: _ => decide (43 ≤ w ∧ w ≤ 45)
def zbad (κ : Int32) (i : Nat) : zFa := (if κ = 2 then 1 else 2, i)
abbrev zisO (κ : Int32) : Prop := 1000 ≤ κ.toInt ∨ (208 ≤ κ.toInt ∧ κ.toInt < 218)
def zopn (k : Nat → Int32) (now i : Nat) (W : List Nat) (P : List Int32) (v : Nat) : zFa ⊕ zCf :=
  if now = 0 ∧ 8 ≤ zdeep W then .inl (zbad (k i) i)
  else if zisO (k i) ∨ k i = 3 then (if v = 100 then .inl (2, i) else if k i = 3 then .inl (3, i) else .inr (2, i + 1, W, k i :: P, v + 1))
  else if k i = 40 then .inr (0, i + 1, 48 :: W, P, v)
  else if now = 0 ∧ k i = 207 then .inr (0, i + 1, 40 :: W, P, v)
  else .inl (zbad (k i) i)
def zsig (k : Nat → Int32) (i : Nat) (W : List Nat) (P : List Int32) (v : Nat) : zFa ⊕ zCf :=
  if k i = 43 ∨ k i = 45 then .inr (1, i + 1, (if k i = 43 then 46 else 47) :: (zsett zq46 W P).1, (zsett zq46 W P).2, v)
  else if k i = 61 ∨ k i = 60 ∨ k i = 62 then (if zcmT (zsett zq46 W P).1 = true then .inl (2, i) else .inr (1, i + 1, (if k i = 61 then 43 else if k i = 60 then 44 else 45) :: (zsett zq46 W P).1, (zsett zq46 W P).2, v))
  else if k i = 206 ∨ k i = 205 then .inr (0, i + 1, (if k i = 206 then 42 else 41) :: (zsett (zqo (decide (k i = 206))) W P).1, (zsett (zqo (decide (k i = 206))) W P).2, v)
  else if k i = 41 ∧ 48 ∈ W then .inr (2, i + 1, (zsett zq0 W P).1.tail, (zsett zq0 W P).2, v)
  else .inl (zbad (k i) i)
def zst (k : Nat → Int32) (c : zCf) : zFa ⊕ zCf := if c.1 = 2 then zsig k c.2.1 c.2.2.1 c.2.2.2.1 c.2.2.2.2 else zopn k c.1 c.2.1 c.2.2.1 c.2.2.2.1 c.2.2.2.2
def zstop (k : Nat → Int32) (c : zCf) : Prop := c.1 = 2 ∧ k c.2.1 = 201 ∧ ¬ 48 ∈ c.2.2.1
def zrch (k : Nat → Int32) : Nat → zCf → zCf → Prop
  | 0, c, c' => c = c'
  | n + 1, c, c' => ¬ zstop k c ∧ ∃ c1, zst k c = .inr c1 ∧ zrch k n c1 c'
def zR (k : Nat → Int32) (c c' : zCf) : Prop := ∃ n, zrch k n c c'
def zFl2 (k : Nat → Int32) (c : zCf) (f : zFa) : Prop := ∃ c1, zR k c c1 ∧ ¬ zstop k c1 ∧ zst k c1 = .inl f
theorem zrch_tr {k : Nat → Int32} : ∀ {a b : Nat} {c c1 c2 : zCf}, zrch k a c c1 → zrch k b c1 c2 → zrch k (a + b) c c2
  | 0, b, c, c1, c2, h1, h2 => by
    have h1 : c = c1 := h1
    subst h1
    rw [Nat.zero_add]
    exact h2
  | a + 1, b, c, c1, c2, h1, h2 => by
    obtain ⟨hs, d, h3, h4⟩ := h1
    rw [show a + 1 + b = (a + b) + 1 by omega]
    exact ⟨hs, d, h3, zrch_tr h4 h2⟩
theorem zR.rf {k : Nat → Int32} (c : zCf) : zR k c c := ⟨0, rfl⟩
theorem zR.tr {k : Nat → Int32} {c c1 c2 : zCf} (h1 : zR k c c1) (h2 : zR k c1 c2) : zR k c c2 := by
  obtain ⟨a, h1⟩ := h1
  obtain ⟨b, h2⟩ := h2
  exact ⟨a + b, zrch_tr h1 h2⟩
theorem zR.one {k : Nat → Int32} {c c1 : zCf} (hs : ¬ zstop k c) (h : zst k c = .inr c1) : zR k c c1 := ⟨1, hs, c1, h, rfl⟩
theorem zR.fl {k : Nat → Int32} {c c1 : zCf} {f : zFa} (h1 : zR k c c1) (h2 : zFl2 k c1 f) : zFl2 k c f := by
  obtain ⟨d, h3, h4⟩ := h2
  exact ⟨d, h1.tr h3, h4⟩
def zflu : List Nat → List Int32 → List Int32
  | [], P => P
  | w :: s, P => zflu s (zop w :: P)
theorem zflu_app (s : List Nat) (w : Nat) : ∀ P, zflu (s ++ [w]) P = zop w :: zflu s P := by
  induction s with
  | nil => intro P; rfl
  | cons a s ih => intro P; exact ih (zop a :: P)
theorem zflu_app2 (s s2 : List Nat) : ∀ P, zflu (s ++ s2) P = zflu s2 (zflu s P) := by
  induction s with
  | nil => intro P; rfl
  | cons a s ih => intro P; exact ih (zop a :: P)
theorem zflu_len (s : List Nat) : ∀ P, (zflu s P).length = s.length + P.length := by
  induction s with
  | nil => intro P; simp [zflu]
  | cons a s ih =>
    intro P
    rw [zflu, ih]
    simp only [List.length_cons]
    omega
/-- p pops all of s, and nothing of W -/
theorem zsett_app {p : Nat → Bool} {W : List Nat} (hW : ∀ w, W.head? = some w → p w = false) : ∀ (s : List Nat) (P : List Int32), (∀ w, w ∈ s → p w = true) → zsett p (s ++ W) P = (W, zflu s P)
  | [], P, _ => by
    match W, hW with
    | [], _ => rfl
    | w :: W, hW =>
      show (if p w = true then _ else _) = _
      rw [if_neg (by rw [hW w rfl]; decide)]
      rfl
  | a :: s, P, h => by
    show (if p a = true then zsett p (s ++ W) (zop a :: P) else _) = _
    rw [if_pos (h a (by simp)), zsett_app hW s _ (fun w hw => h w (by simp [hw]))]
    rfl
theorem znstop_now {k : Nat → Int32} {now i : Nat} {W : List Nat} {P : List Int32} {v : Nat} (h : now ≠ 2) : ¬ zstop k (now, i, W, P, v) := fun z => h z.1
theorem znstop_k {k : Nat → Int32} {now i : Nat} {W : List Nat} {P : List Int32} {v : Nat} (h : ¬ k i = 201) : ¬ zstop k (now, i, W, P, v) := fun z => h z.2.1
section ZM
variable {k : Nat → Int32} {now i : Nat} {W : List Nat} {P : List Int32} {v : Nat}
theorem zst_n (h : now ≠ 2) : zst k (now, i, W, P, v) = zopn k now i W P v := if_neg h
theorem zst_2 : zst k (2, i, W, P, v) = zsig k i W P v := if_pos rfl
theorem zm_op (h2 : now ≠ 2) (hd : now = 0 → zdeep W < 8) (ho : zisO (k i)) (hv : v < 100) : zR k (now, i, W, P, v) (2, i + 1, W, k i :: P, v + 1) := by
  refine zR.one (znstop_now h2) ?_
  rw [zst_n h2]
  unfold zopn
  rw [if_neg (fun z => by have := hd z.1; omega), if_pos (Or.inl ho), if_neg (by omega), if_neg]
  intro z
  rw [z] at ho
  exact absurd ho (by decide)
theorem zm_open (h2 : now ≠ 2) (hd : now = 0 → zdeep W < 8) (hk : k i = 40) : zR k (now, i, W, P, v) (0, i + 1, 48 :: W, P, v) := by
  refine zR.one (znstop_now h2) ?_
  rw [zst_n h2]
  unfold zopn
  rw [if_neg (fun z => by have := hd z.1; omega), hk, if_neg (by decide), if_pos rfl]
theorem zm_not (hd : zdeep W < 8) (hk : k i = 207) : zR k (0, i, W, P, v) (0, i + 1, 40 :: W, P, v) := by
  refine zR.one (znstop_now (by decide)) ?_
  rw [zst_n (by decide)]
  unfold zopn
  rw [if_neg (fun z => by omega), hk, if_neg (by decide), if_neg (by decide), if_pos ⟨rfl, rfl⟩]
theorem zm_deep (hd : 8 ≤ zdeep W) : zFl2 k (0, i, W, P, v) (zbad (k i) i) := by
  refine ⟨_, zR.rf _, znstop_now (by decide), ?_⟩
  rw [zst_n (by decide)]
  unfold zopn
  rw [if_pos ⟨rfl, hd⟩]
theorem zm_full (h2 : now ≠ 2) (hd : now = 0 → zdeep W < 8) (ho : zisO (k i) ∨ k i = 3) (hv : v = 100) : zFl2 k (now, i, W, P, v) (2, i) := by
  refine ⟨_, zR.rf _, znstop_now h2, ?_⟩
  rw [zst_n h2]
  unfold zopn
  rw [if_neg (fun z => by have := hd z.1; omega), if_pos ho, if_pos hv]
theorem zm_name (h2 : now ≠ 2) (hd : now = 0 → zdeep W < 8) (ho : k i = 3) (hv : v < 100) : zFl2 k (now, i, W, P, v) (3, i) := by
  refine ⟨_, zR.rf _, znstop_now h2, ?_⟩
  rw [zst_n h2]
  unfold zopn
  rw [if_neg (fun z => by have := hd z.1; omega), if_pos (Or.inr ho), if_neg (by omega), if_pos ho]
theorem zm_none (h2 : now ≠ 2) (hd : now = 0 → zdeep W < 8) (ho : ¬ (zisO (k i) ∨ k i = 3)) (h40 : ¬ k i = 40) (hn : now = 0 → ¬ k i = 207) : zFl2 k (now, i, W, P, v) (zbad (k i) i) := by
  refine ⟨_, zR.rf _, znstop_now h2, ?_⟩
  rw [zst_n h2]
  unfold zopn
  rw [if_neg (fun z => by have := hd z.1; omega), if_neg ho, if_neg h40, if_neg (fun z => hn z.1 z.2)]
end ZM
/-- W's top is none that p pops -/
def ztp (p : Nat → Bool) (W : List Nat) : Prop := ∀ w, W.head? = some w → p w = false
section ZN
variable {k : Nat → Int32} {i : Nat} {s W : List Nat} {P : List Int32} {v : Nat}
theorem zm_sum (hk : k i = 43 ∨ k i = 45) (hs : ∀ w, w ∈ s → zq46 w = true) (hW : ztp zq46 W) : zR k (2, i, s ++ W, P, v) (1, i + 1, (if k i = 43 then 46 else 47) :: W, zflu s P, v) := by
  refine zR.one (znstop_k (by rcases hk with h | h <;> rw [h] <;> decide)) ?_
  rw [zst_2]
  unfold zsig
  rw [if_pos hk, zsett_app hW s P hs]
theorem zm_cmp (hk : k i = 61 ∨ k i = 60 ∨ k i = 62) (hs : ∀ w, w ∈ s → zq46 w = true) (hW : ztp zq46 W) (hc : zcmT W = false) : zR k (2, i, s ++ W, P, v) (1, i + 1, (if k i = 61 then 43 else if k i = 60 then 44 else 45) :: W, zflu s P, v) := by
  refine zR.one (znstop_k (by rcases hk with h | h | h <;> rw [h] <;> decide)) ?_
  rw [zst_2]
  unfold zsig
  rw [if_neg (by rcases hk with h | h | h <;> rw [h] <;> decide), if_pos hk, zsett_app hW s P hs, if_neg (by rw [hc]; decide)]
theorem zm_and (hk : k i = 206) (hs : ∀ w, w ∈ s → zqo true w = true) (hW : ztp (zqo true) W) : zR k (2, i, s ++ W, P, v) (0, i + 1, 42 :: W, zflu s P, v) := by
  refine zR.one (znstop_k (by rw [hk]; decide)) ?_
  rw [zst_2]
  unfold zsig
  rw [hk, if_neg (by decide), if_neg (by decide), if_pos (by decide)]
  have := zsett_app (p := zqo (decide ((206 : Int32) = 206))) (W := W) hW s P hs
  rw [this]
  rfl
theorem zm_or (hk : k i = 205) (hs : ∀ w, w ∈ s → zqo false w = true) (hW : ztp (zqo false) W) : zR k (2, i, s ++ W, P, v) (0, i + 1, 41 :: W, zflu s P, v) := by
  refine zR.one (znstop_k (by rw [hk]; decide)) ?_
  rw [zst_2]
  unfold zsig
  rw [hk, if_neg (by decide), if_neg (by decide), if_pos (by decide)]
  have := zsett_app (p := zqo (decide ((205 : Int32) = 206))) (W := W) hW s P hs
  rw [this]
  rfl
theorem zm_close (hk : k i = 41) (hs : ∀ w, w ∈ s → zq0 w = true) : zR k (2, i, s ++ 48 :: W, P, v) (2, i + 1, W, zflu s P, v) := by
  refine zR.one (znstop_k (by rw [hk]; decide)) ?_
  rw [zst_2]
  unfold zsig
  rw [hk, if_neg (by decide), if_neg (by decide), if_neg (by decide), if_pos ⟨rfl, by simp⟩, zsett_app (W := 48 :: W) (fun w hw => by simp at hw; subst hw; decide) s P hs]
  rfl
/-- what may follow an e that is read: nothing that it would take in -/
def zfol1 (k : Nat → Int32) (i : Nat) (s : List Nat) : Prop := ¬ (k i = 43 ∨ k i = 45) ∧ (k i = 61 ∨ k i = 60 ∨ k i = 62 → ∃ s1 c s2, s = s1 ++ c :: s2 ∧ (∀ w, w ∈ s1 → zq46 w = true) ∧ 43 ≤ c ∧ c ≤ 45)
theorem zfol1.app {s2 : List Nat} (h : zfol1 k i s) : zfol1 k i (s ++ s2) := by
  refine ⟨h.1, fun z => ?_⟩
  obtain ⟨a, c, b, e, h1⟩ := h.2 z
  exact ⟨a, c, b ++ s2, by rw [e]; simp, h1⟩
theorem zm_end (hf : zfol1 k i s) (ha : ¬ k i = 206) (ho : ¬ k i = 205) (hc : ¬ (k i = 41 ∧ 48 ∈ s ++ W)) (hst : ¬ zstop k (2, i, s ++ W, P, v)) : zFl2 k (2, i, s ++ W, P, v) (zbad (k i) i) := by
  refine ⟨_, zR.rf _, hst, ?_⟩
  rw [zst_2]
  unfold zsig
  rw [if_neg hf.1]
  by_cases hq : k i = 61 ∨ k i = 60 ∨ k i = 62
  · rw [if_pos hq]
    obtain ⟨s1, c, s2, e, h1, h2, h3⟩ := hf.2 hq
    rw [e, show (s1 ++ c :: s2) ++ W = s1 ++ (c :: (s2 ++ W)) by simp, zsett_app (W := c :: (s2 ++ W)) (fun w hw => by
      simp at hw
      subst hw
      unfold zq46
      rw [decide_eq_false_iff_not]
      omega) s1 P h1]
    rw [if_pos (show zcmT (c :: (s2 ++ W)) = true from decide_eq_true_iff.mpr ⟨h2, h3⟩)]
    unfold zbad
    rw [if_neg (by rcases hq with h | h | h <;> rw [h] <;> decide)]
  · rw [if_neg hq, if_neg (fun z => z.elim ha ho), if_neg hc]
end ZN
