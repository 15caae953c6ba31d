/-! orders in both forms are worth the same -/
abbrev zvl (κ : Int32) : Prop := zisO κ ∨ κ = 207 ∨ κ = 205 ∨ κ = 206 ∨ κ = 61 ∨ κ = 60 ∨ κ = 62 ∨ κ = 43 ∨ κ = 45
def zval (P : List Int32) : Prop := ∀ κ, κ ∈ P → zvl κ
theorem zop_vl : ∀ w, 40 ≤ w → w < 48 → zvl (zop w) := by
  intro w h1 h2
  have : ∀ w, w < 48 → 40 ≤ w → zvl (zop w) := by decide
  exact this w h2 h1
theorem zsett_vl {p : Nat → Bool} (hp : p 48 = false) : ∀ (W : List Nat) (P : List Int32), zwo W → zval P → zwo (zsett p W P).1 ∧ zval (zsett p W P).2
  | [], P, hW, hP => ⟨hW, hP⟩
  | w :: W, P, hW, hP => by
    by_cases c : p w = true
    · have e : zsett p (w :: W) P = zsett p W (zop w :: P) := by show (if p w = true then _ else _) = _; rw [if_pos c]
      rw [e]
      have hw := hW w (by simp)
      have hne : w ≠ 48 := fun z => by subst z; rw [hp] at c; exact absurd c (by decide)
      refine zsett_vl hp W (zop w :: P) (fun x hx => hW x (by simp [hx])) (fun κ hκ => ?_)
      rcases List.mem_cons.mp hκ with z | z
      · rw [z]; exact zop_vl w hw.1 (by omega)
      · exact hP κ z
    · have e : zsett p (w :: W) P = (w :: W, P) := by show (if p w = true then _ else _) = _; rw [if_neg c]
      rw [e]
      exact ⟨hW, hP⟩
theorem zwo_c {w : Nat} {W : List Nat} (hw : 40 ≤ w ∧ w ≤ 48) (hW : zwo W) : zwo (w :: W) := fun x hx => by
  rcases List.mem_cons.mp hx with z | z
  · omega
  · exact hW x z
theorem zst_vl {k : Nat → Int32} {c c' : zCf} (hs : zst k c = .inr c') (hW : zwo c.2.2.1) (hP : zval c.2.2.2.1) : zwo c'.2.2.1 ∧ zval c'.2.2.2.1 := by
  obtain ⟨now, i, W, P, v⟩ := c
  simp only at hW hP
  have q46 := zsett_vl (p := zq46) (by decide) W P hW hP
  have q0 := zsett_vl (p := zq0) (by decide) W P hW hP
  by_cases hn : now = 2
  · subst hn
    rw [zst_2] at hs
    unfold zsig at hs
    by_cases c1 : k i = 43 ∨ k i = 45
    · rw [if_pos c1] at hs
      cases hs
      exact ⟨zwo_c (by split <;> omega) q46.1, q46.2⟩
    rw [if_neg c1] at hs
    by_cases c2 : k i = 61 ∨ k i = 60 ∨ k i = 62
    · rw [if_pos c2] at hs
      by_cases c3 : zcmT (zsett zq46 W P).1 = true
      · rw [if_pos c3] at hs; cases hs
      · rw [if_neg c3] at hs
        cases hs
        exact ⟨zwo_c (by split; omega; split <;> omega) q46.1, q46.2⟩
    rw [if_neg c2] at hs
    by_cases c3 : k i = 206 ∨ k i = 205
    · rw [if_pos c3] at hs
      cases hs
      have qo := zsett_vl (p := zqo (decide (k i = 206))) (by unfold zqo; simp) W P hW hP
      exact ⟨zwo_c (by split <;> omega) qo.1, qo.2⟩
    rw [if_neg c3] at hs
    by_cases c4 : k i = 41 ∧ 48 ∈ W
    · rw [if_pos c4] at hs
      cases hs
      exact ⟨fun x hx => q0.1 x (List.mem_of_mem_tail hx), q0.2⟩
    · rw [if_neg c4] at hs; cases hs
  · rw [zst_n hn] at hs
    unfold zopn at hs
    by_cases c0 : now = 0 ∧ 8 ≤ zdeep W
    · rw [if_pos c0] at hs; cases hs
    rw [if_neg c0] at hs
    by_cases c1 : zisO (k i) ∨ k i = 3
    · rw [if_pos c1] at hs
      by_cases c2 : v = 100
      · rw [if_pos c2] at hs; cases hs
      rw [if_neg c2] at hs
      by_cases c3 : k i = 3
      · rw [if_pos c3] at hs; cases hs
      rw [if_neg c3] at hs
      cases hs
      refine ⟨hW, fun κ hκ => ?_⟩
      rcases List.mem_cons.mp hκ with z | z
      · rw [z]; exact Or.inl (c1.resolve_right c3)
      · exact hP κ z
    rw [if_neg c1] at hs
    by_cases c2 : k i = 40
    · rw [if_pos c2] at hs
      cases hs
      exact ⟨zwo_c (by omega) hW, hP⟩
    rw [if_neg c2] at hs
    by_cases c3 : now = 0 ∧ k i = 207
    · rw [if_pos c3] at hs
      cases hs
      exact ⟨zwo_c (by omega) hW, hP⟩
    · rw [if_neg c3] at hs; cases hs
theorem zrch_vl {k : Nat → Int32} : ∀ {n : Nat} {c c' : zCf}, zrch k n c c' → zwo c.2.2.1 → zval c.2.2.2.1 → zwo c'.2.2.1 ∧ zval c'.2.2.2.1
  | 0, c, c', e, h1, h2 => by
    have e : c = c' := e
    subst e
    exact ⟨h1, h2⟩
  | n + 1, c, c', ⟨_, c1, e1, e2⟩, h1, h2 => by
    obtain ⟨g1, g2⟩ := zst_vl e1 h1 h2
    exact zrch_vl e2 g1 g2
theorem zflu_vl : ∀ (t : List Nat) (P : List Int32), (∀ w, w ∈ t → 40 ≤ w ∧ w < 48) → zval P → zval (zflu t P)
  | [], P, _, h => h
  | w :: t, P, hw, h => zflu_vl t (zop w :: P) (fun x hx => hw x (by simp [hx])) (fun κ hκ => by
      rcases List.mem_cons.mp hκ with z | z
      · rw [z]; exact zop_vl w (hw w (by simp)).1 (hw w (by simp)).2
      · exact h κ z)
theorem zLns_vl {k : Nat → Int32} : ∀ {N l i v : Nat} {o : zFa ⊕ zLi} {ls : zLi}, zLns k N l i v o → o = .inr ls → ∀ x, x ∈ ls → zval x.1
  | 0, _, _, _, _, _, h, _ => absurd h (fun z => z)
  | N + 1, l, i, v, o, ls, h, ho => by
    rcases h with ⟨_, e⟩ | ⟨_, _, e⟩ | ⟨_, _, h⟩
    · rw [e] at ho
      cases ho
      intro x hx
      exact absurd hx (by simp)
    · rw [e] at ho; cases ho
    · rcases h with ⟨f, _, e⟩ | ⟨j, v2, P, o2, hn, h2, e⟩
      · rw [e] at ho; cases ho
      · match o2, h2, e with
        | .inl f, h2, e =>
          rw [e] at ho
          exact absurd ho (by simp [zcon])
        | .inr ls2, h2, e =>
          rw [e] at ho
          have : (P, k (j + 1)) :: ls2 = ls := Sum.inr.inj ho
          subst this
          intro x hx
          rcases List.mem_cons.mp hx with z | z
          · subst z
            obtain ⟨t, P0, ⟨n, hr⟩, hst, hP, _⟩ := hn
            obtain ⟨g1, g2⟩ := zrch_vl hr (fun w hw => absurd hw (by simp)) (fun κ hκ => absurd hκ (by simp))
            simp only at g1 g2
            show zval P
            rw [hP]
            refine zflu_vl t P0 (fun w hw => ?_) g2
            have h1 := g1 w hw
            have h48 : w ≠ 48 := fun z => hst.2.2 (z ▸ hw)
            omega
          · exact zLns_vl h2 rfl x z
/-! the worth of an e -/
def zevL (seen : Nat → Int32) : List Int32 → List Int32
  | [] => []
  | κ :: P => zit seen κ (zevL seen P)
theorem zht_suf : ∀ (A P : List Int32) (h : Nat), zht (A ++ P) = some h → ∃ h2, zht P = some h2
  | [], P, h, e => ⟨h, e⟩
  | κ :: A, P, h, e => by
    rw [List.cons_append, zht] at e
    match hA : zht (A ++ P) with
    | none => rw [hA] at e; exact absurd e (by simp)
    | some h2 => exact zht_suf A P h2 hA
theorem zht_oc {P : List Int32} {h : Nat} (e : zht P = some h) : h ≤ zoc P := by
  have h1 := zlen_ht P h e
  have h2 := zoc_len P
  omega
theorem zsc_O1 {κ : Int32} (h : 1000 ≤ κ.toInt) : zsc κ = 0 := by
  unfold zsc
  rw [if_pos h]
theorem zsc_O2 {κ : Int32} (h : 208 ≤ κ.toInt ∧ κ.toInt < 218) : zsc κ = κ - 188 ∧ (κ - 188).toInt = κ.toInt - 188 := by
  refine ⟨?_, ?_⟩
  · unfold zsc
    rw [if_neg (by omega), if_pos h]
  · rw [Int32.toInt_sub, show Int32.toInt 188 = 188 by decide]
    exact Int.bmod_eq_of_le (by omega) (by omega)
/-- one item -/
theorem zit_same {seen names : Nat → Int32} (hs : ∀ j, j < 10 → seen j = names j) {κ nu : Int32} (hv : zvl κ) (hn : 1000 ≤ κ.toInt → nu = κ - 1000) {s : List Int32} (hl : zisO κ → s.length < 100) : zit seen κ s = zmit names (zsc κ) nu s := by
  unfold zit zmit
  rcases hv with (h | h) | h
  · rw [if_pos (show zisop κ from Or.inl h), if_pos (hl (Or.inl h)), zsc_O1 h, if_pos (by decide)]
    unfold zopd zmopd
    rw [if_pos h, if_pos rfl, hn h]
  · obtain ⟨e1, e2⟩ := zsc_O2 h
    have e3 : (κ - 208).toInt = κ.toInt - 208 := by
      rw [Int32.toInt_sub, show Int32.toInt 208 = 208 by decide]
      exact Int.bmod_eq_of_le (by omega) (by omega)
    have e4 : κ - 188 - 20 = κ - 208 := by
      apply Int32.toInt_inj.mp
      rw [e3, Int32.toInt_sub, e2, show Int32.toInt 20 = 20 by decide, Int.bmod_eq_of_le (by omega) (by omega)]
      omega
    rw [if_pos (show zisop κ from Or.inr h), if_pos (hl (Or.inr h)), e1, if_pos (by rw [e2]; omega)]
    unfold zopd zmopd
    rw [if_neg (by omega), if_pos (by rw [e3]; omega), if_neg (fun z => by rw [z] at e2; rw [show Int32.toInt 0 = 0 by decide] at e2; omega), e4, hs _ (by rw [Int32.toNatClampNeg, e3]; omega)]
  · rcases h with h | h | h | h | h | h | h | h <;> subst h <;> rfl
theorem zit_hl {seen : Nat → Int32} {κ : Int32} {P s : List Int32} {h h2 : Nat} (e : zht P = some h) (e2 : zht (κ :: P) = some h2) (hl : s.length = h) (ho : zisO κ → h < 100) : (zit seen κ s).length = h2 := by
  rw [zht_s e] at e2
  unfold zit
  by_cases c : zisO κ
  · rw [if_pos c] at e2
    rw [if_pos (show zisop κ from c), if_pos (by rw [hl]; exact ho c), List.length_cons]
    have := Option.some.inj e2
    omega
  rw [if_neg c] at e2
  rw [if_neg (show ¬ zisop κ from c)]
  by_cases c2 : κ = 207
  · rw [if_pos c2] at e2 ⊢
    by_cases c3 : 1 ≤ h
    · rw [if_pos c3] at e2
      have := Option.some.inj e2
      match s, hl with
      | [], hl => simp at hl; omega
      | x :: r, hl => simp only [List.length_cons] at hl ⊢; omega
    · rw [if_neg c3] at e2; exact absurd e2 (by simp)
  rw [if_neg c2] at e2 ⊢
  by_cases c3 : 2 ≤ h
  · rw [if_pos c3] at e2
    have := Option.some.inj e2
    match s, hl with
    | [], hl => simp at hl; omega
    | [x], hl => simp at hl; omega
    | y :: x :: r, hl => simp only [List.length_cons] at hl ⊢; omega
  · rw [if_neg c3] at e2; exact absurd e2 (by simp)
/-- the class's pile as it grows, and the reference's -/
theorem zev_same {seen names K S N : Nat → Int32} (hs : ∀ j, j < 10 → seen j = names j) : ∀ (L P s : List Int32) (i h : Nat), zval L → (∀ j, j < L.length → K (i + j) = L.getD j 0 ∧ S (i + j) = zsc (L.getD j 0) ∧ (1000 ≤ (L.getD j 0).toInt → N (i + j) = L.getD j 0 - 1000)) → zht (L.reverse ++ P) = some 1 → zoc (L.reverse ++ P) ≤ 100 → zht P = some h → s.length = h → zev seen K i L.length s = zmev names S N i L.length s ∧ zmwf S i L.length h
  | [], P, s, i, h, _, _, h1, _, h3, _ => by
    have h1 : zht P = some 1 := h1
    rw [h1] at h3
    have := Option.some.inj h3
    exact ⟨rfl, by show 1 ≤ h; omega⟩
  | κ :: L, P, s, i, h, hv, hK, h1, h2, h3, hl => by
    have e : (κ :: L).reverse ++ P = L.reverse ++ (κ :: P) := by simp
    rw [e] at h1 h2
    obtain ⟨g, hg⟩ := zht_suf _ _ _ h1
    have hoc : ∀ A : List Int32, zoc (A ++ (κ :: P)) = zoc A + zoc (κ :: P) := by
      intro A
      induction A with
      | nil => simp [zoc]
      | cons a A ih => simp only [List.cons_append, zoc, ih]; omega
    have hh := zht_oc h3
    rw [hoc] at h2
    have ho : zisO κ → h < 100 := fun c => by
      rw [show zoc (κ :: P) = (if zisO κ then 1 else 0) + zoc P from rfl, if_pos c] at h2
      omega
    have h0 := hK 0 (by simp)
    rw [Nat.add_zero] at h0
    obtain ⟨k1, k2, k3⟩ := h0
    have hvκ : zvl κ := hv κ (by simp)
    have ih := zev_same hs L (κ :: P) (zit seen κ s) (i + 1) g (fun x hx => hv x (by simp [hx])) (fun j hj => by
      have := hK (j + 1) (by simp; omega)
      rw [show i + (j + 1) = i + 1 + j by omega] at this
      exact this) h1 (by rw [hoc]; exact h2) hg (zit_hl h3 hg hl ho)
    refine ⟨?_, ?_⟩
    · show zev seen K (i + 1) L.length (zit seen (K i) s) = zmev names S N (i + 1) L.length (zmit names (S i) (N i) s)
      rw [k1, k2]
      show zev seen K (i + 1) L.length (zit seen κ s) = zmev names S N (i + 1) L.length (zmit names (zsc κ) (N i) s)
      rw [← zit_same hs hvκ (fun z => k3 z) (fun z => by rw [hl]; exact ho z)]
      exact ih.1
    · have k2 : S i = zsc κ := k2
      rw [zht_s h3] at hg
      by_cases c : zisO κ
      · rw [if_pos c] at hg
        have eg := Option.some.inj hg
        left
        have hr : (zsc κ = 0 ∨ (20 ≤ (zsc κ).toInt ∧ (zsc κ).toInt < 30)) := by
          rcases c with c | c
          · exact Or.inl (zsc_O1 c)
          · obtain ⟨e1, e2⟩ := zsc_O2 c
            rw [e1, e2]
            exact Or.inr (by omega)
        rw [k2]
        refine ⟨?_, hr, by have := ho c; omega, by rw [eg]; exact ih.2⟩
        rcases hr with z | z
        · rw [z]; decide
        · omega
      rw [if_neg c] at hg
      by_cases c2 : κ = 207
      · rw [if_pos c2] at hg
        by_cases c3 : 1 ≤ h
        · rw [if_pos c3] at hg
          have eg := Option.some.inj hg
          right; left
          rw [k2, c2]
          exact ⟨rfl, c3, by rw [eg]; exact ih.2⟩
        · rw [if_neg c3] at hg; exact absurd hg (by simp)
      rw [if_neg c2] at hg
      by_cases c3 : 2 ≤ h
      · rw [if_pos c3] at hg
        have eg := Option.some.inj hg
        right; right
        rw [k2]
        refine ⟨?_, c3, by rw [eg]; exact ih.2⟩
        rcases hvκ with z | z | z
        · exact absurd z c
        · exact absurd z c2
        · rcases z with z | z | z | z | z | z | z <;> rw [z] <;> decide
      · rw [if_neg c3] at hg; exact absurd hg (by simp)
