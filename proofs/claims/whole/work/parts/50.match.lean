/-! matchings of trips: how many come behind another at most -/
def zcn (p : Nat → Bool) : Nat → Nat
  | 0 => 0
  | t + 1 => zcn p t + (if p t then 1 else 0)
theorem zcn_le {p q : Nat → Bool} : ∀ {t : Nat}, (∀ b, b < t → p b = true → q b = true) → zcn p t ≤ zcn q t
  | 0, _ => Nat.le_refl _
  | t + 1, h => by
    have ih := zcn_le (t := t) (fun b hb => h b (by omega))
    unfold zcn
    by_cases hp : p t = true
    · rw [if_pos hp, if_pos (h t (by omega) hp)]; omega
    · rw [if_neg hp]; omega
theorem zcn_c {p q : Nat → Bool} : ∀ {t : Nat}, (∀ b, b < t → p b = q b) → zcn p t = zcn q t
  | 0, _ => rfl
  | t + 1, h => by
    unfold zcn
    rw [zcn_c (t := t) (fun b hb => h b (by omega)), h t (by omega)]
theorem zcn_all (p : Nat → Bool) : ∀ t, zcn p t ≤ t
  | 0 => Nat.le_refl _
  | t + 1 => by
    have := zcn_all p t
    unfold zcn
    split <;> omega
/-- one more is one more -/
theorem zcn_up {p q : Nat → Bool} {c : Nat} (hp : p c = false) (hq : q c = true) : ∀ {t : Nat}, c < t → (∀ b, b < t → b ≠ c → q b = p b) → zcn q t = zcn p t + 1
  | 0, hc, _ => absurd hc (by omega)
  | t + 1, hc, h => by
    unfold zcn
    by_cases ht : t = c
    · subst ht
      rw [zcn_c (p := q) (q := p) (t := t) (fun b hb => h b (by omega) (by omega)), hp, hq]
      simp
    · rw [zcn_up hp hq (t := t) (by omega) (fun b hb hn => h b (by omega) hn), h t (by omega) ht]
      omega
/-- right b goes behind left (g b); every left below K -/
def zmt (t : Nat) (E : Nat → Nat → Prop) (K : Nat) (g : Nat → Option Nat) : Prop := ∀ b, b < t → ∀ a, g b = some a → a < K ∧ E a b ∧ ∀ b2, b2 < t → g b2 = some a → b2 = b
def zms (g : Nat → Option Nat) (t : Nat) : Nat := zcn (fun b => (g b).isSome) t
def zmax (t : Nat) (E : Nat → Nat → Prop) (K p : Nat) : Prop := ∀ g, zmt t E K g → zms g t ≤ p
theorem zmax_fail {t : Nat} {E : Nat → Nat → Prop} {k p : Nat} {B : Nat → Option Nat} {R : Nat → Bool} {L : Nat → Prop} (hB : zmt t E k B) (hM : zmax t E k p) (hk : L k) (hE : ∀ a b, L a → b < t → E a b → R b = true) (hR : ∀ b, b < t → R b = true → ∃ a, B b = some a ∧ L a) : zmax t E (k + 1) p := by
  intro g hg
  have h2 : zmt t E k (fun b => if R b then B b else g b) := by
    intro b hb a ha
    have ha : (if R b = true then B b else g b) = some a := ha
    by_cases hr : R b = true
    · rw [if_pos hr] at ha
      obtain ⟨h1, h2, h3⟩ := hB b hb a ha
      refine ⟨h1, h2, fun b2 hb2 e => ?_⟩
      have e : (if R b2 = true then B b2 else g b2) = some a := e
      by_cases hr2 : R b2 = true
      · rw [if_pos hr2] at e; exact h3 b2 hb2 e
      · rw [if_neg hr2] at e
        obtain ⟨a2, q1, q2⟩ := hR b hb hr
        have : a2 = a := by rw [q1] at ha; exact Option.some.inj ha
        subst this
        exact absurd (hE a2 b2 q2 hb2 (hg b2 hb2 a2 e).2.1) hr2
    · rw [if_neg hr] at ha
      obtain ⟨h1, h2, h3⟩ := hg b hb a ha
      refine ⟨?_, h2, fun b2 hb2 e => ?_⟩
      · by_cases hak : a = k
        · subst hak; exact absurd (hE a b hk hb h2) hr
        · omega
      · have e : (if R b2 = true then B b2 else g b2) = some a := e
        by_cases hr2 : R b2 = true
        · rw [if_pos hr2] at e
          obtain ⟨a2, q1, q2⟩ := hR b2 hb2 hr2
          have : a2 = a := by rw [q1] at e; exact Option.some.inj e
          subst this
          exact absurd (hE a2 b q2 hb h2) hr
        · rw [if_neg hr2] at e; exact h3 b2 hb2 e
  refine Nat.le_trans (zcn_le (fun b hb h => ?_)) (hM _ h2)
  show (if R b = true then B b else g b).isSome = true
  by_cases hr : R b = true
  · rw [if_pos hr]
    obtain ⟨a2, q1, -⟩ := hR b hb hr
    rw [q1]; rfl
  · rw [if_neg hr]; exact h
theorem zmax_more {t : Nat} {E : Nat → Nat → Prop} {k p : Nat} (hM : zmax t E k p) : zmax t E (k + 1) (p + 1) := by
  intro g hg
  by_cases h : ∃ b, b < t ∧ g b = some k
  · obtain ⟨c, hc, e⟩ := h
    have h2 : zmt t E k (fun b => if b = c then none else g b) := by
      intro b hb a ha
      have ha : (if b = c then none else g b) = some a := ha
      by_cases hbc : b = c
      · rw [if_pos hbc] at ha; exact absurd ha (by simp)
      · rw [if_neg hbc] at ha
        obtain ⟨h1, h2, h3⟩ := hg b hb a ha
        refine ⟨?_, h2, fun b2 hb2 e2 => ?_⟩
        · by_cases hak : a = k
          · subst hak; exact absurd (h3 c hc e).symm hbc
          · omega
        · have e2 : (if b2 = c then none else g b2) = some a := e2
          by_cases hbc2 : b2 = c
          · rw [if_pos hbc2] at e2; exact absurd e2 (by simp)
          · rw [if_neg hbc2] at e2; exact h3 b2 hb2 e2
    have h3 : zms g t = zms (fun b => if b = c then none else g b) t + 1 :=
      zcn_up (p := fun b => ((if b = c then none else g b) : Option Nat).isSome) (q := fun b => (g b).isSome) (c := c) (by simp) (by simp [e]) hc (fun b hb hbc => by simp [hbc])
    have := hM _ h2
    omega
  · have h2 : zmt t E k g := by
      intro b hb a ha
      obtain ⟨h1, h2, h3⟩ := hg b hb a ha
      refine ⟨?_, h2, h3⟩
      by_cases hak : a = k
      · subst hak; exact absurd ⟨b, hb, ha⟩ h
      · omega
    have := hM _ h2
    omega
theorem zmax_0 (t : Nat) (E : Nat → Nat → Prop) : zmax t E 0 0 := by
  intro g hg
  have : zms g t ≤ zcn (fun _ => false) t := zcn_le (fun b hb h => by
    match hgb : g b, h with
    | some a, _ => exact absurd (hg b hb a hgb).1 (by omega))
  have h0 : ∀ t, zcn (fun _ => false) t = 0 := fun t => by
    induction t with
    | zero => rfl
    | succ t ih => unfold zcn; rw [ih]; rfl
  rw [h0] at this
  exact this
/-- greedy: rights met so far, and what goes behind what -/
def zgr (t : Nat) (E : Nat → Nat → Prop) (met fol : Nat → Bool) (G : Nat → Option Nat) : Prop :=
  zmt t E t G ∧ (∀ b, b < t → met b = false → G b = none) ∧ (∀ b a, b < t → G b = some a → fol a = true) ∧ (∀ a, a < t → fol a = true → ∃ b, b < t ∧ G b = some a) ∧ (∀ g, zmt t E t g → ∃ g2, zmt t E t g2 ∧ zms g t ≤ zms g2 t ∧ ∀ b, b < t → met b = true → g2 b = G b)
theorem zgr_0 (t : Nat) (E : Nat → Nat → Prop) : zgr t E (fun _ => false) (fun _ => false) (fun _ => none) :=
  ⟨fun b _ a h => absurd h (by simp), fun _ _ _ => rfl, fun _ _ _ h => absurd h (by simp), fun _ _ h => absurd h (by simp), fun g hg => ⟨g, hg, Nat.le_refl _, fun _ _ h => absurd h (by simp)⟩⟩
/-- none is ready for the right that is met -/
theorem zgr_none {t : Nat} {E : Nat → Nat → Prop} {met fol : Nat → Bool} {G : Nat → Option Nat} {c : Nat} (h : zgr t E met fol G) (hc : c < t) (hm : met c = false) (hn : ∀ a, a < t → fol a = false → ¬ E a c) : zgr t E (fun b => met b || decide (b = c)) fol G := by
  obtain ⟨h1, h2, h3, h4, h5⟩ := h
  refine ⟨h1, fun b hb hq => h2 b hb (by simp at hq; exact hq.1), h3, h4, fun g hg => ?_⟩
  obtain ⟨g2, e1, e2, e3⟩ := h5 g hg
  refine ⟨g2, e1, e2, fun b hb hq => ?_⟩
  by_cases hbc : b = c
  · subst hbc
    rw [h2 b hb hm]
    match hgb : g2 b with
    | none => rfl
    | some a =>
      exfalso
      obtain ⟨q1, q2, q3⟩ := e1 b hb a hgb
      have hf : fol a = true := by
        cases hfa : fol a
        · exact absurd q2 (hn a q1 hfa)
        · rfl
      obtain ⟨b2, hb2, hG⟩ := h4 a q1 hf
      have hm2 : met b2 = true := by
        cases hmb : met b2
        · rw [h2 b2 hb2 hmb] at hG; exact absurd hG (by simp)
        · rfl
      have : b2 = b := q3 b2 hb2 (by rw [e3 b2 hb2 hm2]; exact hG)
      subst this
      rw [hm] at hm2
      exact absurd hm2 (by simp)
  · exact e3 b hb (by revert hq; simp [hbc])
theorem zgr_some {t : Nat} {E : Nat → Nat → Prop} {met fol : Nat → Bool} {G : Nat → Option Nat} {c d : Nat} (h : zgr t E met fol G) (hc : c < t) (hm : met c = false) (hd : d < t) (hf : fol d = false) (he : E d c) (hX : ∀ a b, a < t → b < t → met b = false → E a c → E d b → E a b) : zgr t E (fun b => met b || decide (b = c)) (fun a => fol a || decide (a = d)) (fun b => if b = c then some d else G b) := by
  obtain ⟨h1, h2, h3, h4, h5⟩ := h
  have hGd : ∀ b, b < t → ¬ G b = some d := fun b hb z => by rw [h3 b d hb z] at hf; exact absurd hf (by simp)
  refine ⟨?_, ?_, ?_, ?_, ?_⟩
  · intro b hb a ha
    have ha : (if b = c then some d else G b) = some a := ha
    by_cases hbc : b = c
    · rw [if_pos hbc] at ha
      have := Option.some.inj ha
      subst this
      refine ⟨hd, by rw [hbc]; exact he, fun b2 hb2 e => ?_⟩
      have e : (if b2 = c then some d else G b2) = some d := e
      by_cases hb2c : b2 = c
      · rw [hb2c, hbc]
      · rw [if_neg hb2c] at e; exact absurd e (hGd b2 hb2)
    · rw [if_neg hbc] at ha
      obtain ⟨q1, q2, q3⟩ := h1 b hb a ha
      refine ⟨q1, q2, fun b2 hb2 e => ?_⟩
      have e : (if b2 = c then some d else G b2) = some a := e
      by_cases hb2c : b2 = c
      · rw [if_pos hb2c] at e
        have := Option.some.inj e
        subst this
        exact absurd ha (hGd b hb)
      · rw [if_neg hb2c] at e; exact q3 b2 hb2 e
  · intro b hb hq
    have hbc : b ≠ c := fun z => by subst z; simp at hq
    show (if b = c then some d else G b) = none
    rw [if_neg hbc]
    exact h2 b hb (by revert hq; simp [hbc])
  · intro b a hb e
    have e : (if b = c then some d else G b) = some a := e
    by_cases hbc : b = c
    · rw [if_pos hbc] at e
      have := Option.some.inj e
      subst this
      simp
    · rw [if_neg hbc] at e
      simp [h3 b a hb e]
  · intro a ha hq
    by_cases had : a = d
    · exact ⟨c, hc, by subst had; exact if_pos rfl⟩
    · obtain ⟨b, hb, e⟩ := h4 a ha (by revert hq; simp [had])
      have hbc : b ≠ c := fun z => by subst z; rw [h2 b hb hm] at e; exact absurd e (by simp)
      exact ⟨b, hb, by show (if b = c then some d else G b) = _; rw [if_neg hbc]; exact e⟩
  · intro g hg
    obtain ⟨g2, e1, e2, e3⟩ := h5 g hg
    have hmd : ∀ b, b < t → g2 b = some d → met b = false := fun b hb z => by
      cases hmb : met b
      · rfl
      · rw [e3 b hb hmb] at z; exact absurd z (hGd b hb)
    by_cases hx : ∃ b', b' < t ∧ b' ≠ c ∧ g2 b' = some d
    · obtain ⟨b', hb', hbc', eb'⟩ := hx
      have hm' := hmd b' hb' eb'
      have edb' := (e1 b' hb' d eb').2.1
      have hcd : ¬ g2 c = some d := fun z => hbc' ((e1 c hc d z).2.2 b' hb' eb')
      refine ⟨fun b => if b = c then some d else if b = b' then g2 c else g2 b, ?_, ?_, ?_⟩
      · intro b hb a ha
        have ha : (if b = c then some d else if b = b' then g2 c else g2 b) = some a := ha
        have un : ∀ b2, b2 < t → (if b2 = c then some d else if b2 = b' then g2 c else g2 b2) = some a → (b2 = c ∧ a = d) ∨ (b2 = b' ∧ g2 c = some a) ∨ (b2 ≠ c ∧ b2 ≠ b' ∧ g2 b2 = some a) := by
          intro b2 hb2 z
          by_cases k1 : b2 = c
          · rw [if_pos k1] at z; exact Or.inl ⟨k1, (Option.some.inj z).symm⟩
          · rw [if_neg k1] at z
            by_cases k2 : b2 = b'
            · rw [if_pos k2] at z; exact Or.inr (Or.inl ⟨k2, z⟩)
            · rw [if_neg k2] at z; exact Or.inr (Or.inr ⟨k1, k2, z⟩)
        rcases un b hb ha with ⟨k1, k2⟩ | ⟨k1, k2⟩ | ⟨k1, k2, k3⟩
        · subst k1; subst k2
          refine ⟨hd, he, fun b2 hb2 z => ?_⟩
          rcases un b2 hb2 z with ⟨j1, -⟩ | ⟨j1, j2⟩ | ⟨j1, j2, j3⟩
          · exact j1
          · exact absurd j2 hcd
          · exact absurd ((e1 b' hb' _ eb').2.2 b2 hb2 j3) j2
        · subst k1
          obtain ⟨q1, q2, q3⟩ := e1 c hc a k2
          refine ⟨q1, hX a b q1 hb hm' q2 edb', fun b2 hb2 z => ?_⟩
          rcases un b2 hb2 z with ⟨j1, j2⟩ | ⟨j1, j2⟩ | ⟨j1, j2, j3⟩
          · subst j2; exact absurd k2 hcd
          · exact j1
          · exact absurd (q3 b2 hb2 j3) j1
        · obtain ⟨q1, q2, q3⟩ := e1 b hb a k3
          refine ⟨q1, q2, fun b2 hb2 z => ?_⟩
          rcases un b2 hb2 z with ⟨j1, j2⟩ | ⟨j1, j2⟩ | ⟨j1, j2, j3⟩
          · subst j2; exact absurd ((e1 b' hb' _ eb').2.2 b hb k3) k2
          · exact absurd (q3 c hc j2).symm k1
          · exact q3 b2 hb2 j3
      · refine Nat.le_trans e2 ?_
        match hgc : g2 c with
        | some a =>
          refine zcn_le (fun b hb hs => ?_)
          show (if b = c then some d else if b = b' then some a else g2 b).isSome = true
          by_cases k1 : b = c
          · rw [if_pos k1]; rfl
          · rw [if_neg k1]
            by_cases k2 : b = b'
            · rw [if_pos k2]; rfl
            · rw [if_neg k2]; exact hs
        | none =>
          have f1 : zms g2 t = zms (fun b => if b = b' then none else g2 b) t + 1 := zcn_up (p := fun b => ((if b = b' then none else g2 b) : Option Nat).isSome) (q := fun b => (g2 b).isSome) (c := b') (by simp) (by simp [eb']) hb' (fun b hb k => by simp [k])
          have f2 : zms (fun b => if b = c then some d else if b = b' then none else g2 b) t = zms (fun b => if b = b' then none else g2 b) t + 1 := zcn_up (p := fun b => ((if b = b' then none else g2 b) : Option Nat).isSome) (q := fun b => ((if b = c then some d else if b = b' then none else g2 b) : Option Nat).isSome) (c := c) (by simp [hgc]) (by simp) hc (fun b hb k => by simp [k])
          omega
      · intro b hb hq
        show (if b = c then some d else if b = b' then g2 c else g2 b) = if b = c then some d else G b
        by_cases k1 : b = c
        · rw [if_pos k1, if_pos k1]
        · rw [if_neg k1, if_neg k1]
          have hmb : met b = true := by revert hq; simp [k1]
          by_cases k2 : b = b'
          · subst k2; rw [hm'] at hmb; exact absurd hmb (by simp)
          · rw [if_neg k2]; exact e3 b hb hmb
    · refine ⟨fun b => if b = c then some d else g2 b, ?_, ?_, ?_⟩
      · intro b hb a ha
        have ha : (if b = c then some d else g2 b) = some a := ha
        by_cases k1 : b = c
        · rw [if_pos k1] at ha
          have := Option.some.inj ha
          subst this
          refine ⟨hd, by rw [k1]; exact he, fun b2 hb2 z => ?_⟩
          have z : (if b2 = c then some d else g2 b2) = some d := z
          by_cases k2 : b2 = c
          · rw [k2, k1]
          · rw [if_neg k2] at z; exact absurd ⟨b2, hb2, k2, z⟩ hx
        · rw [if_neg k1] at ha
          obtain ⟨q1, q2, q3⟩ := e1 b hb a ha
          refine ⟨q1, q2, fun b2 hb2 z => ?_⟩
          have z : (if b2 = c then some d else g2 b2) = some a := z
          by_cases k2 : b2 = c
          · rw [if_pos k2] at z
            have := Option.some.inj z
            subst this
            exact absurd ⟨b, hb, k1, ha⟩ hx
          · rw [if_neg k2] at z; exact q3 b2 hb2 z
      · refine Nat.le_trans e2 (zcn_le (fun b hb hs => ?_))
        show (if b = c then some d else g2 b).isSome = true
        by_cases k1 : b = c
        · rw [if_pos k1]; rfl
        · rw [if_neg k1]; exact hs
      · intro b hb hq
        show (if b = c then some d else g2 b) = if b = c then some d else G b
        by_cases k1 : b = c
        · rw [if_pos k1, if_pos k1]
        · rw [if_neg k1, if_neg k1]
          exact e3 b hb (by revert hq; simp [k1])
/-- all are met: no more can come behind another -/
theorem zgr_end {t : Nat} {E : Nat → Nat → Prop} {met fol : Nat → Bool} {G : Nat → Option Nat} (h : zgr t E met fol G) (hm : ∀ b, b < t → met b = true) : zmt t E t G ∧ zmax t E t (zms G t) := by
  refine ⟨h.1, fun g hg => ?_⟩
  obtain ⟨g2, e1, e2, e3⟩ := h.2.2.2.2 g hg
  have : zms g2 t = zms G t := zcn_c (fun b hb => by rw [e3 b hb (hm b hb)])
  omega

theorem zearl_spec {met beg : Nat → Int32} {t : Nat} (ht : t ≤ 24) : ∀ m, m ≤ t → (zearl met beg t m = -1 ∧ ∀ b, b < m → ¬ met b = 0) ∨ ∃ c, c < m ∧ zearl met beg t m = nI c ∧ met c = 0 ∧ ∀ b, b < m → met b = 0 → (beg c).toInt ≤ (beg b).toInt
  | 0, _ => Or.inl ⟨rfl, fun b hb => absurd hb (by omega)⟩
  | m + 1, hm => by
    have ih := zearl_spec ht (met := met) (beg := beg) m (by omega)
    rw [zearl_s]
    rcases ih with ⟨e, h⟩ | ⟨c, hc, e, h0, h⟩
    · rw [e]
      by_cases hmm : met m = 0
      · rw [if_pos ⟨hmm, Or.inl (fun z => absurd z.1 (by decide))⟩]
        refine Or.inr ⟨m, by omega, rfl, hmm, fun b hb hb0 => ?_⟩
        by_cases hbm : b = m
        · subst hbm; exact Int.le_refl _
        · exact absurd hb0 (h b (by omega))
      · rw [if_neg (fun z => hmm z.1)]
        refine Or.inl ⟨rfl, fun b hb => ?_⟩
        by_cases hbm : b = m
        · subst hbm; exact hmm
        · exact h b (by omega)
    · rw [e, nI_clamp (by omega), nI_toInt (by omega)]
      by_cases hmm : met m = 0 ∧ (beg m).toInt < (beg c).toInt
      · rw [if_pos ⟨hmm.1, Or.inr hmm.2⟩]
        refine Or.inr ⟨m, by omega, rfl, hmm.1, fun b hb hb0 => ?_⟩
        by_cases hbm : b = m
        · subst hbm; exact Int.le_refl _
        · have := h b (by omega) hb0; omega
      · rw [if_neg (fun z => by
          rcases z.2 with z2 | z2
          · exact z2 ⟨by omega, by omega⟩
          · exact hmm ⟨z.1, z2⟩)]
        refine Or.inr ⟨c, by omega, rfl, h0, fun b hb hb0 => ?_⟩
        by_cases hbm : b = m
        · subst hbm
          have : ¬ (beg b).toInt < (beg c).toInt := fun z => hmm ⟨hb0, z⟩
          omega
        · exact h b (by omega) hb0
theorem zfst_spec {p : Nat → Bool} : ∀ (k i : Nat), (zfst p i k = -1 ∧ ∀ j, i ≤ j → j < i + k → p j = false) ∨ ∃ c, i ≤ c ∧ c < i + k ∧ zfst p i k = nI c ∧ p c = true
  | 0, i => Or.inl ⟨rfl, fun j a b => absurd b (by omega)⟩
  | k + 1, i => by
    unfold zfst
    by_cases hp : p i = true
    · rw [if_pos hp]
      exact Or.inr ⟨i, by omega, by omega, rfl, hp⟩
    · rw [if_neg hp]
      rcases zfst_spec (p := p) k (i + 1) with ⟨e, h⟩ | ⟨c, h1, h2, e, h⟩
      · refine Or.inl ⟨e, fun j a b => ?_⟩
        by_cases hj : j = i
        · subst hj; simpa using hp
        · exact h j (by omega) (by omega)
      · exact Or.inr ⟨c, by omega, by omega, e, h⟩
def zEdg (iv : zI) (rest : Int32) : Nat → Nat → Prop := fun a b => zend iv a = zbeg iv b ∧ (zrdy iv a rest).toInt ≤ (iv 31 b).toInt
theorem zclr_33 (iv : zI) : ∀ (m b : Nat), b < m → zclr iv m 33 b = 0 ∧ zclr iv m 34 b = 0
  | 0, b, h => absurd h (by omega)
  | m + 1, b, h => by
    unfold zclr
    rw [zu_n _ _ _ (show 33 ≠ 34 by decide), zu_s, zu_s, zu_n _ _ _ (show 34 ≠ 33 by decide)]
    by_cases hb : b = m
    · subst hb; exact ⟨pk_us, pk_us⟩
    · rw [pk_un hb, pk_un hb]; exact zclr_33 iv m b (by omega)
theorem zcn_lt {p : Nat → Bool} : ∀ {t : Nat}, zcn p t < t → ∃ b, b < t ∧ p b = false
  | 0, h => absurd h (by omega)
  | t + 1, h => by
    unfold zcn at h
    cases hp : p t
    · exact ⟨t, by omega, hp⟩
    · rw [hp] at h
      obtain ⟨b, hb, e⟩ := zcn_lt (p := p) (t := t) (by simp at h; omega)
      exact ⟨b, by omega, e⟩
theorem zcn_t {p : Nat → Bool} : ∀ {t : Nat}, zcn p t = t → ∀ b, b < t → p b = true
  | 0, _, b, hb => absurd hb (by omega)
  | t + 1, h, b, hb => by
    unfold zcn at h
    have := zcn_all p t
    cases hp : p t
    · rw [hp] at h; simp at h; omega
    · rw [hp] at h
      by_cases hbt : b = t
      · subst hbt; exact hp
      · exact zcn_t (t := t) (by simp at h; omega) b (by omega)
/-- the class's greedy, as far as j trips -/
theorem zneed_inv {iv : zI} {rest : Int32} {t : Nat} (ht : iv 29 0 = nI t) (ht2 : t ≤ 24) (hr : 0 ≤ rest.toInt ∧ rest.toInt ≤ 10000) : ∀ j, j ≤ t → ∃ G : Nat → Option Nat, zgr t (zEdg iv rest) (fun b => !decide (znv (zclr iv t) t rest j 33 b = 0)) (fun a => !decide (znv (zclr iv t) t rest j 34 a = 0)) G ∧ zcn (fun b => !decide (znv (zclr iv t) t rest j 33 b = 0)) t = j ∧ zms G t ≤ j ∧ znn (zclr iv t) t rest j = nI (j - zms G t)
  | 0, _ => by
    have h3 : ∀ b, b < t → (!decide (znv (zclr iv t) t rest 0 33 b = 0)) = false := fun b hb => by
      have : znv (zclr iv t) t rest 0 33 b = 0 := (zclr_33 iv t b hb).1
      simp [this]
    have h4 : ∀ b, b < t → (!decide (znv (zclr iv t) t rest 0 34 b = 0)) = false := fun b hb => by
      have : znv (zclr iv t) t rest 0 34 b = 0 := (zclr_33 iv t b hb).2
      simp [this]
    obtain ⟨g1, g2, g3, g4, g5⟩ := zgr_0 t (zEdg iv rest)
    have z0 : ∀ t, zcn (fun _ => false) t = 0 := fun t => by
      induction t with
      | zero => rfl
      | succ t ih => unfold zcn; rw [ih]; rfl
    have m0 : zms (fun _ => none) t = 0 := z0 t
    refine ⟨fun _ => none, ⟨g1, fun _ _ _ => rfl, fun _ _ _ h => absurd h (by simp), fun a ha h => absurd ((h4 a ha).symm.trans h) (by decide), fun g hg => ⟨g, hg, Nat.le_refl _, fun b hb h => absurd ((h3 b hb).symm.trans h) (by decide)⟩⟩, ?_, by rw [m0]; exact Nat.le_refl _, by rw [m0]; rfl⟩
    rw [zcn_c (q := fun _ => false) h3, z0]
  | j + 1, hj => by
    obtain ⟨G, hG, hcn, hle, hnn⟩ := zneed_inv ht ht2 hr j (by omega)
    have o := fun {c : Nat} (h6 : c ≠ 33) (h8 : c ≠ 34) => (znv_o (zclr iv t) t rest h6 h8 j).trans (zclr_o iv h6 h8 t)
    show ∃ G : Nat → Option Nat, zgr t (zEdg iv rest) (fun b => !decide (zns (znv (zclr iv t) t rest j) t rest 33 b = 0)) (fun a => !decide (zns (znv (zclr iv t) t rest j) t rest 34 a = 0)) G ∧ zcn (fun b => !decide (zns (znv (zclr iv t) t rest j) t rest 33 b = 0)) t = j + 1 ∧ zms G t ≤ j + 1 ∧ (if znh (znv (zclr iv t) t rest j) t rest then znn (zclr iv t) t rest j else znn (zclr iv t) t rest j + 1) = nI (j + 1 - zms G t)
    generalize hv : znv (zclr iv t) t rest j = v at *
    rcases zearl_spec (met := v 33) (beg := v 31) ht2 t (Nat.le_refl _) with ⟨-, h⟩ | ⟨c, hc, ec, h0, hmin⟩
    · exfalso
      obtain ⟨b, hb, e⟩ := zcn_lt (p := fun b => !decide (v 33 b = 0)) (t := t) (by omega)
      have : v 33 b = 0 := by simpa using e
      exact h b hb this
    · have em : zmeet v t = zu v 33 c 1 := by
        unfold zmeet
        rw [ec, nI_toInt (by omega), nI_clamp (by omega), if_pos ⟨by omega, by omega⟩]
      have hmc : (!decide (v 33 c = 0)) = false := by simp [h0]
      have e31 : v 31 = iv 31 := o (by decide) (by decide)
      have efol : ∀ a, a < t → (zfol (zmeet v t) (nI a) (nI c) rest ↔ zEdg iv rest a c) := by
        intro a ha
        have q : ∀ {k : Nat}, k ≠ 33 → k ≠ 34 → zmeet v t k = iv k := fun h1 h2 => by rw [em, zu_n _ _ _ h1]; exact o h1 h2
        unfold zfol zEdg zend zbeg zrdy
        rw [q (k := 29) (by decide) (by decide), q (k := 30) (by decide) (by decide), q (k := 31) (by decide) (by decide), q (k := 32) (by decide) (by decide), q (k := 2) (by decide) (by decide), q (k := 3) (by decide) (by decide), nI_clamp (by omega), nI_clamp (by omega), nI_toInt (by omega), nI_toInt (by omega), zt_nI ht (by omega)]
        exact ⟨fun z => ⟨z.2.2.2.1, z.2.2.2.2⟩, fun z => ⟨⟨by omega, by omega⟩, ⟨by omega, by omega⟩, hr, z.1, z.2⟩⟩
      have e34 : zmeet v t 34 = v 34 := by rw [em, zu_n _ _ _ (by decide)]
      have emet : (fun b => !decide (zmeet v t 33 b = 0)) = fun b => (!decide (v 33 b = 0)) || decide (b = c) := by
        funext b
        rw [em, zu_s]
        by_cases hbc : b = c
        · subst hbc; rw [pk_us]; simp
        · rw [pk_un hbc]; simp [hbc]
      have hcn2 : zcn (fun b => (!decide (v 33 b = 0)) || decide (b = c)) t = j + 1 := by
        rw [zcn_up (p := fun b => !decide (v 33 b = 0)) (c := c) hmc (by simp) hc (fun b hb hbc => by simp [hbc]), hcn]
      rcases zfst_spec (p := zrf (zmeet v t) (nI c) rest) t 0 with ⟨e, h⟩ | ⟨d, -, hd, e, h⟩
      · have hb : znb v t rest = -1 := by unfold znb; rw [ec]; exact e
        have hnh : ¬ znh v t rest := fun z => by unfold znh at z; rw [hb] at z; exact absurd z.1 (by decide)
        have es : zns v t rest = zmeet v t := by unfold zns; rw [if_neg hnh]
        rw [es, if_neg hnh, emet, e34]
        refine ⟨G, zgr_none hG hc hmc (fun a ha hf => ?_), hcn2, by omega, ?_⟩
        · have := h a (by omega) (by omega)
          unfold zrf at this
          intro z
          rw [decide_eq_false_iff_not] at this
          exact this ⟨by rw [e34]; simpa using hf, (efol a ha).mpr z⟩
        · rw [hnn, nI_1]
          congr 1
          omega
      · have hd : d < t := by omega
        have hb : znb v t rest = nI d := by unfold znb; rw [ec]; exact e
        have hnh : znh v t rest := by unfold znh; rw [hb, nI_toInt (by omega)]; omega
        have es : zns v t rest = zu (zmeet v t) 34 d 1 := by unfold zns; rw [if_pos hnh, hb, nI_clamp (by omega)]
        unfold zrf at h
        rw [decide_eq_true_iff, e34] at h
        have hfd : (!decide (v 34 d = 0)) = false := by simp [h.1]
        have hE := (efol d hd).mp h.2
        rw [es, if_pos hnh, zu_n _ _ _ (show 33 ≠ 34 by decide), emet, zu_s, e34]
        have efo : (fun a => !decide (upd (v 34) d 1 a = 0)) = fun a => (!decide (v 34 a = 0)) || decide (a = d) := by
          funext a
          by_cases had : a = d
          · subst had; rw [pk_us]; simp
          · rw [pk_un had]; simp [had]
        rw [efo]
        have hGc : G c = none := hG.2.1 c hc hmc
        have hms : zms (fun b => if b = c then some d else G b) t = zms G t + 1 := zcn_up (p := fun b => (G b).isSome) (q := fun b => ((if b = c then some d else G b) : Option Nat).isSome) (c := c) (by simp [hGc]) (by simp) hc (fun b hb hbc => by simp [hbc])
        refine ⟨fun b => if b = c then some d else G b, zgr_some hG hc hmc hd hfd hE (fun a b ha hb hmb z1 z2 => ?_), hcn2, by omega, ?_⟩
        · have hmb : v 33 b = 0 := by simpa using hmb
          have := hmin b hb hmb
          rw [e31] at this
          exact ⟨z1.1.trans (hE.1.symm.trans z2.1), by have := z1.2; omega⟩
        · rw [hnn, hms]
          congr 1
          omega
/-- the class's fewest: as many as the trips, less the most that come behind another -/
theorem zneed_max {iv : zI} {rest : Int32} {t : Nat} (ht : iv 29 0 = nI t) (ht2 : t ≤ 24) (hr : 0 ≤ rest.toInt ∧ rest.toInt ≤ 10000) : ∃ G, zmt t (zEdg iv rest) t G ∧ zmax t (zEdg iv rest) t (zms G t) ∧ znn (zclr iv t) t rest t = nI (t - zms G t) := by
  obtain ⟨G, hG, hcn, hle, hnn⟩ := zneed_inv ht ht2 hr t (Nat.le_refl _)
  obtain ⟨e1, e2⟩ := zgr_end hG (zcn_t hcn)
  exact ⟨G, e1, e2, hnn⟩
