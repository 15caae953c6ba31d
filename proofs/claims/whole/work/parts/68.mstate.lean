/-! the reference's reader: how it stands at a token -/
theorem zBU.ps {B R : Nat → Int32} (h : zBU B R) {s : Nat} (hs : s ≤ 800) : ∀ i, zps (zU R s) s i = zps (zT B s) s i
  | 0 => rfl
  | i + 1 => by
    rw [zps, zps, h.te hs, h.bl hs, zBU.ps h hs i]
theorem zBU.pl {B R : Nat → Int32} (h : zBU B R) {s : Nat} (hs : s ≤ 800) (i : Nat) : zpl (zU R s) s i = zpl (zT B s) s i := by
  unfold zpl
  rw [h.bl hs, h.ps hs]
theorem zBU.u8 {B R : Nat → Int32} (h : zBU B R) {j : Nat} (hj : j < 800) : 0 ≤ (R j).toInt := by
  obtain ⟨h1, h2⟩ := h j hj
  have h3 := zand255 (B j) h1.1 h1.2
  rw [← h2] at h3
  split at h3 <;> omega
/-- token i has been taken -/
def zMt (B : Nat → Int32) (s i : Nat) (iv : zI) (lw : zG) : Prop := iv 41 45 = nI (zpl (zT B s) s i) ∧ zSm (zkn (zT B s) s i) (iv 41 44) (iv 41 46) (lw 41 47) ∧ (¬ zkn (zT B s) s i = 2 → iv 41 42 = nI (zps (zT B s) s (i + 1)))
theorem zM.weak {y : MethodName} {cc : ByteArray} {nL : Nat} {ret : Option FieldType} {lvl MC MS : Nat} {as : List Value} {N : Nat} {kd : zD} {iv : zI} {rf : zF} {lw : zG} {Qp Qp2 : zP} (h : zM y cc nL ret lvl MC MS as N kd iv rf lw Qp) (k : ∀ v N kd iv rf lw, Qp v N kd iv rf lw → Qp2 v N kd iv rf lw) : zM y cc nL ret lvl MC MS as N kd iv rf lw Qp2 := by
  intro l D cA ad sz p e h1 h2 h3 s m args below h4 h5 h6 h7
  obtain ⟨n, o, a, b, c, ⟨⟨⟨v, N', kd', iv', rf', lw', ad', ho, g1, g2, g3, g4, g5, hQ, hP, hD⟩, hF⟩, hL⟩⟩ := h l D cA ad sz p e h1 h2 h3 s m args below h4 h5 h6 h7
  exact ⟨n, o, a, b, c, ⟨⟨⟨v, N', kd', iv', rf', lw', ad', ho, g1, g2, g3, g4, g5, k _ _ _ _ _ _ hQ, hP, hD⟩, hF⟩, hL⟩⟩
def zMx (B : Nat → Int32) (s i : Nat) (iv iv2 : zI) (lw2 : zG) : Prop := (∀ c, c ≠ 41 → iv2 c = iv c) ∧ (∀ j, j ≠ 42 → j ≠ 44 → j ≠ 45 → j ≠ 46 → iv2 41 j = iv 41 j) ∧ zMt B s i iv2 lw2
theorem m_nxt (n : Nat) (iv : zI) (lw : zG) (B : Nat → Int32) (s i : Nat) (hs : iv 41 43 = nI s) (hs8 : s ≤ 800) (hB : zBU B (iv 72)) (ha : iv 41 42 = nI (zps (zT B s) s i)) : zMs yX10_next cX10_next 3 none 2 [.ref 41] n iv lw (fun v iv2 lw2 => v = none ∧ zMx B s i iv iv2 lw2) := by
  have h := m_next n iv lw s hs hs8 (fun j hj => hB.u8 (by omega)) _ (zps_le (zT B s) s i) ha
  refine zM.weak h (fun v N kd iv2 rf lw2 hq => ?_)
  obtain ⟨e1, e2, e3, hv, h1, h2, h3, h4, h5, h6, h7⟩ := hq
  refine ⟨e1, e2, e3, hv, h1, h2, ?_⟩
  have eq : zrn (zbl (zU (iv 72) s)) (zps (zT B s) s i) (s - zps (zT B s) s i) = zpl (zT B s) s i := by
    rw [hB.bl hs8]
    rfl
  rw [eq] at h3 h4 h5 h6 h7
  have hsm := ztok_sm hB hs8 (zpl_in (zT B s) s i).2 h6 h7
  rw [← h4] at hsm
  refine ⟨h3, hsm, fun z => ?_⟩
  rw [zps_s, ← hB.te hs8]
  exact h5 (fun q => z (hsm.s3.mp (h4.trans q)))
/-- what stays while an e is read -/
def zfe (b : Nat) (u v : zI) : Prop := (∀ q, q ≠ 41 → q ≠ 68 → q ≠ 69 → q ≠ 73 → u q = v q) ∧ (∀ j, j ≠ 36 → j ≠ 37 → j ≠ 40 → j ≠ 41 → j ≠ 42 → j ≠ 44 → j ≠ 45 → j ≠ 46 → j ≠ 49 → j ≠ 50 → u 41 j = v 41 j) ∧ ∀ j, j < b → u 68 j = v 68 j ∧ u 69 j = v 69 j
theorem zfe.rf (b : Nat) (u : zI) : zfe b u u := ⟨fun _ _ _ _ _ => rfl, fun _ _ _ _ _ _ _ _ _ _ _ => rfl, fun _ _ => ⟨rfl, rfl⟩⟩
theorem zfe.fs {b : Nat} {u v w : zI} (h : zfs b u v) (h2 : zfe b v w) : zfe b u w := ⟨fun q a1 a2 a3 a4 => (h.1 q a1 a2 a3 a4).trans (h2.1 q a1 a2 a3 a4), fun j a1 a2 a3 a4 a5 a6 a7 a8 a9 a10 => (h.2.1 j a1 a9 a10).trans (h2.2.1 j a1 a2 a3 a4 a5 a6 a7 a8 a9 a10), fun j hj => ⟨(h.2.2 j hj).1.trans (h2.2.2 j hj).1, (h.2.2 j hj).2.trans (h2.2.2 j hj).2⟩⟩
def zMq (iv0 : zI) (b : Nat) (W : List Nat) (P : List Int32) (v : Nat) (iv : zI) : Prop := zfe b iv iv0 ∧ iv 41 40 = 0 ∧ iv 41 41 = -1 ∧ iv 41 37 = nI v ∧ zMp iv b W P
/-- it has found a fault -/
def zMf (iv0 : zI) (b : Nat) (pl : Nat → Nat) (f : zFa) (iv : zI) : Prop := zfe b iv iv0 ∧ iv 41 40 = f.1 ∧ iv 41 41 = nI (pl f.2) ∧ 0 < f.1.toInt
section ZQ
variable {iv0 iv iv2 : zI} {b v : Nat} {W : List Nat} {P : List Int32} {B : Nat → Int32} {s i : Nat} {lw lw2 : zG}
theorem zMq.nx (h : zMq iv0 b W P v iv) (hx : zMx B s i iv iv2 lw2) : zMq iv0 b W P v iv2 := by
  obtain ⟨h1, h2, h3, h4, h5, h6, h7, h8, h9⟩ := h
  obtain ⟨x1, x2, x3⟩ := hx
  have e : ∀ j, j ≠ 42 → j ≠ 44 → j ≠ 45 → j ≠ 46 → iv2 41 j = iv 41 j := x2
  refine ⟨⟨fun q a1 a2 a3 a4 => (x1 q a1).trans (h1.1 q a1 a2 a3 a4), fun j a1 a2 a3 a4 a5 a6 a7 a8 a9 a10 => (x2 j a5 a6 a7 a8).trans (h1.2.1 j a1 a2 a3 a4 a5 a6 a7 a8 a9 a10), fun j hj => by rw [x1 68 (by decide), x1 69 (by decide)]; exact h1.2.2 j hj⟩, (e 40 (by decide) (by decide) (by decide) (by decide)).trans h2, (e 41 (by decide) (by decide) (by decide) (by decide)).trans h3, (e 37 (by decide) (by decide) (by decide) (by decide)).trans h4, (e 49 (by decide) (by decide) (by decide) (by decide)).trans h5, (e 50 (by decide) (by decide) (by decide) (by decide)).trans h6, fun j hj => ?_, (e 36 (by decide) (by decide) (by decide) (by decide)).trans h8, fun j hj => ?_⟩
  · rw [x1 73 (by decide)]; exact h7 j hj
  · rw [x1 68 (by decide), x1 69 (by decide)]; exact h9 j hj
/-- what stays all along -/
def zSt (iv0 : zI) (B : Nat → Int32) (s : Nat) : Prop := iv0 41 43 = nI s ∧ s ≤ 800 ∧ zBU B (iv0 72)
theorem zMq.s43 (h : zMq iv0 b W P v iv) (hS : zSt iv0 B s) : iv 41 43 = nI s := (h.1.2.1 43 (by decide) (by decide) (by decide) (by decide) (by decide) (by decide) (by decide) (by decide) (by decide) (by decide)).trans hS.1
theorem zMq.s72 (h : zMq iv0 b W P v iv) (hS : zSt iv0 B s) : zBU B (iv 72) := by rw [h.1.1 72 (by decide) (by decide) (by decide) (by decide)]; exact hS.2.2
theorem m_nx (n : Nat) (iv : zI) (lw : zG) (hS : zSt iv0 B s) (hQ : zMq iv0 b W P v iv) (ha : iv 41 42 = nI (zps (zT B s) s i)) : zMs yX10_next cX10_next 3 none 2 [.ref 41] n iv lw (fun vr iv2 lw2 => vr = none ∧ zMq iv0 b W P v iv2 ∧ zMt B s i iv2 lw2) := by
  refine zM.weak (m_nxt n iv lw B s i (hQ.s43 hS) hS.2.1 (hQ.s72 hS) ha) (fun vr N kd iv2 rf lw2 hq => ?_)
  obtain ⟨e1, e2, e3, hv, hx⟩ := hq
  exact ⟨e1, e2, e3, hv, hQ.nx hx, hx.2.2⟩
/-- a fault is told -/
theorem zMq.wr (h : zMq iv0 b W P v iv) (hT : zMt B s i iv lw) {wh : Int32} (hw : 0 < wh.toInt) : zMf iv0 b (zpl (zT B s) s) (if zkn (zT B s) s i = 2 then 1 else wh, i) (zu (zu iv 41 40 (if iv 41 44 = 3 then 1 else wh)) 41 41 (iv 41 45)) := by
  obtain ⟨h1, h2, h3, h4, h5⟩ := h
  refine ⟨⟨fun q a1 a2 a3 a4 => by rw [zu_n _ _ _ a1, zu_n _ _ _ a1]; exact h1.1 q a1 a2 a3 a4, fun j a1 a2 a3 a4 a5 a6 a7 a8 a9 a10 => by rw [zu_s, pk_un a4, zu_s, pk_un a3]; exact h1.2.1 j a1 a2 a3 a4 a5 a6 a7 a8 a9 a10, h1.2.2⟩, ?_, ?_, ?_⟩
  · rw [zu_s, pk_un (by decide), zu_ss]
    show (if iv 41 44 = 3 then (1 : Int32) else wh) = if zkn (zT B s) s i = 2 then 1 else wh
    by_cases c : zkn (zT B s) s i = 2
    · rw [if_pos c, if_pos (hT.2.1.s3.mpr c)]
    · rw [if_neg c, if_neg (fun z => c (hT.2.1.s3.mp z))]
  · rw [zu_ss]; exact hT.1
  · show 0 < (if zkn (zT B s) s i = 2 then (1 : Int32) else wh).toInt
    split
    · decide
    · exact hw
/-- settled: what waits and what is written anew -/
theorem zMq.st {W2 : List Nat} {P2 : List Int32} (h : zMq iv0 b W P v iv) (hf : zfs b iv2 iv) (hM : zMp iv2 b W2 P2) : zMq iv0 b W2 P2 v iv2 := by
  obtain ⟨h1, h2, h3, h4, h5⟩ := h
  exact ⟨zfe.fs hf h1, (hf.2.1 40 (by decide) (by decide) (by decide)).trans h2, (hf.2.1 41 (by decide) (by decide) (by decide)).trans h3, (hf.2.1 37 (by decide) (by decide) (by decide)).trans h4, hM⟩
theorem zMt.st (h : zMt B s i iv lw) (hf : zfs b iv2 iv) : zMt B s i iv2 lw := by
  have e : ∀ j, j ≠ 36 → j ≠ 49 → j ≠ 50 → iv2 41 j = iv 41 j := hf.2.1
  obtain ⟨h1, h2, h3⟩ := h
  refine ⟨(e 45 (by decide) (by decide) (by decide)).trans h1, ?_, fun z => (e 42 (by decide) (by decide) (by decide)).trans (h3 z)⟩
  rw [e 44 (by decide) (by decide) (by decide), e 46 (by decide) (by decide) (by decide)]
  exact h2
/-- held -/
theorem zMp.hold (h : zMp iv b W P) (w : Nat) (hw : w < 2 ^ 31) : zMp (if nI w = 48 ∨ nI w = 40 then zu (zu (zu iv 73 W.length (nI w)) 41 49 (nI (W.length + 1))) 41 50 (iv 41 50 + 1) else zu (zu iv 73 W.length (nI w)) 41 49 (nI (W.length + 1))) b (w :: W) P := by
  obtain ⟨h1, h2, h3, h4, h5⟩ := h
  have hw' : ∀ c : Nat, c < 2 ^ 31 → (nI w = nI c ↔ w = c) := fun c hc => ⟨fun z => nI_inj4 hw hc z, fun z => by rw [z]⟩
  have hc : (nI w = 48 ∨ nI w = 40) ↔ (w = 48 ∨ w = 40) := or_congr (hw' 48 (by decide)) (hw' 40 (by decide))
  have e73 : ∀ j, j < (w :: W).length → upd (iv 73) W.length (nI w) j = nI ((w :: W).reverse.getD j 0) := by
    intro j hj
    rw [List.length_cons] at hj
    by_cases c : j = W.length
    · subst c
      rw [pk_us, zrev_top]
    · rw [pk_un c, zrev_low w W 0 (by omega)]
      exact h3 j (by omega)
  by_cases c : w = 48 ∨ w = 40
  · rw [if_pos (hc.mpr c)]
    refine ⟨by rw [zu_s, pk_un (by decide), zu_ss, List.length_cons], ?_, e73, ?_, h5⟩
    · rw [zu_ss, zdeep, if_pos c, h2, nI_1, Nat.add_comm]
    · rw [zu_s, pk_un (by decide), zu_s, pk_un (by decide), zu_n _ _ _ (by decide)]; exact h4
  · rw [if_neg (fun z => c (hc.mp z))]
    refine ⟨by rw [zu_ss, List.length_cons], ?_, e73, ?_, h5⟩
    · rw [zu_s, pk_un (by decide), zu_n _ _ _ (by decide), zdeep, if_neg c, Nat.zero_add]; exact h2
    · rw [zu_s, pk_un (by decide), zu_n _ _ _ (by decide)]; exact h4
theorem zfs.hold (x y z : Int32) (m : Nat) {c : Prop} [Decidable c] : zfs b (if c then zu (zu (zu iv 73 m x) 41 49 y) 41 50 z else zu (zu iv 73 m x) 41 49 y) iv := by
  split
  · exact ⟨fun q a1 a2 a3 a4 => by rw [zu_n _ _ _ a1, zu_n _ _ _ a1, zu_n _ _ _ a4], fun j a1 a2 a3 => by rw [zu_s, pk_un a3, zu_s, pk_un a2, zu_n _ _ _ (by decide)], fun j hj => ⟨rfl, rfl⟩⟩
  · exact ⟨fun q a1 a2 a3 a4 => by rw [zu_n _ _ _ a1, zu_n _ _ _ a4], fun j a1 a2 a3 => by rw [zu_s, pk_un a2, zu_n _ _ _ (by decide)], fun j hj => ⟨rfl, rfl⟩⟩
/-- an operand is written and counted -/
theorem zMq.opr (h : zMq iv0 b W P v iv) {x c nu : Int32} (hc : c = zsc x) (hn : 1000 ≤ x.toInt → nu = x - 1000) : zMq iv0 b W (x :: P) (v + 1) (zu (zu (zu (zu iv 68 (b + P.length) c) 69 (b + P.length) nu) 41 36 (nI (b + P.length + 1))) 41 37 (nI (v + 1))) := by
  obtain ⟨h1, h2, h3, h4, h5⟩ := h
  have hp := h5.put (x := x) (c := c) (nu := nu) hc hn
  have hf : zfs b (zu (zu (zu iv 68 (b + P.length) c) 69 (b + P.length) nu) 41 36 (nI (b + P.length + 1))) iv := (zfs.rf b iv).put (by omega)
  have h1' := zfe.fs hf h1
  generalize zu (zu (zu iv 68 (b + P.length) c) 69 (b + P.length) nu) 41 36 (nI (b + P.length + 1)) = u at hp hf h1'
  obtain ⟨p1, p2, p3, p4, p5⟩ := hp
  have e : ∀ j, j ≠ 37 → zu u 41 37 (nI (v + 1)) 41 j = u 41 j := fun j a => by rw [zu_s, pk_un a]
  refine ⟨⟨fun q a1 a2 a3 a4 => by rw [zu_n _ _ _ a1]; exact h1'.1 q a1 a2 a3 a4, fun j a1 a2 a3 a4 a5 a6 a7 a8 a9 a10 => by rw [e j a2]; exact h1'.2.1 j a1 a2 a3 a4 a5 a6 a7 a8 a9 a10, h1'.2.2⟩, ?_, ?_, zu_ss _ _ _ _, ?_, ?_, p3, ?_, p5⟩
  · rw [e 40 (by decide)]; exact (hf.2.1 40 (by decide) (by decide) (by decide)).trans h2
  · rw [e 41 (by decide)]; exact (hf.2.1 41 (by decide) (by decide) (by decide)).trans h3
  · rw [e 49 (by decide)]; exact p1
  · rw [e 50 (by decide)]; exact p2
  · rw [e 36 (by decide)]; exact p4
end ZQ
theorem zoc_len : ∀ P : List Int32, zoc P + znc P ≤ P.length
  | [] => Nat.le_refl _
  | κ :: P => by
    have ih := zoc_len P
    rw [zoc, znc, List.length_cons]
    by_cases c : zisO κ
    · have c2 : ¬ κ = 207 := fun z => by rw [z] at c; exact absurd c (by decide)
      rw [if_pos c, if_neg c2]; omega
    · rw [if_neg c]
      split <;> omega
theorem zW_len : ∀ W : List Nat, W.length = zbW W + zdeep W
  | [] => rfl
  | w :: W => by
    have ih := zW_len W
    rw [List.length_cons, zbW, zdeep, ih]
    split <;> omega
/-- what holds of a state of the orders' machine that is reached -/
def zJv (B : Nat → Int32) (s b v0 n0 : Nat) (c : zCf) : Prop := zInv (zkn (zT B s) s) b v0 n0 c ∧ c.1 ≤ 2 ∧ ∀ j, j < c.2.1 → ¬ zls (zT B s) s j
theorem zJv.bd {B : Nat → Int32} {s b v0 n0 now i v : Nat} {W : List Nat} {P : List Int32} (h : zJv B s b v0 n0 (now, i, W, P, v)) (hs : s ≤ 800) : W.length ≤ 108 ∧ b + P.length + W.length ≤ 408 := by
  obtain ⟨h1, -, h3⟩ := h
  have hl := h1.len
  have hn : zNN (zkn (zT B s) s) i ≤ 200 := zNN_200 hs h3
  obtain ⟨⟨a1, a2⟩, a3, a4, a5, a6, a7, a8⟩ := h1
  simp only at a1 a2 a3 a4 a5 a6 a7 a8
  have h5 := zlen_ht P _ a4
  have h6 := zoc_len P
  have h7 := zW_len W
  have h8 : zdeep W ≤ 8 := by split at a8 <;> omega
  constructor <;> omega
theorem zst_nls {k : Nat → Int32} {c c' : zCf} (h : zst k c = .inr c') : ¬ k c.2.1 = 1 ∧ ¬ k c.2.1 = 2 := by
  obtain ⟨now, i, W, P, v⟩ := c
  have key : ∀ κ : Int32, (κ = 1 ∨ κ = 2) → ¬ (zisO κ ∨ κ = 3) ∧ ¬ κ = 40 ∧ ¬ κ = 207 ∧ ¬ (κ = 43 ∨ κ = 45) ∧ ¬ (κ = 61 ∨ κ = 60 ∨ κ = 62) ∧ ¬ (κ = 206 ∨ κ = 205) ∧ ¬ κ = 41 := by
    intro κ h
    rcases h with h | h <;> subst h <;> decide
  have main : ¬ (k i = 1 ∨ k i = 2) := by
    intro hk
    obtain ⟨a1, a2, a3, a4, a5, a6, a7⟩ := key _ hk
    by_cases hn : now = 2
    · subst hn
      rw [zst_2] at h
      unfold zsig at h
      rw [if_neg a4, if_neg a5, if_neg a6, if_neg (fun z => a7 z.1)] at h
      cases h
    · rw [zst_n hn] at h
      unfold zopn at h
      by_cases c : now = 0 ∧ 8 ≤ zdeep W
      · rw [if_pos c] at h
        cases h
      · rw [if_neg c, if_neg a1, if_neg a2, if_neg (fun z => a3 z.2)] at h
        cases h
  exact ⟨fun z => main (Or.inl z), fun z => main (Or.inr z)⟩
theorem zJv.nx {B : Nat → Int32} {s b v0 n0 : Nat} {c c' : zCf} (h : zJv B s b v0 n0 c) (hs : zst (zkn (zT B s) s) c = .inr c') : zJv B s b v0 n0 c' ∧ c'.2.1 = c.2.1 + 1 := by
  obtain ⟨h1, h2, h3⟩ := h
  obtain ⟨g1, g2, g3⟩ := h1.st h2 hs
  refine ⟨⟨g1, g2, fun j hj => ?_⟩, g3⟩
  by_cases e : j = c.2.1
  · subst e
    have := zst_nls hs
    exact fun z => z.elim this.1 this.2
  · exact h3 j (by omega)
