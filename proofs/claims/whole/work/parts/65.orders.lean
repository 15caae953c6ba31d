abbrev zLi : Type := List (List Int32 × Int32)
def zcon (x : List Int32 × Int32) : zFa ⊕ zLi → zFa ⊕ zLi
  | .inl f => .inl f
  | .inr ls => .inr (x :: ls)
def zLns (k : Nat → Int32) : Nat → Nat → Nat → Nat → zFa ⊕ zLi → Prop
  | 0, _, _, _, _ => False
  | N + 1, l, i, v, o => (k i = 1 ∧ o = .inr []) ∨ (¬ k i = 1 ∧ (¬ k i = 200 ∨ l = 10) ∧ o = .inl (zbad (k i) i)) ∨ (k i = 200 ∧ l < 10 ∧ ((∃ f, zLx k i v f ∧ o = .inl f) ∨ ∃ j v2 P o2, zLn k i v j v2 P ∧ zLns k N (l + 1) (j + 3) v2 o2 ∧ o = zcon (P, k (j + 1)) o2))
/-- all that is written, in its order -/
def zfl : zLi → List Int32
  | [] => []
  | x :: ls => x.1.reverse ++ zfl ls
theorem zfl_app (a b : zLi) : zfl (a ++ b) = zfl a ++ zfl b := by
  induction a with
  | nil => rfl
  | cons x a ih => simp only [List.cons_append, zfl, ih, List.append_assoc]
theorem zfl_one (x : List Int32 × Int32) : zfl [x] = x.1.reverse := by simp [zfl]
/-- a guide that holds these lines: its fields in cell g, ends, choices, kinds in e, c, q -/
def zDr (g e c q : Nat) (iv : zI) (ls : zLi) : Prop := iv g 0 = nI ls.length ∧ iv g 3 = nI (zfl ls).length ∧ (∀ j, j < (zfl ls).length → iv q j = (zfl ls).getD j 0) ∧ ∀ l, l < ls.length → iv e l = nI (zfl (ls.take (l + 1))).length ∧ iv c l = (ls.getD l ([], 0)).2
def zwl (ls : zLi) : Prop := ∀ x, x ∈ ls → zht x.1 = some 1 ∧ zoc x.1 ≤ 100 ∧ zordk x.2
theorem zflu_ht : ∀ (t : List Nat) (P : List Int32), (∀ w, w ∈ t → 40 ≤ w ∧ w ≤ 47) → zht P = some (zbW t + 1) → zht (zflu t P) = some 1 ∧ zoc (zflu t P) = zoc P
  | [], P, _, h => ⟨h, rfl⟩
  | w :: t, P, hw, h => by
    obtain ⟨h1, h2, -⟩ := zpop (W := t) (hw w (by simp)) h
    obtain ⟨g1, g2⟩ := zflu_ht t (zop w :: P) (fun x hx => hw x (by simp [hx])) h1
    exact ⟨g1, by rw [zflu, g2, h2]⟩
/-- before a line -/
def zHd (B : Nat → Int32) (s tk : Nat) (iv0 : zI) (pre : zLi) (iv : zI) (i v : Nat) : Prop :=
  (∀ q, q ≠ 14 → q ≠ 18 → q ≠ 19 → q ≠ 20 → q ≠ 21 → iv q = iv0 q) ∧ i < tk ∧ (iv 14 2 = nI i ∧ iv 14 3 = zkn (zT B s) s i ∧ iv 14 4 = nI v ∧ iv 14 5 = 0 ∧ iv 14 6 = -1) ∧ zDr 18 19 20 21 iv pre ∧ zwl pre ∧ v ≤ 100 ∧ ∃ n0, (zfl pre).length ≤ 2 * v + n0 ∧ n0 ≤ zNN (zkn (zT B s) s) i
theorem zNN_m {k : Nat → Int32} {i : Nat} : ∀ d, zNN k i ≤ zNN k (i + d)
  | 0 => Nat.le_refl _
  | d + 1 => by
    have := zNN_m (k := k) (i := i) d
    have h2 := zNN_s k (i + d)
    rw [show i + (d + 1) = i + d + 1 by omega]
    omega
theorem zHd.ev {B : Nat → Int32} {s tk : Nat} {iv0 iv : zI} {pre : zLi} {i v : Nat} (h : zHd B s tk iv0 pre iv i v) (hE : zEv B s tk iv0) : zEv B s tk iv := by
  obtain ⟨h1, -⟩ := h
  obtain ⟨⟨g1, g2, g3, g4, g5⟩, g6⟩ := hE
  have e15 := h1 15 (by decide) (by decide) (by decide) (by decide) (by decide)
  have e16 := h1 16 (by decide) (by decide) (by decide) (by decide) (by decide)
  have e17 := h1 17 (by decide) (by decide) (by decide) (by decide) (by decide)
  refine ⟨⟨g1, by rw [e15]; exact g2, by rw [e15]; exact g3, fun i hi => ?_, g5⟩, g6⟩
  rw [e16, e17]
  exact g4 i hi
theorem zHd.po {B : Nat → Int32} {s tk : Nat} {iv0 iv : zI} {pre : zLi} {i v : Nat} (h : zHd B s tk iv0 pre iv i v) : zPo iv (zfl pre).length (zkn (zT B s) s) tk iv i v [] := by
  obtain ⟨h1, h2, ⟨a, b, c, d, e⟩, h4, -⟩ := h
  exact ⟨⟨fun _ _ _ _ => rfl, fun _ _ => rfl⟩, fun _ _ => rfl, h2, a, b, c, d, e, h4.2.1, fun j hj => absurd hj (by simp)⟩
theorem zHd.inv {B : Nat → Int32} {s tk : Nat} {iv0 iv : zI} {pre : zLi} {i v : Nat} (h : zHd B s tk iv0 pre iv i v) : ∃ n0, zInv (zkn (zT B s) s) (zfl pre).length v n0 (0, i + 1, [], [], v) := by
  obtain ⟨-, -, -, -, -, h6, n0, h7, h8⟩ := h
  refine ⟨n0, ⟨Nat.le_refl _, h6⟩, by simp [zoc], rfl, ?_, h7, fun w hw => absurd hw (by simp), by simp [zdeep]⟩
  show 0 + 0 + n0 ≤ zNN _ (i + 1)
  have := zNN_s (zkn (zT B s) s) i
  omega
theorem zHd.nx {B : Nat → Int32} {s tk : Nat} {iv0 iv iv2 : zI} {pre : zLi} {i v j v2 n0 : Nat} {P : List Int32} (h : zHd B s tk iv0 pre iv i v) (hI : zInv (zkn (zT B s) s) (zfl pre).length v n0 (0, i + 1, [], [], v)) (hL : zLo iv (zkn (zT B s) s) tk (zfl pre).length pre.length j v2 P iv2) (hN : zLn (zkn (zT B s) s) i v j v2 P) : zHd B s tk iv0 (pre ++ [(P, zkn (zT B s) s (j + 1))]) iv2 (j + 3) v2 := by
  obtain ⟨h1, h2, h3, ⟨d1, d2, d3, d4⟩, h5, h6, h7⟩ := h
  obtain ⟨l1, l2, l3, l4, l5, l6, l7, l8, l9, l10, l11, l12, l13⟩ := hL
  obtain ⟨t, P0, n1, n2, n3, n4, n5⟩ := hN
  have g := hI.R (Nat.zero_le 2) n1
  have hlen := g.len
  obtain ⟨⟨g1, g2⟩, g3, g4, g5, g6, g7, g8⟩ := g
  simp only at g1 g2 g3 g4 g5 g6 g7 g8
  rw [if_pos trivial] at g4
  have ht48 : ∀ w, w ∈ t → w ≠ 48 := fun w hw z => n2.2.2 (z ▸ hw)
  obtain ⟨e1, e2⟩ := zflu_ht t P0 (fun w hw => ⟨(g7 w hw).1, by have := (g7 w hw).2; have := ht48 w hw; omega⟩) g4
  rw [← n3] at e1 e2
  have hP : P.length = t.length + P0.length := by rw [n3, zflu_len]
  have htl := zbn_len t ht48
  have hfl : (zfl (pre ++ [(P, zkn (zT B s) s (j + 1))])).length = (zfl pre).length + P.length := by rw [zfl_app, zfl_one, List.length_append, List.length_reverse]
  refine ⟨fun q a b c d e => by rw [l1 q a b c d e]; exact h1 q a b c d e, l2, ⟨l3, l4, l5, l6, l7⟩, ⟨?_, ?_, fun x hx => ?_, fun l hl => ?_⟩, fun x hx => ?_, g2, zNN (zkn (zT B s) s) j, ?_, zNN_m 3⟩
  · rw [l8, List.length_append]; rfl
  · rw [l9, hfl]
  · rw [hfl] at hx
    rw [zfl_app, zfl_one, List.getD_eq_getElem?_getD, List.getElem?_append]
    by_cases c : x < (zfl pre).length
    · rw [if_pos c, l12 x c, d3 x c, List.getD_eq_getElem?_getD]
    · rw [if_neg c, ← List.getD_eq_getElem?_getD]
      have := l13 (x - (zfl pre).length) (by omega)
      rw [show (zfl pre).length + (x - (zfl pre).length) = x by omega] at this
      exact this
  · rw [List.length_append] at hl
    have hl : l < pre.length + 1 := hl
    rw [l10, l11]
    by_cases c : l = pre.length
    · subst c
      rw [pk_us, pk_us, List.take_of_length_le (by rw [List.length_append]; exact Nat.le_refl _), hfl, List.getD_eq_getElem?_getD, List.getElem?_append_right (Nat.le_refl _), Nat.sub_self]
      exact ⟨rfl, rfl⟩
    · rw [pk_un c, pk_un c, List.take_append_of_le_length (by omega), List.getD_eq_getElem?_getD, List.getElem?_append_left (by omega), ← List.getD_eq_getElem?_getD]
      exact d4 l (by omega)
  · rcases List.mem_append.mp hx with z | z
    · exact h5 x z
    · have := List.mem_singleton.mp z
      subst this
      exact ⟨e1, by show zoc P ≤ 100; rw [e2, g3]; omega, n4⟩
  · rw [hfl]; omega
/-- how reading ends -/
def zRes (iv0 : zI) (pl : Nat → Nat) (pre : zLi) (o : zFa ⊕ zLi) (vr : Option Value) (iv2 : zI) : Prop := (∀ q, q ≠ 14 → q ≠ 18 → q ≠ 19 → q ≠ 20 → q ≠ 21 → iv2 q = iv0 q) ∧ match o with
  | .inl f => vr = some (.int 0) ∧ iv2 14 5 = f.1 ∧ iv2 14 6 = nI (pl f.2) ∧ ¬ f.1 = 0
  | .inr ls => vr = some (.int 1) ∧ iv2 14 5 = 0 ∧ iv2 14 6 = -1 ∧ zDr 18 19 20 21 iv2 (pre ++ ls) ∧ zwl (pre ++ ls) ∧ (zfl (pre ++ ls)).length ≤ 400 ∧ (pre ++ ls).length ≤ 10
theorem zRes.con {iv0 : zI} {pl : Nat → Nat} {pre : zLi} {x : List Int32 × Int32} {o : zFa ⊕ zLi} {vr : Option Value} {iv2 : zI} (h : zRes iv0 pl (pre ++ [x]) o vr iv2) : zRes iv0 pl pre (zcon x o) vr iv2 := by
  refine ⟨h.1, ?_⟩
  match o, h.2 with
  | .inl f, h2 => exact h2
  | .inr ls, h2 =>
    show vr = _ ∧ _ ∧ _ ∧ zDr 18 19 20 21 iv2 (pre ++ x :: ls) ∧ zwl (pre ++ x :: ls) ∧ (zfl (pre ++ x :: ls)).length ≤ 400 ∧ (pre ++ x :: ls).length ≤ 10
    rw [show pre ++ x :: ls = pre ++ [x] ++ ls by simp]
    exact h2

set_option maxHeartbeats 1000000 in
set_option maxRecDepth 4000 in
theorem lr_75s (n : Nat) (lw : zG) (B : Nat → Int32) (s tk : Nat) (iv0 : zI) (hE : zEv B s tk iv0) (Q0 : Option Value → zI → zG → Prop) (pre : zLi) (cur : zI) (f : zFa) (hF : zLf iv0 cur f.1 (nI ((zpl (zT B s) s) f.2))) (hQ : ∀ vr iv2, zRes iv0 (zpl (zT B s) s) pre (.inl f) vr iv2 → Q0 vr iv2 lw) (ln c : Int32) {X : zX} (C : zC X cX5_read 3 RX5 (some .boolean) "read" 48 0 0) (E : zEnd X (91 + 3 * n) 0 0 (zQ n Q0)) : zJs X n 3 75 [some (.ref 14), some (.int ln), some (.int c)] [] cur lw := by
  refine z_aload_n C dX5_read_75 rfl ?_
  refine z_getI C dX5_read_76 zf_X5_51 zk_14 (by decide) ?_
  refine z_iconst (v := 1) C dX5_read_79 (by decide) ?_
  refine z_icmp_eq (tgt := 88) C dX5_read_80 (by decide) (fun q80 => ?_) (fun q80 => ?_)
  · rw [hF.2.1] at q80
    exact absurd q80 (by decide)
  · rw [hF.2.1] at q80
    refine z_aload_n C dX5_read_83 rfl ?_
    refine z_iconst (v := 2) C dX5_read_84 (by decide) ?_
    refine zs_callVv C dX5_read_85 zm_X5_57 zyX5_refuse (r_refuse0 n cur _ (by rw [hF.2.2.1]; exact hF.2.2.2.2) 2) zc_5 rfl zk_14 (by decide) (by decide) rfl rfl (Nat.le_of_ble_eq_true rfl) (by decide) (by decide) ?_
    refine z_aload_n C dX5_read_88 rfl ?_
    refine z_getI C dX5_read_89 zf_X5_37 zk_14 (by decide) ?_
    refine z_if_ne (tgt := 99) C dX5_read_92 (by decide) (fun q92 => ?_) (fun q92 => ?_)
    · rw [show zu cur 14 3 0 14 5 = f.1 from hF.2.2.1] at q92
      refine z_iconst (v := 0) C dX5_read_99 (by decide) ?_
      refine zs_qiret C E dX5_read_100 rfl ?_
      exact hQ _ _ ⟨fun q a b c d e => by rw [zu_n _ _ _ a]; exact hF.1 q a b c d e, rfl, hF.2.2.1, hF.2.2.2.1, hF.2.2.2.2⟩
    · rw [show zu cur 14 3 0 14 5 = f.1 from hF.2.2.1] at q92
      exact absurd q92 hF.2.2.2.2

set_option maxHeartbeats 1000000 in
set_option maxRecDepth 4000 in
theorem lr_75o (n : Nat) (lw : zG) (B : Nat → Int32) (s tk : Nat) (iv0 : zI) (hE : zEv B s tk iv0) (Q0 : Option Value → zI → zG → Prop) (pre : zLi) (cur : zI) (i v : Nat) (hH : zHd B s tk iv0 pre cur i v) (l : Nat) (hnw : ¬ (zkn (zT B s) s) i = 200 ∨ l = 10) (hlen : (zfl pre).length ≤ 400) (hl : pre.length ≤ 10) (hQ : ∀ N o vr iv2, zLns (zkn (zT B s) s) N l i v o → zRes iv0 (zpl (zT B s) s) pre o vr iv2 → Q0 vr iv2 lw) (ln c : Int32) {X : zX} (C : zC X cX5_read 3 RX5 (some .boolean) "read" 48 0 0) (E : zEnd X (91 + 3 * n) 0 0 (zQ n Q0)) : zJs X n 3 75 [some (.ref 14), some (.int ln), some (.int c)] [] cur lw := by
  refine z_aload_n C dX5_read_75 rfl ?_
  refine z_getI C dX5_read_76 zf_X5_51 zk_14 (by decide) ?_
  refine z_iconst (v := 1) C dX5_read_79 (by decide) ?_
  refine z_icmp_eq (tgt := 88) C dX5_read_80 (by decide) (fun q80 => ?_) (fun q80 => ?_)
  · rw [hH.2.2.1.2.1] at q80
    skip
    refine z_aload_n C dX5_read_88 rfl ?_
    refine z_getI C dX5_read_89 zf_X5_37 zk_14 (by decide) ?_
    refine z_if_ne (tgt := 99) C dX5_read_92 (by decide) (fun q92 => ?_) (fun q92 => ?_)
    · exact absurd hH.2.2.1.2.2.2.1 q92
    · refine z_iconst (v := 1) C dX5_read_95 (by decide) ?_
      refine z_goto (tgt := 100) C dX5_read_96 (by decide) ?_
      refine zs_qiret C E dX5_read_100 rfl ?_
      exact hQ 1 (.inr []) _ _ (Or.inl ⟨q80, rfl⟩) ⟨hH.1, rfl, hH.2.2.1.2.2.2.1, hH.2.2.1.2.2.2.2, by rw [List.append_nil]; exact hH.2.2.2.1, by rw [List.append_nil]; exact hH.2.2.2.2.1, by rw [List.append_nil]; exact hlen, by rw [List.append_nil]; exact hl⟩
  · rw [hH.2.2.1.2.1] at q80
    refine z_aload_n C dX5_read_83 rfl ?_
    refine z_iconst (v := 2) C dX5_read_84 (by decide) ?_
    refine zs_callVv C dX5_read_85 zm_X5_57 zyX5_refuse (r_refuse1 n cur _ B s tk (hH.ev hE).1 i hH.2.2.1.1 hH.2.1 hH.2.2.1.2.2.2.1 2) zc_5 rfl zk_14 (by decide) (by decide) rfl rfl (Nat.le_of_ble_eq_true rfl) (by decide) (by decide) ?_
    rw [hH.2.2.1.2.1]
    have e5 : zu (zu (zu cur 14 5 (if (zkn (zT B s) s) i = 2 then 1 else 2)) 14 6 (nI ((zpl (zT B s) s) i))) 14 3 0 14 5 = (zbad ((zkn (zT B s) s) i) i).1 := by rw [zu_s, pk_un (by decide), zu_s, pk_un (by decide), zu_ss]; rfl
    have e6 : zu (zu (zu cur 14 5 (if (zkn (zT B s) s) i = 2 then 1 else 2)) 14 6 (nI ((zpl (zT B s) s) i))) 14 3 0 14 6 = nI ((zpl (zT B s) s) i) := by rw [zu_s, pk_un (by decide), zu_ss]
    refine z_aload_n C dX5_read_88 rfl ?_
    refine z_getI C dX5_read_89 zf_X5_37 zk_14 (by decide) ?_
    refine z_if_ne (tgt := 99) C dX5_read_92 (by decide) (fun q92 => ?_) (fun q92 => ?_)
    · refine z_iconst (v := 0) C dX5_read_99 (by decide) ?_
      refine zs_qiret C E dX5_read_100 rfl ?_
      exact hQ 1 (.inl (zbad ((zkn (zT B s) s) i) i)) _ _ (Or.inr (Or.inl ⟨q80, hnw, rfl⟩)) ⟨fun q a b c d e => by rw [zu_n _ _ _ a, zu_n _ _ _ a, zu_n _ _ _ a]; exact hH.1 q a b c d e, rfl, e5, e6, zbad_n⟩
    · exact absurd (e5.symm.trans q92) zbad_n

theorem zHd.len {B : Nat → Int32} {s tk : Nat} {iv0 iv : zI} {pre : zLi} {i v : Nat} (h : zHd B s tk iv0 pre iv i v) (hE : zEv B s tk iv0) : (zfl pre).length ≤ 400 := by
  obtain ⟨-, h2, -, -, -, h6, n0, h7, h8⟩ := h
  have := hE.nn h2
  omega

set_option maxHeartbeats 1000000 in
set_option maxRecDepth 4000 in
theorem lr_read (n : Nat) (lw : zG) (B : Nat → Int32) (s tk : Nat) (iv0 : zI) (hE : zEv B s tk iv0) (Q0 : Option Value → zI → zG → Prop) (ln : Nat) {X : zX} (C : zC X cX5_read 3 RX5 (some .boolean) "read" 48 0 0) (E : zEnd X (91 + 3 * n) 0 0 (zQ n Q0)) : ∀ (M : Nat) (c : Nat) (pre : zLi) (cur : zI) (i v : Nat), c + M = 10 → pre.length = c → zHd B s tk iv0 pre cur i v → (zfl pre).length ≤ 400 → (∀ N o vr iv2, zLns (zkn (zT B s) s) N c i v o → zRes iv0 (zpl (zT B s) s) pre o vr iv2 → Q0 vr iv2 lw) → zJs X n 3 49 [some (.ref 14), some (.int (nI ln)), some (.int (nI c))] [] cur lw := by
  intro M
  induction M with
  | zero =>
    intro c pre cur i v hcM hpl hH hlen hQ
    refine z_iload_n C dX5_read_49 rfl ?_
    refine z_bipush (v := 10) C dX5_read_50 (by decide) ?_
    refine zt_icmp_ge (tgt := 75) C dX5_read_52 (nI_toInt (by omega)) (show (10 : Int32).toInt = 10 by decide) (by decide) (fun q52 => ?_) (fun q52 => ?_)
    · exact lr_75o n _ B s tk iv0 hE Q0 pre cur i v hH c (Or.inr (by omega)) hlen (by omega) hQ _ _ C E
    · exfalso; omega
  | succ M ih =>
    intro c pre cur i v hcM hpl hH hlen hQ
    refine z_iload_n C dX5_read_49 rfl ?_
    refine z_bipush (v := 10) C dX5_read_50 (by decide) ?_
    refine zt_icmp_ge (tgt := 75) C dX5_read_52 (nI_toInt (by omega)) (show (10 : Int32).toInt = 10 by decide) (by decide) (fun q52 => ?_) (fun q52 => ?_)
    · exfalso; omega
    · refine z_aload_n C dX5_read_55 rfl ?_
      refine z_getI C dX5_read_56 zf_X5_51 zk_14 (by decide) ?_
      refine z_sipush (v := 200) C dX5_read_59 (by decide) ?_
      refine z_icmp_ne (tgt := 75) C dX5_read_62 (by decide) (fun q62 => ?_) (fun q62 => ?_)
      · rw [hH.2.2.1.2.1] at q62
        exact lr_75o n _ B s tk iv0 hE Q0 pre cur i v hH c (Or.inl q62) hlen (by omega) hQ _ _ C E
      · rw [hH.2.2.1.2.1] at q62
        obtain ⟨n0, hI⟩ := hH.inv
        refine z_aload_n C dX5_read_65 rfl ?_
        refine zs_callVq C dX5_read_66 zm_X5_54 zyX5_readLine (r_line n _ B s tk cur (zfl pre).length v n0 pre.length hH.2.2.2.1.1 (by omega) i v (hH.ev hE) hH.2.1 hH.2.2.1.1 q62 hH.po hI) zc_5 rfl zk_14 (by decide) (by decide) rfl rfl (Nat.le_of_ble_eq_true rfl) (by decide) (by decide) (fun v66 iv66 lw66 hq66 => ?_)
        obtain ⟨rfl, rfl, hx66⟩ := hq66
        rcases hx66 with ⟨j, v2, P, hL, hN⟩ | ⟨f, hF, hX⟩
        · have hH2 := hH.nx hI hL hN
          refine z_iinc (y := 1) (lv' := [some (.ref 14), some (.int _), some (.int _)]) C dX5_read_69 rfl (by decide) (by decide) rfl ?_
          refine z_goto (tgt := 49) C dX5_read_72 (by decide) ?_
          rw [nI_1 c]
          refine ih (c + 1) (pre ++ [(P, (zkn (zT B s) s) (j + 1))]) _ (j + 3) v2 (by omega) (by rw [List.length_append]; show pre.length + 1 = _; omega) hH2 (hH2.len hE) (fun N o vr iv2 h1 h2 => hQ (N + 1) (zcon (P, (zkn (zT B s) s) (j + 1)) o) vr iv2 (Or.inr (Or.inr ⟨q62, by omega, Or.inr ⟨j, v2, P, o, hN, h1, rfl⟩⟩)) h2.con)
        · refine z_iinc (y := 1) (lv' := [some (.ref 14), some (.int _), some (.int _)]) C dX5_read_69 rfl (by decide) (by decide) rfl ?_
          refine z_goto (tgt := 49) C dX5_read_72 (by decide) ?_
          rw [nI_1 c]
          have hF2 : zLf iv0 iv66 f.1 (nI ((zpl (zT B s) s) f.2)) := ⟨fun q a b c d e => (hF.1 q a b c d e).trans (hH.1 q a b c d e), hF.2⟩
          have hend := lr_75s n _ B s tk iv0 hE Q0 pre iv66 f hF2 (fun vr iv2 h => hQ 1 (.inl f) vr iv2 (Or.inr (Or.inr ⟨q62, by omega, Or.inl ⟨f, hX, rfl⟩⟩)) h) (nI ln) (nI (c + 1)) C E
          refine z_iload_n C dX5_read_49 rfl ?_
          refine z_bipush (v := 10) C dX5_read_50 (by decide) ?_
          refine zt_icmp_ge (tgt := 75) C dX5_read_52 (nI_toInt (by omega)) (show (10 : Int32).toInt = 10 by decide) (by decide) (fun q52 => hend) (fun q52 => ?_)
          refine z_aload_n C dX5_read_55 rfl ?_
          refine z_getI C dX5_read_56 zf_X5_51 zk_14 (by decide) ?_
          refine z_sipush (v := 200) C dX5_read_59 (by decide) ?_
          refine z_icmp_ne (tgt := 75) C dX5_read_62 (by decide) (fun q62 => hend) (fun q62 => ?_)
          rw [hF.2.1] at q62
          exact absurd q62 (by decide)

set_option maxHeartbeats 1000000 in
set_option maxRecDepth 4000 in
theorem r_read (n : Nat) (iv : zI) (lw : zG) (s : Nat) (hs8 : s ≤ 800) (hB : ∀ j, (zT (iv 13) s j).toInt < 128) : zMs yX5_read cX5_read 3 (some .boolean) 48 [.ref 14, .int (nI s)] n iv lw (fun vr iv2 lw2 => lw2 = lw ∧ (∀ q, q ≠ 14 → q ≠ 15 → q ≠ 16 → q ≠ 17 → q ≠ 18 → q ≠ 19 → q ≠ 20 → q ≠ 21 → iv2 q = iv q) ∧ ∃ N o, zLns (zkn (zT (iv 13) s) s) N 0 0 0 o ∧ zRes iv2 (zpl (zT (iv 13) s) s) [] o vr iv2) := by
  refine zM.of (by decide) (Nat.le_of_ble_eq_true rfl) (fun X C E => ?_)
  change zJs X n 3 0 [some (.ref 14), some (.int (nI s)), none] [] iv lw
  refine z_aload_n C dX5_read_0 rfl ?_
  refine zs_getR C dX5_read_1 zf_X5_23 zk_14 (by decide) (zr_14_1 n) ?_
  refine zs_callVv C dX5_read_4 zm_X5_31 zyX1_empty (c_emptyD n iv _) zc_1 rfl zk_18 (by decide) (by decide) rfl rfl (Nat.le_of_ble_eq_true rfl) (by decide) (by decide) ?_
  refine z_aload_n C dX5_read_7 rfl ?_
  refine z_iconst (v := 0) C dX5_read_8 (by decide) ?_
  refine z_putI C dX5_read_9 zf_X5_34 zk_14 (by decide) ?_
  refine z_aload_n C dX5_read_12 rfl ?_
  refine z_iconst (v := 0) C dX5_read_13 (by decide) ?_
  refine z_putI C dX5_read_14 zf_X5_37 zk_14 (by decide) ?_
  refine z_aload_n C dX5_read_17 rfl ?_
  refine z_iconst (v := (-1)) C dX5_read_18 (by decide) ?_
  refine z_putI C dX5_read_19 zf_X5_27 zk_14 (by decide) ?_
  refine z_aload_n C dX5_read_22 rfl ?_
  refine zs_getR C dX5_read_23 zf_X5_14 zk_14 (by decide) (zr_14_0 n) ?_
  refine z_iload_n C dX5_read_26 rfl ?_
  refine zs_callVq C dX5_read_27 zm_X5_40 zyX6_divide (s_divide n (zu (zu (zu (zu (zu iv 18 0 0) 18 3 0) 14 4 0) 14 5 0) 14 6 (-1)) _ s hs8 hB) zc_6 rfl zk_15 (by decide) (by decide) rfl rfl (Nat.le_of_ble_eq_true rfl) (by decide) (by decide) (fun v27 iv27 lw27 hq27 => ?_)
  obtain ⟨rfl, rfl, hf27, tk, hT27⟩ := hq27
  refine z_aload_n C dX5_read_30 rfl ?_
  refine z_iconst (v := 0) C dX5_read_31 (by decide) ?_
  refine z_putI C dX5_read_32 zf_X5_44 zk_14 (by decide) ?_
  refine z_aload_n C dX5_read_35 rfl ?_
  refine z_aload_n C dX5_read_36 rfl ?_
  refine zs_getR C dX5_read_37 zf_X5_14 zk_14 (by decide) (zr_14_0 n) ?_
  refine z_iconst (v := 0) C dX5_read_40 (by decide) ?_
  refine zs_callVi C dX5_read_41 zm_X5_47 zyX6_kindOf (s_kindOf n (zu iv27 14 2 0) _ tk hT27.2.2.1 hT27.1.2 0 (by decide)) zc_6 rfl zk_15 (by decide) (by decide) rfl rfl (Nat.le_of_ble_eq_true rfl) (by decide) (by decide) ?_
  refine z_eqi (show _ = (zkn (zT (iv 13) s) s) 0 by rw [if_pos (show 0 < tk by have := hT27.1.1; omega)]; exact (hT27.2.2.2.1 0 (by have := hT27.1.1; omega)).1) ?_
  refine z_putI C dX5_read_44 zf_X5_51 zk_14 (by decide) ?_
  refine z_iconst (v := 0) C dX5_read_47 (by decide) ?_
  refine z_istore_n (lv' := [some (.ref 14), some (.int _), some (.int _)]) C dX5_read_48 (by decide) rfl ?_
  have hi14 : ∀ j, j ≠ 2 → j ≠ 3 → zu (zu iv27 14 2 0) 14 3 ((zkn (zT (iv 13) s) s) 0) 14 j = (zu (zu (zu (zu (zu iv 18 0 0) 18 3 0) 14 4 0) 14 5 0) 14 6 (-1)) 14 j := fun j a b => by rw [zu_s, pk_un b, zu_s, pk_un a, hf27 14 (by decide) (by decide) (by decide)]
  have hE2 : zEv (iv 13) s tk (zu (zu iv27 14 2 0) 14 3 ((zkn (zT (iv 13) s) s) 0)) := ⟨⟨hT27.1, hT27.2.1, hT27.2.2.1, hT27.2.2.2.1, hT27.2.2.2.2⟩, hs8⟩
  have e18 : zu (zu iv27 14 2 0) 14 3 ((zkn (zT (iv 13) s) s) 0) 18 = upd (upd (iv 18) 0 0) 3 0 := hf27 18 (by decide) (by decide) (by decide)
  have hH : zHd (iv 13) s tk (zu (zu iv27 14 2 0) 14 3 ((zkn (zT (iv 13) s) s) 0)) [] (zu (zu iv27 14 2 0) 14 3 ((zkn (zT (iv 13) s) s) 0)) 0 0 := by
    refine ⟨fun _ _ _ _ _ _ => rfl, by have := hT27.1.1; omega, ⟨?_, zu_ss _ _ _ _, ?_, ?_, ?_⟩, ⟨?_, ?_, fun j hj => absurd hj (by simp [zfl]), fun l hl => absurd hl (by simp)⟩, fun x hx => absurd hx (by simp), by omega, 0, by simp [zfl], by omega⟩
    · rw [zu_s, pk_un (by decide), zu_ss]; rfl
    · rw [hi14 4 (by decide) (by decide)]; show upd (upd (upd (iv 14) 4 0) 5 0) 6 (-1) 4 = _; rw [pk_un (by decide), pk_un (by decide), pk_us]; rfl
    · rw [hi14 5 (by decide) (by decide)]; show upd (upd (upd (iv 14) 4 0) 5 0) 6 (-1) 5 = _; rw [pk_un (by decide), pk_us]
    · rw [hi14 6 (by decide) (by decide)]; show upd (upd (upd (iv 14) 4 0) 5 0) 6 (-1) 6 = _; rw [pk_us]
    · rw [e18, pk_un (by decide), pk_us]; rfl
    · rw [e18, pk_us]; rfl
  refine lr_read n _ (iv 13) s tk (zu (zu iv27 14 2 0) 14 3 ((zkn (zT (iv 13) s) s) 0)) hE2 _ s (zC_le (by decide) C) E 10 0 [] _ 0 0 (by omega) rfl hH (by simp [zfl]) (fun N o vr iv2 h1 h2 => ⟨rfl, fun q a b c d e f g h => ?_, N, o, h1, fun _ _ _ _ _ _ => rfl, h2.2⟩)
  rw [h2.1 q a e f g h, zu_n _ _ _ a, zu_n _ _ _ a, hf27 q b c d]
  show (zu (zu (zu (zu (zu iv 18 0 0) 18 3 0) 14 4 0) 14 5 0) 14 6 (-1)) q = iv q
  rw [zu_n _ _ _ a, zu_n _ _ _ a, zu_n _ _ _ a, zu_n _ _ _ e, zu_n _ _ _ e]

/-- what orders() leaves -/
def zOut (iv : zI) (pl : Nat → Nat) (o : zFa ⊕ zLi) (vr : Option Value) (iv2 : zI) : Prop := match o with
  | .inl f => vr = some (.int (-1)) ∧ iv2 14 5 = f.1 ∧ iv2 14 6 = nI (pl f.2) ∧ iv2 23 = iv 23 ∧ iv2 24 = iv 24 ∧ iv2 25 = iv 25 ∧ iv2 26 = iv 26
  | .inr ls => vr = some (.int (nI ls.length)) ∧ iv2 14 5 = 0 ∧ iv2 14 6 = -1 ∧ zDr 23 24 25 26 iv2 ls ∧ zwl ls ∧ (zfl ls).length ≤ 400 ∧ ls.length ≤ 10
theorem zcpk_26 (iv : zI) : ∀ m j, j < m → zcpk iv m 26 j = iv 21 j
  | 0, j, h => absurd h (by omega)
  | m + 1, j, h => by
    rw [zcpk, zu_n _ _ _ (by decide), zu_s]
    by_cases c : j = m
    · subst c; rw [pk_us]
    · rw [pk_un c]; exact zcpk_26 iv m j (by omega)
theorem zcpl_24 (v iv : zI) : ∀ m j, j < m → zcpl v iv m 24 j = iv 19 j ∧ zcpl v iv m 25 j = iv 20 j
  | 0, j, h => absurd h (by omega)
  | m + 1, j, h => by
    rw [zcpl, zu_n _ _ _ (show 24 ≠ 25 by decide), zu_s, zu_s, zu_n _ _ _ (show 25 ≠ 24 by decide)]
    by_cases c : j = m
    · subst c; rw [pk_us, pk_us]; exact ⟨rfl, rfl⟩
    · rw [pk_un c, pk_un c]; exact zcpl_24 v iv m j (by omega)

set_option maxHeartbeats 2000000 in
set_option maxRecDepth 4000 in
theorem x_orders (n : Nat) (iv : zI) (lw : zG) (s : Nat) (hs : iv 12 1 = nI s) (hs8 : s ≤ 800) (hB : ∀ j, (zT (iv 13) s j).toInt < 128) : zMs yX9_orders cX9_orders 2 (some .int) 49 [.ref 0] n iv lw (fun vr iv2 lw2 => lw2 = lw ∧ (∀ q, q ≠ 12 → q ≠ 14 → q ≠ 15 → q ≠ 16 → q ≠ 17 → q ≠ 18 → q ≠ 19 → q ≠ 20 → q ≠ 21 → q ≠ 23 → q ≠ 24 → q ≠ 25 → q ≠ 26 → iv2 q = iv q) ∧ iv2 12 = upd (iv 12) 1 0 ∧ ∃ N o, zLns (zkn (zT (iv 13) s) s) N 0 0 0 o ∧ zOut iv (zpl (zT (iv 13) s) s) o vr iv2) := by
  refine zM.of (by decide) (Nat.le_of_ble_eq_true rfl) (fun X C E => ?_)
  change zJs X n 2 0 [some (.ref 0), none] [] iv lw
  refine z_aload_n C dX9_orders_0 rfl ?_
  refine zs_getR C dX9_orders_1 zf_X9_45 zk_0 (by decide) (zr_0_5 n) ?_
  refine z_aload_n C dX9_orders_4 rfl ?_
  refine zs_getR C dX9_orders_5 zf_X9_32 zk_0 (by decide) (zr_0_4 n) ?_
  refine z_getI C dX9_orders_8 zf_X9_144 zk_12 (by decide) ?_
  rw [hs]
  refine zs_callVq C dX9_orders_11 zm_X9_147 zyX5_read (r_read n iv _ s hs8 hB) zc_5 rfl zk_14 (by decide) (by decide) rfl rfl (Nat.le_of_ble_eq_true rfl) (by decide) (by decide) (fun v11 iv11 lw11 hq11 => ?_)
  obtain ⟨rfl, hf11, N, o, hN11, hr11⟩ := hq11
  match o, hN11, hr11.2 with
  | .inl f, hN11, ⟨hv, h5, h6, h7⟩ =>
    cases hv
    refine z_istore_n (lv' := [some (.ref 0), some (.int _)]) C dX9_orders_14 (by decide) rfl ?_
    refine z_aload_n C dX9_orders_15 rfl ?_
    refine zs_getR C dX9_orders_16 zf_X9_32 zk_0 (by decide) (zr_0_4 n) ?_
    refine z_iconst (v := 0) C dX9_orders_19 (by decide) ?_
    refine z_putI C dX9_orders_20 zf_X9_144 zk_12 (by decide) ?_
    refine z_iload_n C dX9_orders_23 rfl ?_
    refine z_if_ne (tgt := 29) C dX9_orders_24 (by decide) (fun q24 => ?_) (fun q24 => ?_)
    · exact absurd rfl q24
    · refine z_iconst (v := (-1)) C dX9_orders_27 (by decide) ?_
      refine zs_qiret C E dX9_orders_28 rfl ?_
      refine ⟨rfl, fun q a1 a2 a3 a4 a5 a6 a7 a8 a9 _ _ _ _ => by rw [zu_n _ _ _ a1]; exact hf11 q a2 a3 a4 a5 a6 a7 a8 a9, ?_, N, .inl f, hN11, rfl, h5, h6, hf11 23 (by decide) (by decide) (by decide) (by decide) (by decide) (by decide) (by decide) (by decide), hf11 24 (by decide) (by decide) (by decide) (by decide) (by decide) (by decide) (by decide) (by decide), hf11 25 (by decide) (by decide) (by decide) (by decide) (by decide) (by decide) (by decide) (by decide), hf11 26 (by decide) (by decide) (by decide) (by decide) (by decide) (by decide) (by decide) (by decide)⟩
      rw [zu_s, hf11 12 (by decide) (by decide) (by decide) (by decide) (by decide) (by decide) (by decide) (by decide)]
  | .inr ls, hN11, ⟨hv, h5, h6, hD, hw, hlen, hl10⟩ =>
    cases hv
    refine z_istore_n (lv' := [some (.ref 0), some (.int _)]) C dX9_orders_14 (by decide) rfl ?_
    refine z_aload_n C dX9_orders_15 rfl ?_
    refine zs_getR C dX9_orders_16 zf_X9_32 zk_0 (by decide) (zr_0_4 n) ?_
    refine z_iconst (v := 0) C dX9_orders_19 (by decide) ?_
    refine z_putI C dX9_orders_20 zf_X9_144 zk_12 (by decide) ?_
    refine z_iload_n C dX9_orders_23 rfl ?_
    refine z_if_ne (tgt := 29) C dX9_orders_24 (by decide) (fun q24 => ?_) (fun q24 => ?_)
    · refine z_aload_n C dX9_orders_29 rfl ?_
      refine zs_getR C dX9_orders_30 zf_X9_52 zk_0 (by decide) (zr_0_6 n) ?_
      refine z_aload_n C dX9_orders_33 rfl ?_
      refine zs_getR C dX9_orders_34 zf_X9_45 zk_0 (by decide) (zr_0_5 n) ?_
      refine zs_getR C dX9_orders_37 zf_X9_150 zk_14 (by decide) (zr_14_1 n) ?_
      refine zs_callVv C dX9_orders_40 zm_X9_153 zyX1_copy (c_copy n (zu iv11 12 1 0) _ (zfl ls).length ls.length hD.2.1 hlen hD.1 hl10) zc_1 rfl zk_23 (by decide) (by decide) rfl rfl (Nat.le_of_ble_eq_true rfl) (by decide) (by decide) ?_
      refine z_aload_n C dX9_orders_43 rfl ?_
      refine zs_getR C dX9_orders_44 zf_X9_52 zk_0 (by decide) (zr_0_6 n) ?_
      refine z_getI C dX9_orders_47 zf_X9_157 zk_23 (by decide) ?_
      refine zs_qiret C E dX9_orders_50 rfl ?_
      have hv : zcpl (zu (zcpk (zu iv11 12 1 0) (zfl ls).length) 23 0 (nI ls.length)) (zu iv11 12 1 0) ls.length 23 = upd (zcpk (zu iv11 12 1 0) (zfl ls).length 23) 0 (nI ls.length) := by rw [zcpl_o _ _ (by decide) (by decide), zu_s]
      refine ⟨rfl, fun q a1 a2 a3 a4 a5 a6 a7 a8 a9 b1 b2 b3 b4 => ?_, ?_, N, .inr ls, hN11, ?_, ?_, ?_, ⟨?_, ?_, fun j hj => ?_, fun l hl => ?_⟩, hw, hlen, hl10⟩
      · rw [zcpl_o _ _ b2 b3, zu_n _ _ _ b1, zcpk_o _ b1 b4, zu_n _ _ _ a1]; exact hf11 q a2 a3 a4 a5 a6 a7 a8 a9
      · rw [zcpl_o _ _ (by decide) (by decide), zu_n _ _ _ (by decide), zcpk_o _ (by decide) (by decide), zu_s, hf11 12 (by decide) (by decide) (by decide) (by decide) (by decide) (by decide) (by decide) (by decide)]
      · rw [hv, pk_us]
      · rw [zcpl_o _ _ (by decide) (by decide), zu_n _ _ _ (by decide), zcpk_o _ (by decide) (by decide)]; exact h5
      · rw [zcpl_o _ _ (by decide) (by decide), zu_n _ _ _ (by decide), zcpk_o _ (by decide) (by decide)]; exact h6
      · rw [hv, pk_us]
      · rw [hv, pk_un (by decide)]; exact zcpk_n _ _
      · rw [zcpl_o _ _ (by decide) (by decide), zu_n _ _ _ (by decide), zcpk_26 _ _ _ hj]; exact hD.2.2.1 j hj
      · obtain ⟨e1, e2⟩ := zcpl_24 (zu (zcpk (zu iv11 12 1 0) (zfl ls).length) 23 0 (nI ls.length)) (zu iv11 12 1 0) ls.length l hl
        rw [e1, e2]
        exact hD.2.2.2 l hl
    · exact absurd q24 (by decide)
