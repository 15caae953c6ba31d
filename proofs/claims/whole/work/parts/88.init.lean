/-! constructors -/
def zI0 : zI := fun k => if k = 1 then upd (fun _ => 0) 0 2 else if k = 2 then upd (fun _ => 0) 0 1 else if k = 14 then upd (fun _ => 0) 6 (-1) else if k = 41 then upd (upd (fun _ => 0) 1 2) 41 (-1) else if k = 42 then upd (fun _ => 0) 0 1 else fun _ => 0
/-- cells a .. b - 1 are as the constructors leave them -/
def zIn (a b : Nat) (kd : zD) (iv : zI) (rf : zF) : Prop := ∀ k, a ≤ k → k < b → kd k = skd k ∧ iv k = zI0 k ∧ (∀ j, j < 70 → rf k j = srf 0 k j) ∧ (k = 11 → rf k = srf 0 k)
def zQn (b N1 : Nat) (kd : zD) (iv : zI) (rf : zF) : zP := fun v N2 kd2 iv2 rf2 _ => v = none ∧ N2 = N1 ∧ (∀ k, k < b → kd2 k = kd k ∧ iv2 k = iv k ∧ rf2 k = rf k) ∧ zIn b N1 kd2 iv2 rf2
theorem va_upn {α : Type} (f : Nat → α) {N k : Nat} (x : α) (h : k ≠ N) : va_up f N x k = f k := if_neg h
theorem zIn.o {a b : Nat} {kd kd2 : zD} {iv iv2 : zI} {rf rf2 : zF} (h : zIn a b kd iv rf) (e : ∀ k, a ≤ k → k < b → kd2 k = kd k ∧ iv2 k = iv k ∧ rf2 k = rf k) : zIn a b kd2 iv2 rf2 := by
  intro k h1 h2
  obtain ⟨e1, e2, e3⟩ := e k h1 h2
  rw [e1, e2, e3]
  exact h k h1 h2
theorem zIn.app {a b c : Nat} {kd : zD} {iv : zI} {rf : zF} (h : zIn a b kd iv rf) (h2 : zIn b c kd iv rf) : zIn a c kd iv rf := by
  intro k x y
  by_cases z : k < b
  · exact h k x z
  · exact h2 k (by omega) y
theorem z_cg {X : zX} {N0 nL pc : Nat} {lv : zLs} {st : List Value} {N : Nat} {kd kd2 : zD} {iv iv2 : zI} {rf rf2 : zF} {lw : zG} {cells slots : Nat} (h : ∀ (cA : Nat → ClassId) (ad : Nat → Nat) (k : Nat), k < N → zE cA ad (kd k) (iv k) (rf k) (lw k) = zE cA ad (kd2 k) (iv2 k) (rf2 k) (lw k)) (hok : zok N rf2) (kk : zJ X N0 nL pc lv st N kd2 iv2 rf2 lw cells slots) : zJ X N0 nL pc lv st N kd iv rf lw cells slots := by
  obtain ⟨p, l, e, R, s, m, args, below, meth, c, D, cA, A, ad0, Q⟩ := X
  intro ad locs H ls g1 g2 g3 g4 g5 g6 hP hD hS hl
  have ew : zW cA ad N kd iv rf lw = zW cA ad N kd2 iv2 rf2 lw := by
    unfold zW
    apply List.map_congr_left
    intro k hk
    rw [h cA ad k (List.mem_range.mp hk)]
  rw [ew] at hP hD
  exact kk ad locs H ls g1 hok g3 g4 g5 g6 hP hD hS hl
theorem znf_70 (ci : Nat) : znf ci ≤ 70 := by
  unfold znf
  split <;> decide
theorem zE_c {cA : Nat → ClassId} {ad : Nat → Nat} {q : Nat × Nat} {x : Nat → Int32} {r r2 : Nat → Option Nat} {w : Nat → Int64} (h : ∀ j, j < 70 → r j = r2 j) (h3 : q.1 = 3 → r = r2) : zE cA ad q x r w = zE cA ad q x r2 w := by
  match q, h3 with
  | (0, n), _ => rfl
  | (1, n), _ => rfl
  | (2, n), _ => rfl
  | (3, n), h3 => rw [h3 rfl]
  | (ci + 4, n), _ =>
    have e : zobj ad ci x r w = zobj ad ci x r2 w := by
      unfold zobj
      apply List.map_congr_left
      intro j hj
      have hn : znf ci ≤ 70 := znf_70 ci
      rw [h j (by have := List.mem_range.mp hj; omega)]
    show Sum.inr (ci, zobj ad ci x r w) = Sum.inr (ci, zobj ad ci x r2 w)
    rw [e]

set_option maxHeartbeats 2000000 in
set_option maxRecDepth 8000 in
theorem i_hw (kd : zD) (iv : zI) (rf : zF) (lw : zG) (hk : kd 1 = (2 + 4, 0)) (hi : iv 1 = fun _ => 0) (hr : rf 1 = fun _ => none) : zM yX2_init cX2_init 1 none 1 5 36 [.ref 1] 2 kd iv rf lw (zQn 1 7 kd iv rf) := by
  refine zM.of (by decide) (Nat.le_of_ble_eq_true rfl) (fun X C E => ?_)
  change zJ X 2 1 0 [some (.ref 1)] [] 2 kd iv rf lw 0 0
  refine z_aload_n C dX2_init_0 rfl ?_
  refine z_obj C dX2_init_1 zm_X2_3 (by decide) (Nat.le_of_ble_eq_true rfl) ?_
  refine z_aload_n C dX2_init_4 rfl ?_
  refine z_bipush (v := 7) C dX2_init_5 (by decide) ?_
  refine z_newI (n := 7) C dX2_init_7 (by decide) (by decide) (by decide) (by decide) (by decide) (by decide) ?_
  refine z_putRF C dX2_init_9 zf_X2_11 rfl rfl (by decide) hk (by decide) ?_
  refine z_aload_n C dX2_init_12 rfl ?_
  refine z_bipush (v := 7) C dX2_init_13 (by decide) ?_
  refine z_newI (n := 7) C dX2_init_15 (by decide) (by decide) (by decide) (by decide) (by decide) (by decide) ?_
  refine z_putRF C dX2_init_17 zf_X2_15 rfl rfl (by decide) hk (by decide) ?_
  refine z_aload_n C dX2_init_20 rfl ?_
  refine z_bipush (v := 7) C dX2_init_21 (by decide) ?_
  refine z_newI (n := 7) C dX2_init_23 (by decide) (by decide) (by decide) (by decide) (by decide) (by decide) ?_
  refine z_putRF C dX2_init_25 zf_X2_18 rfl rfl (by decide) hk (by decide) ?_
  refine z_aload_n C dX2_init_28 rfl ?_
  refine z_bipush (v := 7) C dX2_init_29 (by decide) ?_
  refine z_newI (n := 7) C dX2_init_31 (by decide) (by decide) (by decide) (by decide) (by decide) (by decide) ?_
  refine z_putRF C dX2_init_33 zf_X2_21 rfl rfl (by decide) hk (by decide) ?_
  refine z_aload_n C dX2_init_36 rfl ?_
  refine z_bipush (v := 8) C dX2_init_37 (by decide) ?_
  refine z_newI (n := 8) C dX2_init_39 (by decide) (by decide) (by decide) (by decide) (by decide) (by decide) ?_
  refine z_putRF C dX2_init_41 zf_X2_24 rfl rfl (by decide) hk (by decide) ?_
  refine z_aload_n C dX2_init_44 rfl ?_
  refine z_iconst (v := 2) C dX2_init_45 (by decide) ?_
  refine z_putI C dX2_init_46 zf_X2_27 hk (by decide) ?_
  refine z_aload_n C dX2_init_49 rfl ?_
  refine z_getR C dX2_init_50 zf_X2_11 hk (by decide) ?_
  change zJ X 2 1 53 [some (.ref 1)] [.ref 2] 7 _ _ _ _ _ _
  refine z_iconst (v := 0) C dX2_init_53 (by decide) ?_
  refine z_iconst (v := 1) C dX2_init_54 (by decide) ?_
  refine z_iast (n := 7) C dX2_init_55 rfl (by decide) ?_ ?_
  · exact vp_in_iff.mpr (by decide)
  refine z_vret C E dX2_init_56 (by decide) (by decide) ?_
  refine ⟨rfl, rfl, fun k hk2 => ⟨?_, ?_, ?_⟩, fun k h1 h2 => ?_⟩
  · repeat (first | rw [va_upn _ _ (by omega)] | rw [zu_n _ _ _ (by omega)] | rw [zuR_n _ _ _ (by omega)])
  · repeat (first | rw [va_upn _ _ (by omega)] | rw [zu_n _ _ _ (by omega)] | rw [zuR_n _ _ _ (by omega)])
  · repeat (first | rw [va_upn _ _ (by omega)] | rw [zu_n _ _ _ (by omega)] | rw [zuR_n _ _ _ (by omega)])
  · have hkk : k = 1 ∨ k = 2 ∨ k = 3 ∨ k = 4 ∨ k = 5 ∨ k = 6 := by omega
    rcases hkk with rfl | rfl | rfl | rfl | rfl | rfl
    · refine ⟨hk, ?_, ?_, fun z => absurd z (by decide)⟩
      · show upd (iv 1) 0 2 = zI0 1
        rw [hi]
        rfl
      · show ∀ j, j < 70 → (va_up (va_up (va_up (va_up (va_up (rf 1) 1 (some 2)) 2 (some 3)) 3 (some 4)) 4 (some 5)) 5 (some 6)) j = srf 0 1 j
        rw [hr]
        decide
    · exact ⟨rfl, rfl, fun j _ => rfl, fun z => absurd z (by decide)⟩
    · exact ⟨rfl, rfl, fun j _ => rfl, fun z => absurd z (by decide)⟩
    · exact ⟨rfl, rfl, fun j _ => rfl, fun z => absurd z (by decide)⟩
    · exact ⟨rfl, rfl, fun j _ => rfl, fun z => absurd z (by decide)⟩
    · exact ⟨rfl, rfl, fun j _ => rfl, fun z => absurd z (by decide)⟩

set_option maxHeartbeats 2000000 in
set_option maxRecDepth 8000 in
theorem i_sb (kd : zD) (iv : zI) (rf : zF) (lw : zG) (hk : kd 7 = (7 + 4, 0)) (hi : iv 7 = fun _ => 0) (hr : rf 7 = fun _ => none) : zM yX7_init cX7_init 1 none 1 3 60 [.ref 7] 8 kd iv rf lw (zQn 7 11 kd iv rf) := by
  refine zM.of (by decide) (Nat.le_of_ble_eq_true rfl) (fun X C E => ?_)
  change zJ X 8 1 0 [some (.ref 7)] [] 8 kd iv rf lw 0 0
  refine z_aload_n C dX7_init_0 rfl ?_
  refine z_obj C dX7_init_1 zm_X7_3 (by decide) (Nat.le_of_ble_eq_true rfl) ?_
  refine z_aload_n C dX7_init_4 rfl ?_
  refine z_bipush (v := 20) C dX7_init_5 (by decide) ?_
  refine z_newI (n := 20) C dX7_init_7 (by decide) (by decide) (by decide) (by decide) (by decide) (by decide) ?_
  refine z_putRF C dX7_init_9 zf_X7_11 rfl rfl (by decide) hk (by decide) ?_
  refine z_aload_n C dX7_init_12 rfl ?_
  refine z_bipush (v := 20) C dX7_init_13 (by decide) ?_
  refine z_newI (n := 20) C dX7_init_15 (by decide) (by decide) (by decide) (by decide) (by decide) (by decide) ?_
  refine z_putRF C dX7_init_17 zf_X7_15 rfl rfl (by decide) hk (by decide) ?_
  refine z_aload_n C dX7_init_20 rfl ?_
  refine z_bipush (v := 20) C dX7_init_21 (by decide) ?_
  refine z_newI (n := 20) C dX7_init_23 (by decide) (by decide) (by decide) (by decide) (by decide) (by decide) ?_
  refine z_putRF C dX7_init_25 zf_X7_18 rfl rfl (by decide) hk (by decide) ?_
  refine z_vret C E dX7_init_28 (by decide) (by decide) ?_
  refine ⟨rfl, rfl, fun k hk2 => ⟨?_, ?_, ?_⟩, fun k h1 h2 => ?_⟩
  · repeat (first | rw [va_upn _ _ (by omega)] | rw [zu_n _ _ _ (by omega)] | rw [zuR_n _ _ _ (by omega)])
  · repeat (first | rw [va_upn _ _ (by omega)] | rw [zu_n _ _ _ (by omega)] | rw [zuR_n _ _ _ (by omega)])
  · repeat (first | rw [va_upn _ _ (by omega)] | rw [zu_n _ _ _ (by omega)] | rw [zuR_n _ _ _ (by omega)])
  · have hkk : k = 7 ∨ k = 8 ∨ k = 9 ∨ k = 10 := by omega
    rcases hkk with rfl | rfl | rfl | rfl
    · refine ⟨hk, ?_, ?_, fun z => absurd z (by decide)⟩
      · show iv 7 = zI0 7
        rw [hi]
        rfl
      · show ∀ j, j < 70 → (va_up (va_up (va_up (rf 7) 1 (some 8)) 2 (some 9)) 3 (some 10)) j = srf 0 7 j
        rw [hr]
        decide
    · exact ⟨rfl, rfl, fun j _ => rfl, fun z => absurd z (by decide)⟩
    · exact ⟨rfl, rfl, fun j _ => rfl, fun z => absurd z (by decide)⟩
    · exact ⟨rfl, rfl, fun j _ => rfl, fun z => absurd z (by decide)⟩

set_option maxHeartbeats 2000000 in
set_option maxRecDepth 8000 in
theorem i_tp (kd : zD) (iv : zI) (rf : zF) (lw : zG) (hk : kd 12 = (8 + 4, 0)) (hi : iv 12 = fun _ => 0) (hr : rf 12 = fun _ => none) : zM yX8_init cX8_init 1 none 1 1 800 [.ref 12] 13 kd iv rf lw (zQn 12 14 kd iv rf) := by
  refine zM.of (by decide) (Nat.le_of_ble_eq_true rfl) (fun X C E => ?_)
  change zJ X 13 1 0 [some (.ref 12)] [] 13 kd iv rf lw 0 0
  refine z_aload_n C dX8_init_0 rfl ?_
  refine z_obj C dX8_init_1 zm_X8_1 (by decide) (Nat.le_of_ble_eq_true rfl) ?_
  refine z_aload_n C dX8_init_4 rfl ?_
  refine z_sipush (v := 800) C dX8_init_5 (by decide) ?_
  refine z_newB (n := 800) C dX8_init_8 (by decide) (by decide) (by decide) (by decide) (by decide) (by decide) ?_
  refine z_putRF C dX8_init_10 zf_X8_9 rfl rfl (by decide) hk (by decide) ?_
  refine z_vret C E dX8_init_13 (by decide) (by decide) ?_
  refine ⟨rfl, rfl, fun k hk2 => ⟨?_, ?_, ?_⟩, fun k h1 h2 => ?_⟩
  · repeat (first | rw [va_upn _ _ (by omega)] | rw [zu_n _ _ _ (by omega)] | rw [zuR_n _ _ _ (by omega)])
  · repeat (first | rw [va_upn _ _ (by omega)] | rw [zu_n _ _ _ (by omega)] | rw [zuR_n _ _ _ (by omega)])
  · repeat (first | rw [va_upn _ _ (by omega)] | rw [zu_n _ _ _ (by omega)] | rw [zuR_n _ _ _ (by omega)])
  · have hkk : k = 12 ∨ k = 13 := by omega
    rcases hkk with rfl | rfl
    · refine ⟨hk, ?_, ?_, fun z => absurd z (by decide)⟩
      · show iv 12 = zI0 12
        rw [hi]
        rfl
      · show ∀ j, j < 70 → (va_up (rf 12) 0 (some 13)) j = srf 0 12 j
        rw [hr]
        decide
    · exact ⟨rfl, rfl, fun j _ => rfl, fun z => absurd z (by decide)⟩

set_option maxHeartbeats 2000000 in
set_option maxRecDepth 8000 in
theorem i_sc (kd : zD) (iv : zI) (rf : zF) (lw : zG) (hk : kd 15 = (6 + 4, 0)) (hi : iv 15 = fun _ => 0) (hr : rf 15 = fun _ => none) : zM yX6_init cX6_init 2 none 1 2 1602 [.ref 15, .ref 13] 16 kd iv rf lw (zQn 15 18 kd iv rf) := by
  refine zM.of (by decide) (Nat.le_of_ble_eq_true rfl) (fun X C E => ?_)
  change zJ X 16 2 0 [some (.ref 15), some (.ref 13)] [] 16 kd iv rf lw 0 0
  refine z_aload_n C dX6_init_0 rfl ?_
  refine z_obj C dX6_init_1 zm_X6_3 (by decide) (Nat.le_of_ble_eq_true rfl) ?_
  refine z_aload_n C dX6_init_4 rfl ?_
  refine z_aload_n C dX6_init_5 rfl ?_
  refine z_putRF C dX6_init_6 zf_X6_9 rfl rfl (by decide) hk (by decide) ?_
  refine z_aload_n C dX6_init_9 rfl ?_
  refine z_sipush (v := 801) C dX6_init_10 (by decide) ?_
  refine z_newI (n := 801) C dX6_init_13 (by decide) (by decide) (by decide) (by decide) (by decide) (by decide) ?_
  refine z_putRF C dX6_init_15 zf_X6_15 rfl rfl (by decide) hk (by decide) ?_
  refine z_aload_n C dX6_init_18 rfl ?_
  refine z_sipush (v := 801) C dX6_init_19 (by decide) ?_
  refine z_newI (n := 801) C dX6_init_22 (by decide) (by decide) (by decide) (by decide) (by decide) (by decide) ?_
  refine z_putRF C dX6_init_24 zf_X6_19 rfl rfl (by decide) hk (by decide) ?_
  refine z_vret C E dX6_init_27 (by decide) (by decide) ?_
  refine ⟨rfl, rfl, fun k hk2 => ⟨?_, ?_, ?_⟩, fun k h1 h2 => ?_⟩
  · repeat (first | rw [va_upn _ _ (by omega)] | rw [zu_n _ _ _ (by omega)] | rw [zuR_n _ _ _ (by omega)])
  · repeat (first | rw [va_upn _ _ (by omega)] | rw [zu_n _ _ _ (by omega)] | rw [zuR_n _ _ _ (by omega)])
  · repeat (first | rw [va_upn _ _ (by omega)] | rw [zu_n _ _ _ (by omega)] | rw [zuR_n _ _ _ (by omega)])
  · have hkk : k = 15 ∨ k = 16 ∨ k = 17 := by omega
    rcases hkk with rfl | rfl | rfl
    · refine ⟨hk, ?_, ?_, fun z => absurd z (by decide)⟩
      · show iv 15 = zI0 15
        rw [hi]
        rfl
      · show ∀ j, j < 70 → (va_up (va_up (va_up (rf 15) 0 (some 13)) 4 (some 16)) 5 (some 17)) j = srf 0 15 j
        rw [hr]
        decide
    · exact ⟨rfl, rfl, fun j _ => rfl, fun z => absurd z (by decide)⟩
    · exact ⟨rfl, rfl, fun j _ => rfl, fun z => absurd z (by decide)⟩

set_option maxHeartbeats 2000000 in
set_option maxRecDepth 8000 in
theorem i_dr (kd : zD) (iv : zI) (rf : zF) (lw : zG) (hk : kd 18 = (1 + 4, 0)) (hi : iv 18 = fun _ => 0) (hr : rf 18 = fun _ => none) : zM yX1_init cX1_init 1 none 1 4 520 [.ref 18] 19 kd iv rf lw (zQn 18 23 kd iv rf) := by
  refine zM.of (by decide) (Nat.le_of_ble_eq_true rfl) (fun X C E => ?_)
  change zJ X 19 1 0 [some (.ref 18)] [] 19 kd iv rf lw 0 0
  refine z_aload_n C dX1_init_0 rfl ?_
  refine z_obj C dX1_init_1 zm_X1_1 (by decide) (Nat.le_of_ble_eq_true rfl) ?_
  refine z_aload_n C dX1_init_4 rfl ?_
  refine z_bipush (v := 10) C dX1_init_5 (by decide) ?_
  refine z_newI (n := 10) C dX1_init_7 (by decide) (by decide) (by decide) (by decide) (by decide) (by decide) ?_
  refine z_putRF C dX1_init_9 zf_X1_9 rfl rfl (by decide) hk (by decide) ?_
  refine z_aload_n C dX1_init_12 rfl ?_
  refine z_bipush (v := 10) C dX1_init_13 (by decide) ?_
  refine z_newI (n := 10) C dX1_init_15 (by decide) (by decide) (by decide) (by decide) (by decide) (by decide) ?_
  refine z_putRF C dX1_init_17 zf_X1_13 rfl rfl (by decide) hk (by decide) ?_
  refine z_aload_n C dX1_init_20 rfl ?_
  refine z_sipush (v := 400) C dX1_init_21 (by decide) ?_
  refine z_newI (n := 400) C dX1_init_24 (by decide) (by decide) (by decide) (by decide) (by decide) (by decide) ?_
  refine z_putRF C dX1_init_26 zf_X1_16 rfl rfl (by decide) hk (by decide) ?_
  refine z_aload_n C dX1_init_29 rfl ?_
  refine z_bipush (v := 100) C dX1_init_30 (by decide) ?_
  refine z_newI (n := 100) C dX1_init_32 (by decide) (by decide) (by decide) (by decide) (by decide) (by decide) ?_
  refine z_putRF C dX1_init_34 zf_X1_19 rfl rfl (by decide) hk (by decide) ?_
  refine z_vret C E dX1_init_37 (by decide) (by decide) ?_
  refine ⟨rfl, rfl, fun k hk2 => ⟨?_, ?_, ?_⟩, fun k h1 h2 => ?_⟩
  · repeat (first | rw [va_upn _ _ (by omega)] | rw [zu_n _ _ _ (by omega)] | rw [zuR_n _ _ _ (by omega)])
  · repeat (first | rw [va_upn _ _ (by omega)] | rw [zu_n _ _ _ (by omega)] | rw [zuR_n _ _ _ (by omega)])
  · repeat (first | rw [va_upn _ _ (by omega)] | rw [zu_n _ _ _ (by omega)] | rw [zuR_n _ _ _ (by omega)])
  · have hkk : k = 18 ∨ k = 19 ∨ k = 20 ∨ k = 21 ∨ k = 22 := by omega
    rcases hkk with rfl | rfl | rfl | rfl | rfl
    · refine ⟨hk, ?_, ?_, fun z => absurd z (by decide)⟩
      · show iv 18 = zI0 18
        rw [hi]
        rfl
      · show ∀ j, j < 70 → (va_up (va_up (va_up (va_up (rf 18) 1 (some 19)) 2 (some 20)) 4 (some 21)) 5 (some 22)) j = srf 0 18 j
        rw [hr]
        decide
    · exact ⟨rfl, rfl, fun j _ => rfl, fun z => absurd z (by decide)⟩
    · exact ⟨rfl, rfl, fun j _ => rfl, fun z => absurd z (by decide)⟩
    · exact ⟨rfl, rfl, fun j _ => rfl, fun z => absurd z (by decide)⟩
    · exact ⟨rfl, rfl, fun j _ => rfl, fun z => absurd z (by decide)⟩

set_option maxHeartbeats 2000000 in
set_option maxRecDepth 8000 in
theorem i_gd (kd : zD) (iv : zI) (rf : zF) (lw : zG) (hk : kd 23 = (1 + 4, 0)) (hi : iv 23 = fun _ => 0) (hr : rf 23 = fun _ => none) : zM yX1_init cX1_init 1 none 1 4 520 [.ref 23] 24 kd iv rf lw (zQn 23 28 kd iv rf) := by
  refine zM.of (by decide) (Nat.le_of_ble_eq_true rfl) (fun X C E => ?_)
  change zJ X 24 1 0 [some (.ref 23)] [] 24 kd iv rf lw 0 0
  refine z_aload_n C dX1_init_0 rfl ?_
  refine z_obj C dX1_init_1 zm_X1_1 (by decide) (Nat.le_of_ble_eq_true rfl) ?_
  refine z_aload_n C dX1_init_4 rfl ?_
  refine z_bipush (v := 10) C dX1_init_5 (by decide) ?_
  refine z_newI (n := 10) C dX1_init_7 (by decide) (by decide) (by decide) (by decide) (by decide) (by decide) ?_
  refine z_putRF C dX1_init_9 zf_X1_9 rfl rfl (by decide) hk (by decide) ?_
  refine z_aload_n C dX1_init_12 rfl ?_
  refine z_bipush (v := 10) C dX1_init_13 (by decide) ?_
  refine z_newI (n := 10) C dX1_init_15 (by decide) (by decide) (by decide) (by decide) (by decide) (by decide) ?_
  refine z_putRF C dX1_init_17 zf_X1_13 rfl rfl (by decide) hk (by decide) ?_
  refine z_aload_n C dX1_init_20 rfl ?_
  refine z_sipush (v := 400) C dX1_init_21 (by decide) ?_
  refine z_newI (n := 400) C dX1_init_24 (by decide) (by decide) (by decide) (by decide) (by decide) (by decide) ?_
  refine z_putRF C dX1_init_26 zf_X1_16 rfl rfl (by decide) hk (by decide) ?_
  refine z_aload_n C dX1_init_29 rfl ?_
  refine z_bipush (v := 100) C dX1_init_30 (by decide) ?_
  refine z_newI (n := 100) C dX1_init_32 (by decide) (by decide) (by decide) (by decide) (by decide) (by decide) ?_
  refine z_putRF C dX1_init_34 zf_X1_19 rfl rfl (by decide) hk (by decide) ?_
  refine z_vret C E dX1_init_37 (by decide) (by decide) ?_
  refine ⟨rfl, rfl, fun k hk2 => ⟨?_, ?_, ?_⟩, fun k h1 h2 => ?_⟩
  · repeat (first | rw [va_upn _ _ (by omega)] | rw [zu_n _ _ _ (by omega)] | rw [zuR_n _ _ _ (by omega)])
  · repeat (first | rw [va_upn _ _ (by omega)] | rw [zu_n _ _ _ (by omega)] | rw [zuR_n _ _ _ (by omega)])
  · repeat (first | rw [va_upn _ _ (by omega)] | rw [zu_n _ _ _ (by omega)] | rw [zuR_n _ _ _ (by omega)])
  · have hkk : k = 23 ∨ k = 24 ∨ k = 25 ∨ k = 26 ∨ k = 27 := by omega
    rcases hkk with rfl | rfl | rfl | rfl | rfl
    · refine ⟨hk, ?_, ?_, fun z => absurd z (by decide)⟩
      · show iv 23 = zI0 23
        rw [hi]
        rfl
      · show ∀ j, j < 70 → (va_up (va_up (va_up (va_up (rf 23) 1 (some 24)) 2 (some 25)) 4 (some 26)) 5 (some 27)) j = srf 0 23 j
        rw [hr]
        decide
    · exact ⟨rfl, rfl, fun j _ => rfl, fun z => absurd z (by decide)⟩
    · exact ⟨rfl, rfl, fun j _ => rfl, fun z => absurd z (by decide)⟩
    · exact ⟨rfl, rfl, fun j _ => rfl, fun z => absurd z (by decide)⟩
    · exact ⟨rfl, rfl, fun j _ => rfl, fun z => absurd z (by decide)⟩

set_option maxHeartbeats 2000000 in
set_option maxRecDepth 8000 in
theorem i_pl (kd : zD) (iv : zI) (rf : zF) (lw : zG) (hk : kd 29 = (4 + 4, 0)) (hi : iv 29 = fun _ => 0) (hr : rf 29 = fun _ => none) : zM yX4_init cX4_init 1 none 1 5 120 [.ref 29] 30 kd iv rf lw (zQn 29 35 kd iv rf) := by
  refine zM.of (by decide) (Nat.le_of_ble_eq_true rfl) (fun X C E => ?_)
  change zJ X 30 1 0 [some (.ref 29)] [] 30 kd iv rf lw 0 0
  refine z_aload_n C dX4_init_0 rfl ?_
  refine z_obj C dX4_init_1 zm_X4_3 (by decide) (Nat.le_of_ble_eq_true rfl) ?_
  refine z_aload_n C dX4_init_4 rfl ?_
  refine z_bipush (v := 24) C dX4_init_5 (by decide) ?_
  refine z_newI (n := 24) C dX4_init_7 (by decide) (by decide) (by decide) (by decide) (by decide) (by decide) ?_
  refine z_putRF C dX4_init_9 zf_X4_11 rfl rfl (by decide) hk (by decide) ?_
  refine z_aload_n C dX4_init_12 rfl ?_
  refine z_bipush (v := 24) C dX4_init_13 (by decide) ?_
  refine z_newI (n := 24) C dX4_init_15 (by decide) (by decide) (by decide) (by decide) (by decide) (by decide) ?_
  refine z_putRF C dX4_init_17 zf_X4_15 rfl rfl (by decide) hk (by decide) ?_
  refine z_aload_n C dX4_init_20 rfl ?_
  refine z_bipush (v := 24) C dX4_init_21 (by decide) ?_
  refine z_newZ (n := 24) C dX4_init_23 (by decide) (by decide) (by decide) (by decide) (by decide) (by decide) ?_
  refine z_putRF C dX4_init_25 zf_X4_18 rfl rfl (by decide) hk (by decide) ?_
  refine z_aload_n C dX4_init_28 rfl ?_
  refine z_bipush (v := 24) C dX4_init_29 (by decide) ?_
  refine z_newZ (n := 24) C dX4_init_31 (by decide) (by decide) (by decide) (by decide) (by decide) (by decide) ?_
  refine z_putRF C dX4_init_33 zf_X4_22 rfl rfl (by decide) hk (by decide) ?_
  refine z_aload_n C dX4_init_36 rfl ?_
  refine z_bipush (v := 24) C dX4_init_37 (by decide) ?_
  refine z_newZ (n := 24) C dX4_init_39 (by decide) (by decide) (by decide) (by decide) (by decide) (by decide) ?_
  refine z_putRF C dX4_init_41 zf_X4_25 rfl rfl (by decide) hk (by decide) ?_
  refine z_vret C E dX4_init_44 (by decide) (by decide) ?_
  refine ⟨rfl, rfl, fun k hk2 => ⟨?_, ?_, ?_⟩, fun k h1 h2 => ?_⟩
  · repeat (first | rw [va_upn _ _ (by omega)] | rw [zu_n _ _ _ (by omega)] | rw [zuR_n _ _ _ (by omega)])
  · repeat (first | rw [va_upn _ _ (by omega)] | rw [zu_n _ _ _ (by omega)] | rw [zuR_n _ _ _ (by omega)])
  · repeat (first | rw [va_upn _ _ (by omega)] | rw [zu_n _ _ _ (by omega)] | rw [zuR_n _ _ _ (by omega)])
  · have hkk : k = 29 ∨ k = 30 ∨ k = 31 ∨ k = 32 ∨ k = 33 ∨ k = 34 := by omega
    rcases hkk with rfl | rfl | rfl | rfl | rfl | rfl
    · refine ⟨hk, ?_, ?_, fun z => absurd z (by decide)⟩
      · show iv 29 = zI0 29
        rw [hi]
        rfl
      · show ∀ j, j < 70 → (va_up (va_up (va_up (va_up (va_up (rf 29) 1 (some 30)) 2 (some 31)) 3 (some 32)) 4 (some 33)) 5 (some 34)) j = srf 0 29 j
        rw [hr]
        decide
    · exact ⟨rfl, rfl, fun j _ => rfl, fun z => absurd z (by decide)⟩
    · exact ⟨rfl, rfl, fun j _ => rfl, fun z => absurd z (by decide)⟩
    · exact ⟨rfl, rfl, fun j _ => rfl, fun z => absurd z (by decide)⟩
    · exact ⟨rfl, rfl, fun j _ => rfl, fun z => absurd z (by decide)⟩
    · exact ⟨rfl, rfl, fun j _ => rfl, fun z => absurd z (by decide)⟩

set_option maxHeartbeats 2000000 in
set_option maxRecDepth 8000 in
theorem i_lg (kd : zD) (iv : zI) (rf : zF) (lw : zG) (hk : kd 35 = (3 + 4, 0)) (hi : iv 35 = fun _ => 0) (hr : rf 35 = fun _ => none) : zM yX3_init cX3_init 1 none 1 5 500 [.ref 35] 36 kd iv rf lw (zQn 35 41 kd iv rf) := by
  refine zM.of (by decide) (Nat.le_of_ble_eq_true rfl) (fun X C E => ?_)
  change zJ X 36 1 0 [some (.ref 35)] [] 36 kd iv rf lw 0 0
  refine z_aload_n C dX3_init_0 rfl ?_
  refine z_obj C dX3_init_1 zm_X3_3 (by decide) (Nat.le_of_ble_eq_true rfl) ?_
  refine z_aload_n C dX3_init_4 rfl ?_
  refine z_bipush (v := 100) C dX3_init_5 (by decide) ?_
  refine z_newI (n := 100) C dX3_init_7 (by decide) (by decide) (by decide) (by decide) (by decide) (by decide) ?_
  refine z_putRF C dX3_init_9 zf_X3_11 rfl rfl (by decide) hk (by decide) ?_
  refine z_aload_n C dX3_init_12 rfl ?_
  refine z_bipush (v := 100) C dX3_init_13 (by decide) ?_
  refine z_newI (n := 100) C dX3_init_15 (by decide) (by decide) (by decide) (by decide) (by decide) (by decide) ?_
  refine z_putRF C dX3_init_17 zf_X3_15 rfl rfl (by decide) hk (by decide) ?_
  refine z_aload_n C dX3_init_20 rfl ?_
  refine z_bipush (v := 100) C dX3_init_21 (by decide) ?_
  refine z_newI (n := 100) C dX3_init_23 (by decide) (by decide) (by decide) (by decide) (by decide) (by decide) ?_
  refine z_putRF C dX3_init_25 zf_X3_18 rfl rfl (by decide) hk (by decide) ?_
  refine z_aload_n C dX3_init_28 rfl ?_
  refine z_bipush (v := 100) C dX3_init_29 (by decide) ?_
  refine z_newI (n := 100) C dX3_init_31 (by decide) (by decide) (by decide) (by decide) (by decide) (by decide) ?_
  refine z_putRF C dX3_init_33 zf_X3_21 rfl rfl (by decide) hk (by decide) ?_
  refine z_aload_n C dX3_init_36 rfl ?_
  refine z_bipush (v := 100) C dX3_init_37 (by decide) ?_
  refine z_newI (n := 100) C dX3_init_39 (by decide) (by decide) (by decide) (by decide) (by decide) (by decide) ?_
  refine z_putRF C dX3_init_41 zf_X3_24 rfl rfl (by decide) hk (by decide) ?_
  refine z_vret C E dX3_init_44 (by decide) (by decide) ?_
  refine ⟨rfl, rfl, fun k hk2 => ⟨?_, ?_, ?_⟩, fun k h1 h2 => ?_⟩
  · repeat (first | rw [va_upn _ _ (by omega)] | rw [zu_n _ _ _ (by omega)] | rw [zuR_n _ _ _ (by omega)])
  · repeat (first | rw [va_upn _ _ (by omega)] | rw [zu_n _ _ _ (by omega)] | rw [zuR_n _ _ _ (by omega)])
  · repeat (first | rw [va_upn _ _ (by omega)] | rw [zu_n _ _ _ (by omega)] | rw [zuR_n _ _ _ (by omega)])
  · have hkk : k = 35 ∨ k = 36 ∨ k = 37 ∨ k = 38 ∨ k = 39 ∨ k = 40 := by omega
    rcases hkk with rfl | rfl | rfl | rfl | rfl | rfl
    · refine ⟨hk, ?_, ?_, fun z => absurd z (by decide)⟩
      · show iv 35 = zI0 35
        rw [hi]
        rfl
      · show ∀ j, j < 70 → (va_up (va_up (va_up (va_up (va_up (rf 35) 1 (some 36)) 2 (some 37)) 3 (some 38)) 4 (some 39)) 5 (some 40)) j = srf 0 35 j
        rw [hr]
        decide
    · exact ⟨rfl, rfl, fun j _ => rfl, fun z => absurd z (by decide)⟩
    · exact ⟨rfl, rfl, fun j _ => rfl, fun z => absurd z (by decide)⟩
    · exact ⟨rfl, rfl, fun j _ => rfl, fun z => absurd z (by decide)⟩
    · exact ⟨rfl, rfl, fun j _ => rfl, fun z => absurd z (by decide)⟩
    · exact ⟨rfl, rfl, fun j _ => rfl, fun z => absurd z (by decide)⟩

set_option maxHeartbeats 4000000 in
set_option maxRecDepth 8000 in
theorem i_rd (kd : zD) (iv : zI) (rf : zF) (lw : zG) (hk : kd 14 = (5 + 4, 0)) (hi : iv 14 = fun _ => 0) (hr : rf 14 = fun _ => none) : zM yX5_init cX5_init 2 none 2 8 2134 [.ref 14, .ref 13] 15 kd iv rf lw (zQn 14 23 kd iv rf) := by
  refine zM.of (by decide) (Nat.le_of_ble_eq_true rfl) (fun X C E => ?_)
  change zJ X 15 2 0 [some (.ref 14), some (.ref 13)] [] 15 kd iv rf lw 0 0
  refine z_aload_n C dX5_init_0 rfl ?_
  refine z_obj C dX5_init_1 zm_X5_3 (by decide) (Nat.le_of_ble_eq_true rfl) ?_
  refine z_aload_n C dX5_init_4 rfl ?_
  refine z_new C dX5_init_5 zl_X5_9 zc_6 (by decide) (by decide) (by decide) (by decide) ?_
  refine z_dup C dX5_init_8 rfl ?_
  refine z_aload_n C dX5_init_9 rfl ?_
  refine z_callI C dX5_init_10 zm_X5_11 zyX6_init (i_sc _ _ _ _ rfl rfl rfl) (by decide) rfl rfl (Nat.le_of_ble_eq_true rfl) (by decide) (by decide) (fun v10 N10 kd10 iv10 rf10 lw10 hq10 => ?_)
  obtain ⟨rfl, rfl, hu10, hn10⟩ := hq10
  have hk_10 : kd10 14 = (5 + 4, 0) := (hu10 14 (by decide)).1.trans hk
  have hi_10 : iv10 14 = fun _ => 0 := (hu10 14 (by decide)).2.1.trans hi
  have hr_10 : rf10 14 = fun _ => none := (hu10 14 (by decide)).2.2.trans (by show rf 14 = _; rw [hr])
  refine z_putRF C dX5_init_13 zf_X5_14 rfl rfl (by decide) hk_10 (by decide) ?_
  refine z_aload_n C dX5_init_16 rfl ?_
  refine z_new C dX5_init_17 zl_X5_20 zc_1 (by decide) (by decide) (by decide) (by decide) ?_
  refine z_dup C dX5_init_20 rfl ?_
  refine z_callI C dX5_init_21 zm_X5_22 zyX1_init (i_dr _ _ _ _ rfl rfl rfl) (by decide) rfl rfl (Nat.le_of_ble_eq_true rfl) (by decide) (by decide) (fun v21 N21 kd21 iv21 rf21 lw21 hq21 => ?_)
  obtain ⟨rfl, rfl, hu21, hn21⟩ := hq21
  have hn10_21 : zIn 15 18 kd21 iv21 rf21 := hn10.o (fun k h1 h2 => ⟨(hu21 k (by omega)).1.trans (by first | rfl | (repeat (first | rw [va_upn _ _ (by omega)] | rw [zu_n _ _ _ (by omega)] | rw [zuR_n _ _ _ (by omega)]))), (hu21 k (by omega)).2.1.trans (by first | rfl | (repeat (first | rw [va_upn _ _ (by omega)] | rw [zu_n _ _ _ (by omega)] | rw [zuR_n _ _ _ (by omega)]))), (hu21 k (by omega)).2.2.trans (by first | rfl | (repeat (first | rw [va_upn _ _ (by omega)] | rw [zu_n _ _ _ (by omega)] | rw [zuR_n _ _ _ (by omega)])))⟩)
  have hk_21 : kd21 14 = (5 + 4, 0) := (hu21 14 (by decide)).1.trans hk_10
  have hi_21 : iv21 14 = fun _ => 0 := (hu21 14 (by decide)).2.1.trans hi_10
  have hr_21 : rf21 14 = va_up (fun _ => none) 0 (some 15) := (hu21 14 (by decide)).2.2.trans (by show va_up (rf10 14) 0 (some 15) = _; rw [hr_10])
  refine z_putRF C dX5_init_24 zf_X5_23 rfl rfl (by decide) hk_21 (by decide) ?_
  refine z_aload_n C dX5_init_27 rfl ?_
  refine z_iconst (v := (-1)) C dX5_init_28 (by decide) ?_
  refine z_putI C dX5_init_29 zf_X5_27 hk_21 (by decide) ?_
  refine z_vret C E dX5_init_32 (by decide) (by decide) ?_
  refine ⟨rfl, rfl, fun k hk2 => ⟨?_, ?_, ?_⟩, ?_⟩
  · repeat (first | rw [va_upn _ _ (by omega)] | rw [zu_n _ _ _ (by omega)] | rw [zuR_n _ _ _ (by omega)] | rw [(hu10 k (by omega)).1] | rw [(hu21 k (by omega)).1])
  · repeat (first | rw [va_upn _ _ (by omega)] | rw [zu_n _ _ _ (by omega)] | rw [zuR_n _ _ _ (by omega)] | rw [(hu10 k (by omega)).2.1] | rw [(hu21 k (by omega)).2.1])
  · repeat (first | rw [va_upn _ _ (by omega)] | rw [zu_n _ _ _ (by omega)] | rw [zuR_n _ _ _ (by omega)] | rw [(hu10 k (by omega)).2.2] | rw [(hu21 k (by omega)).2.2])
  · have s0 : zIn 14 15 kd21 (zu iv21 14 6 (-1)) (zuR rf21 14 1 (some 18)) := fun k h1 h2 => by
      have hkk : k = 14 := by omega
      subst hkk
      refine ⟨hk_21, ?_, ?_, fun z => absurd z (by decide)⟩
      · show upd (iv21 14) 6 (-1) = zI0 14
        rw [hi_21]
        rfl
      · show ∀ j, j < 70 → (va_up (rf21 14) 1 (some 18)) j = srf 0 14 j
        rw [hr_21]
        decide
    have s1 : zIn 15 18 kd21 (zu iv21 14 6 (-1)) (zuR rf21 14 1 (some 18)) := hn10_21.o (fun k h1 h2 => ⟨(by first | rfl | (repeat (first | rw [va_upn _ _ (by omega)] | rw [zu_n _ _ _ (by omega)] | rw [zuR_n _ _ _ (by omega)]))), (by first | rfl | (repeat (first | rw [va_upn _ _ (by omega)] | rw [zu_n _ _ _ (by omega)] | rw [zuR_n _ _ _ (by omega)]))), (by first | rfl | (repeat (first | rw [va_upn _ _ (by omega)] | rw [zu_n _ _ _ (by omega)] | rw [zuR_n _ _ _ (by omega)])))⟩)
    have s2 : zIn 18 23 kd21 (zu iv21 14 6 (-1)) (zuR rf21 14 1 (some 18)) := hn21.o (fun k h1 h2 => ⟨(by first | rfl | (repeat (first | rw [va_upn _ _ (by omega)] | rw [zu_n _ _ _ (by omega)] | rw [zuR_n _ _ _ (by omega)]))), (by first | rfl | (repeat (first | rw [va_upn _ _ (by omega)] | rw [zu_n _ _ _ (by omega)] | rw [zuR_n _ _ _ (by omega)]))), (by first | rfl | (repeat (first | rw [va_upn _ _ (by omega)] | rw [zu_n _ _ _ (by omega)] | rw [zuR_n _ _ _ (by omega)])))⟩)
    exact ((s0).app s1).app s2

set_option maxHeartbeats 4000000 in
set_option maxRecDepth 8000 in
theorem i_x (kd : zD) (iv : zI) (rf : zF) (lw : zG) (hk : kd 0 = (9 + 4, 0)) (hi : iv 0 = fun _ => 0) (hr : rf 0 = fun _ => none) : zM yX9_init cX9_init 1 none 3 40 4225 [.ref 0] 1 kd iv rf lw (zQn 0 41 kd iv rf) := by
  refine zM.of (by decide) (Nat.le_of_ble_eq_true rfl) (fun X C E => ?_)
  change zJ X 1 1 0 [some (.ref 0)] [] 1 kd iv rf lw 0 0
  refine z_aload_n C dX9_init_0 rfl ?_
  refine z_obj C dX9_init_1 zm_X9_1 (by decide) (Nat.le_of_ble_eq_true rfl) ?_
  refine z_aload_n C dX9_init_4 rfl ?_
  refine z_new C dX9_init_5 zl_X9_7 zc_2 (by decide) (by decide) (by decide) (by decide) ?_
  refine z_dup C dX9_init_8 rfl ?_
  refine z_callI C dX9_init_9 zm_X9_9 zyX2_init (i_hw _ _ _ _ rfl rfl rfl) (by decide) rfl rfl (Nat.le_of_ble_eq_true rfl) (by decide) (by decide) (fun v9 N9 kd9 iv9 rf9 lw9 hq9 => ?_)
  obtain ⟨rfl, rfl, hu9, hn9⟩ := hq9
  have hk_9 : kd9 0 = (9 + 4, 0) := (hu9 0 (by decide)).1.trans hk
  have hi_9 : iv9 0 = fun _ => 0 := (hu9 0 (by decide)).2.1.trans hi
  have hr_9 : rf9 0 = fun _ => none := (hu9 0 (by decide)).2.2.trans (by show rf 0 = _; rw [hr])
  refine z_putRF C dX9_init_12 zf_X9_10 rfl rfl (by decide) hk_9 (by decide) ?_
  refine z_aload_n C dX9_init_15 rfl ?_
  refine z_new C dX9_init_16 zl_X9_16 zc_7 (by decide) (by decide) (by decide) (by decide) ?_
  refine z_dup C dX9_init_19 rfl ?_
  refine z_callI C dX9_init_20 zm_X9_18 zyX7_init (i_sb _ _ _ _ rfl rfl rfl) (by decide) rfl rfl (Nat.le_of_ble_eq_true rfl) (by decide) (by decide) (fun v20 N20 kd20 iv20 rf20 lw20 hq20 => ?_)
  obtain ⟨rfl, rfl, hu20, hn20⟩ := hq20
  have hn9_20 : zIn 1 7 kd20 iv20 rf20 := hn9.o (fun k h1 h2 => ⟨(hu20 k (by omega)).1.trans (by first | rfl | (repeat (first | rw [va_upn _ _ (by omega)] | rw [zu_n _ _ _ (by omega)] | rw [zuR_n _ _ _ (by omega)]))), (hu20 k (by omega)).2.1.trans (by first | rfl | (repeat (first | rw [va_upn _ _ (by omega)] | rw [zu_n _ _ _ (by omega)] | rw [zuR_n _ _ _ (by omega)]))), (hu20 k (by omega)).2.2.trans (by first | rfl | (repeat (first | rw [va_upn _ _ (by omega)] | rw [zu_n _ _ _ (by omega)] | rw [zuR_n _ _ _ (by omega)])))⟩)
  have hk_20 : kd20 0 = (9 + 4, 0) := (hu20 0 (by decide)).1.trans hk_9
  have hi_20 : iv20 0 = fun _ => 0 := (hu20 0 (by decide)).2.1.trans hi_9
  have hr_20 : rf20 0 = va_up (fun _ => none) 0 (some 1) := (hu20 0 (by decide)).2.2.trans (by show va_up (rf9 0) 0 (some 1) = _; rw [hr_9])
  refine z_putRF C dX9_init_23 zf_X9_19 rfl rfl (by decide) hk_20 (by decide) ?_
  refine z_aload_n C dX9_init_26 rfl ?_
  refine z_bipush (v := 8) C dX9_init_27 (by decide) ?_
  refine z_newq (n := 8) C dX9_init_29 zl_X9_23 (by decide) (by decide) (by decide) (by decide) (by decide) (by decide) ?_
  refine z_putRF C dX9_init_32 zf_X9_25 rfl rfl (by decide) hk_20 (by decide) ?_
  refine z_aload_n C dX9_init_35 rfl ?_
  refine z_new C dX9_init_36 zl_X9_29 zc_8 (by decide) (by decide) (by decide) (by decide) ?_
  refine z_dup C dX9_init_39 rfl ?_
  refine z_callI C dX9_init_40 zm_X9_31 zyX8_init (i_tp _ _ _ _ rfl rfl rfl) (by decide) rfl rfl (Nat.le_of_ble_eq_true rfl) (by decide) (by decide) (fun v40 N40 kd40 iv40 rf40 lw40 hq40 => ?_)
  obtain ⟨rfl, rfl, hu40, hn40⟩ := hq40
  have hn9_20_40 : zIn 1 7 kd40 iv40 rf40 := hn9_20.o (fun k h1 h2 => ⟨(hu40 k (by omega)).1.trans (by first | rfl | (repeat (first | rw [va_upn _ _ (by omega)] | rw [zu_n _ _ _ (by omega)] | rw [zuR_n _ _ _ (by omega)]))), (hu40 k (by omega)).2.1.trans (by first | rfl | (repeat (first | rw [va_upn _ _ (by omega)] | rw [zu_n _ _ _ (by omega)] | rw [zuR_n _ _ _ (by omega)]))), (hu40 k (by omega)).2.2.trans (by first | rfl | (repeat (first | rw [va_upn _ _ (by omega)] | rw [zu_n _ _ _ (by omega)] | rw [zuR_n _ _ _ (by omega)])))⟩)
  have hn20_40 : zIn 7 11 kd40 iv40 rf40 := hn20.o (fun k h1 h2 => ⟨(hu40 k (by omega)).1.trans (by first | rfl | (repeat (first | rw [va_upn _ _ (by omega)] | rw [zu_n _ _ _ (by omega)] | rw [zuR_n _ _ _ (by omega)]))), (hu40 k (by omega)).2.1.trans (by first | rfl | (repeat (first | rw [va_upn _ _ (by omega)] | rw [zu_n _ _ _ (by omega)] | rw [zuR_n _ _ _ (by omega)]))), (hu40 k (by omega)).2.2.trans (by first | rfl | (repeat (first | rw [va_upn _ _ (by omega)] | rw [zu_n _ _ _ (by omega)] | rw [zuR_n _ _ _ (by omega)])))⟩)
  have ha11 : zIn 11 12 kd40 iv40 rf40 := fun k h1 h2 => by
    have hkk : k = 11 := by omega
    subst hkk
    obtain ⟨q1, q2, q3⟩ := hu40 11 (by decide)
    rw [q1, q2, q3]
    exact ⟨rfl, rfl, fun j _ => rfl, fun _ => by funext j; rfl⟩
  have hk_40 : kd40 0 = (9 + 4, 0) := (hu40 0 (by decide)).1.trans hk_20
  have hi_40 : iv40 0 = fun _ => 0 := (hu40 0 (by decide)).2.1.trans hi_20
  have hr_40 : rf40 0 = va_up (va_up (va_up (fun _ => none) 0 (some 1)) 1 (some 7)) 2 (some 11) := (hu40 0 (by decide)).2.2.trans (by show va_up (va_up (rf20 0) 1 (some 7)) 2 (some 11) = _; rw [hr_20])
  refine z_putRF C dX9_init_43 zf_X9_32 rfl rfl (by decide) hk_40 (by decide) ?_
  refine z_aload_n C dX9_init_46 rfl ?_
  refine z_new C dX9_init_47 zl_X9_36 zc_5 (by decide) (by decide) (by decide) (by decide) ?_
  refine z_dup C dX9_init_50 rfl ?_
  refine z_aload_n C dX9_init_51 rfl ?_
  refine z_getR C dX9_init_52 zf_X9_32 hk_40 (by decide) ?_
  change zJ X 1 1 55 [some (.ref 0)] [.ref 12, .ref 14, .ref 14, .ref 0] 15 _ _ _ _ _ _
  refine z_getR C dX9_init_55 zf_X9_38 ((hn40 12 (by decide) (by decide)).1) (by decide) ?_
  have e55 : (va_up (zuR rf40 0 4 (some 12)) 14 (fun _ => none)) 12 0 = some 13 := (hn40 12 (by decide) (by decide)).2.2.1 0 (by decide)
  rw [e55]
  change zJ X 1 1 58 [some (.ref 0)] [.ref 13, .ref 14, .ref 14, .ref 0] 15 _ _ _ _ _ _
  refine z_callI C dX9_init_58 zm_X9_42 zyX5_init (i_rd _ _ _ _ rfl rfl rfl) (by decide) rfl rfl (Nat.le_of_ble_eq_true rfl) (by decide) (by decide) (fun v58 N58 kd58 iv58 rf58 lw58 hq58 => ?_)
  obtain ⟨rfl, rfl, hu58, hn58⟩ := hq58
  have hn9_20_40_58 : zIn 1 7 kd58 iv58 rf58 := hn9_20_40.o (fun k h1 h2 => ⟨(hu58 k (by omega)).1.trans (by first | rfl | (repeat (first | rw [va_upn _ _ (by omega)] | rw [zu_n _ _ _ (by omega)] | rw [zuR_n _ _ _ (by omega)]))), (hu58 k (by omega)).2.1.trans (by first | rfl | (repeat (first | rw [va_upn _ _ (by omega)] | rw [zu_n _ _ _ (by omega)] | rw [zuR_n _ _ _ (by omega)]))), (hu58 k (by omega)).2.2.trans (by first | rfl | (repeat (first | rw [va_upn _ _ (by omega)] | rw [zu_n _ _ _ (by omega)] | rw [zuR_n _ _ _ (by omega)])))⟩)
  have hn20_40_58 : zIn 7 11 kd58 iv58 rf58 := hn20_40.o (fun k h1 h2 => ⟨(hu58 k (by omega)).1.trans (by first | rfl | (repeat (first | rw [va_upn _ _ (by omega)] | rw [zu_n _ _ _ (by omega)] | rw [zuR_n _ _ _ (by omega)]))), (hu58 k (by omega)).2.1.trans (by first | rfl | (repeat (first | rw [va_upn _ _ (by omega)] | rw [zu_n _ _ _ (by omega)] | rw [zuR_n _ _ _ (by omega)]))), (hu58 k (by omega)).2.2.trans (by first | rfl | (repeat (first | rw [va_upn _ _ (by omega)] | rw [zu_n _ _ _ (by omega)] | rw [zuR_n _ _ _ (by omega)])))⟩)
  have ha11_58 : zIn 11 12 kd58 iv58 rf58 := ha11.o (fun k h1 h2 => ⟨(hu58 k (by omega)).1.trans (by first | rfl | (repeat (first | rw [va_upn _ _ (by omega)] | rw [zu_n _ _ _ (by omega)] | rw [zuR_n _ _ _ (by omega)]))), (hu58 k (by omega)).2.1.trans (by first | rfl | (repeat (first | rw [va_upn _ _ (by omega)] | rw [zu_n _ _ _ (by omega)] | rw [zuR_n _ _ _ (by omega)]))), (hu58 k (by omega)).2.2.trans (by first | rfl | (repeat (first | rw [va_upn _ _ (by omega)] | rw [zu_n _ _ _ (by omega)] | rw [zuR_n _ _ _ (by omega)])))⟩)
  have hn40_58 : zIn 12 14 kd58 iv58 rf58 := hn40.o (fun k h1 h2 => ⟨(hu58 k (by omega)).1.trans (by first | rfl | (repeat (first | rw [va_upn _ _ (by omega)] | rw [zu_n _ _ _ (by omega)] | rw [zuR_n _ _ _ (by omega)]))), (hu58 k (by omega)).2.1.trans (by first | rfl | (repeat (first | rw [va_upn _ _ (by omega)] | rw [zu_n _ _ _ (by omega)] | rw [zuR_n _ _ _ (by omega)]))), (hu58 k (by omega)).2.2.trans (by first | rfl | (repeat (first | rw [va_upn _ _ (by omega)] | rw [zu_n _ _ _ (by omega)] | rw [zuR_n _ _ _ (by omega)])))⟩)
  have hk_58 : kd58 0 = (9 + 4, 0) := (hu58 0 (by decide)).1.trans hk_40
  have hi_58 : iv58 0 = fun _ => 0 := (hu58 0 (by decide)).2.1.trans hi_40
  have hr_58 : rf58 0 = va_up (va_up (va_up (va_up (fun _ => none) 0 (some 1)) 1 (some 7)) 2 (some 11)) 4 (some 12) := (hu58 0 (by decide)).2.2.trans (by show va_up (rf40 0) 4 (some 12) = _; rw [hr_40])
  refine z_putRF C dX9_init_61 zf_X9_45 rfl rfl (by decide) hk_58 (by decide) ?_
  refine z_aload_n C dX9_init_64 rfl ?_
  refine z_new C dX9_init_65 zl_X9_49 zc_1 (by decide) (by decide) (by decide) (by decide) ?_
  refine z_dup C dX9_init_68 rfl ?_
  refine z_callI C dX9_init_69 zm_X9_51 zyX1_init (i_gd _ _ _ _ rfl rfl rfl) (by decide) rfl rfl (Nat.le_of_ble_eq_true rfl) (by decide) (by decide) (fun v69 N69 kd69 iv69 rf69 lw69 hq69 => ?_)
  obtain ⟨rfl, rfl, hu69, hn69⟩ := hq69
  have hn9_20_40_58_69 : zIn 1 7 kd69 iv69 rf69 := hn9_20_40_58.o (fun k h1 h2 => ⟨(hu69 k (by omega)).1.trans (by first | rfl | (repeat (first | rw [va_upn _ _ (by omega)] | rw [zu_n _ _ _ (by omega)] | rw [zuR_n _ _ _ (by omega)]))), (hu69 k (by omega)).2.1.trans (by first | rfl | (repeat (first | rw [va_upn _ _ (by omega)] | rw [zu_n _ _ _ (by omega)] | rw [zuR_n _ _ _ (by omega)]))), (hu69 k (by omega)).2.2.trans (by first | rfl | (repeat (first | rw [va_upn _ _ (by omega)] | rw [zu_n _ _ _ (by omega)] | rw [zuR_n _ _ _ (by omega)])))⟩)
  have hn20_40_58_69 : zIn 7 11 kd69 iv69 rf69 := hn20_40_58.o (fun k h1 h2 => ⟨(hu69 k (by omega)).1.trans (by first | rfl | (repeat (first | rw [va_upn _ _ (by omega)] | rw [zu_n _ _ _ (by omega)] | rw [zuR_n _ _ _ (by omega)]))), (hu69 k (by omega)).2.1.trans (by first | rfl | (repeat (first | rw [va_upn _ _ (by omega)] | rw [zu_n _ _ _ (by omega)] | rw [zuR_n _ _ _ (by omega)]))), (hu69 k (by omega)).2.2.trans (by first | rfl | (repeat (first | rw [va_upn _ _ (by omega)] | rw [zu_n _ _ _ (by omega)] | rw [zuR_n _ _ _ (by omega)])))⟩)
  have ha11_58_69 : zIn 11 12 kd69 iv69 rf69 := ha11_58.o (fun k h1 h2 => ⟨(hu69 k (by omega)).1.trans (by first | rfl | (repeat (first | rw [va_upn _ _ (by omega)] | rw [zu_n _ _ _ (by omega)] | rw [zuR_n _ _ _ (by omega)]))), (hu69 k (by omega)).2.1.trans (by first | rfl | (repeat (first | rw [va_upn _ _ (by omega)] | rw [zu_n _ _ _ (by omega)] | rw [zuR_n _ _ _ (by omega)]))), (hu69 k (by omega)).2.2.trans (by first | rfl | (repeat (first | rw [va_upn _ _ (by omega)] | rw [zu_n _ _ _ (by omega)] | rw [zuR_n _ _ _ (by omega)])))⟩)
  have hn40_58_69 : zIn 12 14 kd69 iv69 rf69 := hn40_58.o (fun k h1 h2 => ⟨(hu69 k (by omega)).1.trans (by first | rfl | (repeat (first | rw [va_upn _ _ (by omega)] | rw [zu_n _ _ _ (by omega)] | rw [zuR_n _ _ _ (by omega)]))), (hu69 k (by omega)).2.1.trans (by first | rfl | (repeat (first | rw [va_upn _ _ (by omega)] | rw [zu_n _ _ _ (by omega)] | rw [zuR_n _ _ _ (by omega)]))), (hu69 k (by omega)).2.2.trans (by first | rfl | (repeat (first | rw [va_upn _ _ (by omega)] | rw [zu_n _ _ _ (by omega)] | rw [zuR_n _ _ _ (by omega)])))⟩)
  have hn58_69 : zIn 14 23 kd69 iv69 rf69 := hn58.o (fun k h1 h2 => ⟨(hu69 k (by omega)).1.trans (by first | rfl | (repeat (first | rw [va_upn _ _ (by omega)] | rw [zu_n _ _ _ (by omega)] | rw [zuR_n _ _ _ (by omega)]))), (hu69 k (by omega)).2.1.trans (by first | rfl | (repeat (first | rw [va_upn _ _ (by omega)] | rw [zu_n _ _ _ (by omega)] | rw [zuR_n _ _ _ (by omega)]))), (hu69 k (by omega)).2.2.trans (by first | rfl | (repeat (first | rw [va_upn _ _ (by omega)] | rw [zu_n _ _ _ (by omega)] | rw [zuR_n _ _ _ (by omega)])))⟩)
  have hk_69 : kd69 0 = (9 + 4, 0) := (hu69 0 (by decide)).1.trans hk_58
  have hi_69 : iv69 0 = fun _ => 0 := (hu69 0 (by decide)).2.1.trans hi_58
  have hr_69 : rf69 0 = va_up (va_up (va_up (va_up (va_up (fun _ => none) 0 (some 1)) 1 (some 7)) 2 (some 11)) 4 (some 12)) 5 (some 14) := (hu69 0 (by decide)).2.2.trans (by show va_up (rf58 0) 5 (some 14) = _; rw [hr_58])
  refine z_putRF C dX9_init_72 zf_X9_52 rfl rfl (by decide) hk_69 (by decide) ?_
  refine z_aload_n C dX9_init_75 rfl ?_
  refine z_bipush (v := 10) C dX9_init_76 (by decide) ?_
  refine z_newI (n := 10) C dX9_init_78 (by decide) (by decide) (by decide) (by decide) (by decide) (by decide) ?_
  refine z_putRF C dX9_init_80 zf_X9_58 rfl rfl (by decide) hk_69 (by decide) ?_
  refine z_aload_n C dX9_init_83 rfl ?_
  refine z_new C dX9_init_84 zl_X9_62 zc_4 (by decide) (by decide) (by decide) (by decide) ?_
  refine z_dup C dX9_init_87 rfl ?_
  refine z_callI C dX9_init_88 zm_X9_64 zyX4_init (i_pl _ _ _ _ rfl rfl rfl) (by decide) rfl rfl (Nat.le_of_ble_eq_true rfl) (by decide) (by decide) (fun v88 N88 kd88 iv88 rf88 lw88 hq88 => ?_)
  obtain ⟨rfl, rfl, hu88, hn88⟩ := hq88
  have hn9_20_40_58_69_88 : zIn 1 7 kd88 iv88 rf88 := hn9_20_40_58_69.o (fun k h1 h2 => ⟨(hu88 k (by omega)).1.trans (by first | rfl | (repeat (first | rw [va_upn _ _ (by omega)] | rw [zu_n _ _ _ (by omega)] | rw [zuR_n _ _ _ (by omega)]))), (hu88 k (by omega)).2.1.trans (by first | rfl | (repeat (first | rw [va_upn _ _ (by omega)] | rw [zu_n _ _ _ (by omega)] | rw [zuR_n _ _ _ (by omega)]))), (hu88 k (by omega)).2.2.trans (by first | rfl | (repeat (first | rw [va_upn _ _ (by omega)] | rw [zu_n _ _ _ (by omega)] | rw [zuR_n _ _ _ (by omega)])))⟩)
  have hn20_40_58_69_88 : zIn 7 11 kd88 iv88 rf88 := hn20_40_58_69.o (fun k h1 h2 => ⟨(hu88 k (by omega)).1.trans (by first | rfl | (repeat (first | rw [va_upn _ _ (by omega)] | rw [zu_n _ _ _ (by omega)] | rw [zuR_n _ _ _ (by omega)]))), (hu88 k (by omega)).2.1.trans (by first | rfl | (repeat (first | rw [va_upn _ _ (by omega)] | rw [zu_n _ _ _ (by omega)] | rw [zuR_n _ _ _ (by omega)]))), (hu88 k (by omega)).2.2.trans (by first | rfl | (repeat (first | rw [va_upn _ _ (by omega)] | rw [zu_n _ _ _ (by omega)] | rw [zuR_n _ _ _ (by omega)])))⟩)
  have ha11_58_69_88 : zIn 11 12 kd88 iv88 rf88 := ha11_58_69.o (fun k h1 h2 => ⟨(hu88 k (by omega)).1.trans (by first | rfl | (repeat (first | rw [va_upn _ _ (by omega)] | rw [zu_n _ _ _ (by omega)] | rw [zuR_n _ _ _ (by omega)]))), (hu88 k (by omega)).2.1.trans (by first | rfl | (repeat (first | rw [va_upn _ _ (by omega)] | rw [zu_n _ _ _ (by omega)] | rw [zuR_n _ _ _ (by omega)]))), (hu88 k (by omega)).2.2.trans (by first | rfl | (repeat (first | rw [va_upn _ _ (by omega)] | rw [zu_n _ _ _ (by omega)] | rw [zuR_n _ _ _ (by omega)])))⟩)
  have hn40_58_69_88 : zIn 12 14 kd88 iv88 rf88 := hn40_58_69.o (fun k h1 h2 => ⟨(hu88 k (by omega)).1.trans (by first | rfl | (repeat (first | rw [va_upn _ _ (by omega)] | rw [zu_n _ _ _ (by omega)] | rw [zuR_n _ _ _ (by omega)]))), (hu88 k (by omega)).2.1.trans (by first | rfl | (repeat (first | rw [va_upn _ _ (by omega)] | rw [zu_n _ _ _ (by omega)] | rw [zuR_n _ _ _ (by omega)]))), (hu88 k (by omega)).2.2.trans (by first | rfl | (repeat (first | rw [va_upn _ _ (by omega)] | rw [zu_n _ _ _ (by omega)] | rw [zuR_n _ _ _ (by omega)])))⟩)
  have hn58_69_88 : zIn 14 23 kd88 iv88 rf88 := hn58_69.o (fun k h1 h2 => ⟨(hu88 k (by omega)).1.trans (by first | rfl | (repeat (first | rw [va_upn _ _ (by omega)] | rw [zu_n _ _ _ (by omega)] | rw [zuR_n _ _ _ (by omega)]))), (hu88 k (by omega)).2.1.trans (by first | rfl | (repeat (first | rw [va_upn _ _ (by omega)] | rw [zu_n _ _ _ (by omega)] | rw [zuR_n _ _ _ (by omega)]))), (hu88 k (by omega)).2.2.trans (by first | rfl | (repeat (first | rw [va_upn _ _ (by omega)] | rw [zu_n _ _ _ (by omega)] | rw [zuR_n _ _ _ (by omega)])))⟩)
  have hn69_88 : zIn 23 28 kd88 iv88 rf88 := hn69.o (fun k h1 h2 => ⟨(hu88 k (by omega)).1.trans (by first | rfl | (repeat (first | rw [va_upn _ _ (by omega)] | rw [zu_n _ _ _ (by omega)] | rw [zuR_n _ _ _ (by omega)]))), (hu88 k (by omega)).2.1.trans (by first | rfl | (repeat (first | rw [va_upn _ _ (by omega)] | rw [zu_n _ _ _ (by omega)] | rw [zuR_n _ _ _ (by omega)]))), (hu88 k (by omega)).2.2.trans (by first | rfl | (repeat (first | rw [va_upn _ _ (by omega)] | rw [zu_n _ _ _ (by omega)] | rw [zuR_n _ _ _ (by omega)])))⟩)
  have ha28 : zIn 28 29 kd88 iv88 rf88 := fun k h1 h2 => by
    have hkk : k = 28 := by omega
    subst hkk
    obtain ⟨q1, q2, q3⟩ := hu88 28 (by decide)
    rw [q1, q2, q3]
    exact ⟨rfl, rfl, fun j _ => rfl, fun _ => by funext j; rfl⟩
  have hk_88 : kd88 0 = (9 + 4, 0) := (hu88 0 (by decide)).1.trans hk_69
  have hi_88 : iv88 0 = fun _ => 0 := (hu88 0 (by decide)).2.1.trans hi_69
  have hr_88 : rf88 0 = va_up (va_up (va_up (va_up (va_up (va_up (va_up (fun _ => none) 0 (some 1)) 1 (some 7)) 2 (some 11)) 4 (some 12)) 5 (some 14)) 6 (some 23)) 7 (some 28) := (hu88 0 (by decide)).2.2.trans (by show va_up (va_up (rf69 0) 6 (some 23)) 7 (some 28) = _; rw [hr_69])
  refine z_putRF C dX9_init_91 zf_X9_65 rfl rfl (by decide) hk_88 (by decide) ?_
  refine z_aload_n C dX9_init_94 rfl ?_
  refine z_new C dX9_init_95 zl_X9_69 zc_3 (by decide) (by decide) (by decide) (by decide) ?_
  refine z_dup C dX9_init_98 rfl ?_
  refine z_callI C dX9_init_99 zm_X9_71 zyX3_init (i_lg _ _ _ _ rfl rfl rfl) (by decide) rfl rfl (Nat.le_of_ble_eq_true rfl) (by decide) (by decide) (fun v99 N99 kd99 iv99 rf99 lw99 hq99 => ?_)
  obtain ⟨rfl, rfl, hu99, hn99⟩ := hq99
  have hn9_20_40_58_69_88_99 : zIn 1 7 kd99 iv99 rf99 := hn9_20_40_58_69_88.o (fun k h1 h2 => ⟨(hu99 k (by omega)).1.trans (by first | rfl | (repeat (first | rw [va_upn _ _ (by omega)] | rw [zu_n _ _ _ (by omega)] | rw [zuR_n _ _ _ (by omega)]))), (hu99 k (by omega)).2.1.trans (by first | rfl | (repeat (first | rw [va_upn _ _ (by omega)] | rw [zu_n _ _ _ (by omega)] | rw [zuR_n _ _ _ (by omega)]))), (hu99 k (by omega)).2.2.trans (by first | rfl | (repeat (first | rw [va_upn _ _ (by omega)] | rw [zu_n _ _ _ (by omega)] | rw [zuR_n _ _ _ (by omega)])))⟩)
  have hn20_40_58_69_88_99 : zIn 7 11 kd99 iv99 rf99 := hn20_40_58_69_88.o (fun k h1 h2 => ⟨(hu99 k (by omega)).1.trans (by first | rfl | (repeat (first | rw [va_upn _ _ (by omega)] | rw [zu_n _ _ _ (by omega)] | rw [zuR_n _ _ _ (by omega)]))), (hu99 k (by omega)).2.1.trans (by first | rfl | (repeat (first | rw [va_upn _ _ (by omega)] | rw [zu_n _ _ _ (by omega)] | rw [zuR_n _ _ _ (by omega)]))), (hu99 k (by omega)).2.2.trans (by first | rfl | (repeat (first | rw [va_upn _ _ (by omega)] | rw [zu_n _ _ _ (by omega)] | rw [zuR_n _ _ _ (by omega)])))⟩)
  have ha11_58_69_88_99 : zIn 11 12 kd99 iv99 rf99 := ha11_58_69_88.o (fun k h1 h2 => ⟨(hu99 k (by omega)).1.trans (by first | rfl | (repeat (first | rw [va_upn _ _ (by omega)] | rw [zu_n _ _ _ (by omega)] | rw [zuR_n _ _ _ (by omega)]))), (hu99 k (by omega)).2.1.trans (by first | rfl | (repeat (first | rw [va_upn _ _ (by omega)] | rw [zu_n _ _ _ (by omega)] | rw [zuR_n _ _ _ (by omega)]))), (hu99 k (by omega)).2.2.trans (by first | rfl | (repeat (first | rw [va_upn _ _ (by omega)] | rw [zu_n _ _ _ (by omega)] | rw [zuR_n _ _ _ (by omega)])))⟩)
  have hn40_58_69_88_99 : zIn 12 14 kd99 iv99 rf99 := hn40_58_69_88.o (fun k h1 h2 => ⟨(hu99 k (by omega)).1.trans (by first | rfl | (repeat (first | rw [va_upn _ _ (by omega)] | rw [zu_n _ _ _ (by omega)] | rw [zuR_n _ _ _ (by omega)]))), (hu99 k (by omega)).2.1.trans (by first | rfl | (repeat (first | rw [va_upn _ _ (by omega)] | rw [zu_n _ _ _ (by omega)] | rw [zuR_n _ _ _ (by omega)]))), (hu99 k (by omega)).2.2.trans (by first | rfl | (repeat (first | rw [va_upn _ _ (by omega)] | rw [zu_n _ _ _ (by omega)] | rw [zuR_n _ _ _ (by omega)])))⟩)
  have hn58_69_88_99 : zIn 14 23 kd99 iv99 rf99 := hn58_69_88.o (fun k h1 h2 => ⟨(hu99 k (by omega)).1.trans (by first | rfl | (repeat (first | rw [va_upn _ _ (by omega)] | rw [zu_n _ _ _ (by omega)] | rw [zuR_n _ _ _ (by omega)]))), (hu99 k (by omega)).2.1.trans (by first | rfl | (repeat (first | rw [va_upn _ _ (by omega)] | rw [zu_n _ _ _ (by omega)] | rw [zuR_n _ _ _ (by omega)]))), (hu99 k (by omega)).2.2.trans (by first | rfl | (repeat (first | rw [va_upn _ _ (by omega)] | rw [zu_n _ _ _ (by omega)] | rw [zuR_n _ _ _ (by omega)])))⟩)
  have hn69_88_99 : zIn 23 28 kd99 iv99 rf99 := hn69_88.o (fun k h1 h2 => ⟨(hu99 k (by omega)).1.trans (by first | rfl | (repeat (first | rw [va_upn _ _ (by omega)] | rw [zu_n _ _ _ (by omega)] | rw [zuR_n _ _ _ (by omega)]))), (hu99 k (by omega)).2.1.trans (by first | rfl | (repeat (first | rw [va_upn _ _ (by omega)] | rw [zu_n _ _ _ (by omega)] | rw [zuR_n _ _ _ (by omega)]))), (hu99 k (by omega)).2.2.trans (by first | rfl | (repeat (first | rw [va_upn _ _ (by omega)] | rw [zu_n _ _ _ (by omega)] | rw [zuR_n _ _ _ (by omega)])))⟩)
  have ha28_99 : zIn 28 29 kd99 iv99 rf99 := ha28.o (fun k h1 h2 => ⟨(hu99 k (by omega)).1.trans (by first | rfl | (repeat (first | rw [va_upn _ _ (by omega)] | rw [zu_n _ _ _ (by omega)] | rw [zuR_n _ _ _ (by omega)]))), (hu99 k (by omega)).2.1.trans (by first | rfl | (repeat (first | rw [va_upn _ _ (by omega)] | rw [zu_n _ _ _ (by omega)] | rw [zuR_n _ _ _ (by omega)]))), (hu99 k (by omega)).2.2.trans (by first | rfl | (repeat (first | rw [va_upn _ _ (by omega)] | rw [zu_n _ _ _ (by omega)] | rw [zuR_n _ _ _ (by omega)])))⟩)
  have hn88_99 : zIn 29 35 kd99 iv99 rf99 := hn88.o (fun k h1 h2 => ⟨(hu99 k (by omega)).1.trans (by first | rfl | (repeat (first | rw [va_upn _ _ (by omega)] | rw [zu_n _ _ _ (by omega)] | rw [zuR_n _ _ _ (by omega)]))), (hu99 k (by omega)).2.1.trans (by first | rfl | (repeat (first | rw [va_upn _ _ (by omega)] | rw [zu_n _ _ _ (by omega)] | rw [zuR_n _ _ _ (by omega)]))), (hu99 k (by omega)).2.2.trans (by first | rfl | (repeat (first | rw [va_upn _ _ (by omega)] | rw [zu_n _ _ _ (by omega)] | rw [zuR_n _ _ _ (by omega)])))⟩)
  have hk_99 : kd99 0 = (9 + 4, 0) := (hu99 0 (by decide)).1.trans hk_88
  have hi_99 : iv99 0 = fun _ => 0 := (hu99 0 (by decide)).2.1.trans hi_88
  have hr_99 : rf99 0 = va_up (va_up (va_up (va_up (va_up (va_up (va_up (va_up (fun _ => none) 0 (some 1)) 1 (some 7)) 2 (some 11)) 4 (some 12)) 5 (some 14)) 6 (some 23)) 7 (some 28)) 8 (some 29) := (hu99 0 (by decide)).2.2.trans (by show va_up (rf88 0) 8 (some 29) = _; rw [hr_88])
  refine z_putRF C dX9_init_102 zf_X9_72 rfl rfl (by decide) hk_99 (by decide) ?_
  refine z_vret C E dX9_init_105 (by decide) (by decide) ?_
  refine ⟨rfl, rfl, fun k hk2 => ⟨?_, ?_, ?_⟩, ?_⟩
  · repeat (first | rw [va_upn _ _ (by omega)] | rw [zu_n _ _ _ (by omega)] | rw [zuR_n _ _ _ (by omega)] | rw [(hu9 k (by omega)).1] | rw [(hu20 k (by omega)).1] | rw [(hu40 k (by omega)).1] | rw [(hu58 k (by omega)).1] | rw [(hu69 k (by omega)).1] | rw [(hu88 k (by omega)).1] | rw [(hu99 k (by omega)).1])
  · repeat (first | rw [va_upn _ _ (by omega)] | rw [zu_n _ _ _ (by omega)] | rw [zuR_n _ _ _ (by omega)] | rw [(hu9 k (by omega)).2.1] | rw [(hu20 k (by omega)).2.1] | rw [(hu40 k (by omega)).2.1] | rw [(hu58 k (by omega)).2.1] | rw [(hu69 k (by omega)).2.1] | rw [(hu88 k (by omega)).2.1] | rw [(hu99 k (by omega)).2.1])
  · repeat (first | rw [va_upn _ _ (by omega)] | rw [zu_n _ _ _ (by omega)] | rw [zuR_n _ _ _ (by omega)] | rw [(hu9 k (by omega)).2.2] | rw [(hu20 k (by omega)).2.2] | rw [(hu40 k (by omega)).2.2] | rw [(hu58 k (by omega)).2.2] | rw [(hu69 k (by omega)).2.2] | rw [(hu88 k (by omega)).2.2] | rw [(hu99 k (by omega)).2.2])
  · have s0 : zIn 0 1 kd99 iv99 (zuR rf99 0 9 (some 35)) := fun k h1 h2 => by
      have hkk : k = 0 := by omega
      subst hkk
      refine ⟨hk_99, ?_, ?_, fun z => absurd z (by decide)⟩
      · show iv99 0 = zI0 0
        rw [hi_99]
        rfl
      · show ∀ j, j < 70 → (va_up (rf99 0) 9 (some 35)) j = srf 0 0 j
        rw [hr_99]
        decide
    have s1 : zIn 1 7 kd99 iv99 (zuR rf99 0 9 (some 35)) := hn9_20_40_58_69_88_99.o (fun k h1 h2 => ⟨(by first | rfl | (repeat (first | rw [va_upn _ _ (by omega)] | rw [zu_n _ _ _ (by omega)] | rw [zuR_n _ _ _ (by omega)]))), (by first | rfl | (repeat (first | rw [va_upn _ _ (by omega)] | rw [zu_n _ _ _ (by omega)] | rw [zuR_n _ _ _ (by omega)]))), (by first | rfl | (repeat (first | rw [va_upn _ _ (by omega)] | rw [zu_n _ _ _ (by omega)] | rw [zuR_n _ _ _ (by omega)])))⟩)
    have s2 : zIn 7 11 kd99 iv99 (zuR rf99 0 9 (some 35)) := hn20_40_58_69_88_99.o (fun k h1 h2 => ⟨(by first | rfl | (repeat (first | rw [va_upn _ _ (by omega)] | rw [zu_n _ _ _ (by omega)] | rw [zuR_n _ _ _ (by omega)]))), (by first | rfl | (repeat (first | rw [va_upn _ _ (by omega)] | rw [zu_n _ _ _ (by omega)] | rw [zuR_n _ _ _ (by omega)]))), (by first | rfl | (repeat (first | rw [va_upn _ _ (by omega)] | rw [zu_n _ _ _ (by omega)] | rw [zuR_n _ _ _ (by omega)])))⟩)
    have s3 : zIn 11 12 kd99 iv99 (zuR rf99 0 9 (some 35)) := ha11_58_69_88_99.o (fun k h1 h2 => ⟨(by first | rfl | (repeat (first | rw [va_upn _ _ (by omega)] | rw [zu_n _ _ _ (by omega)] | rw [zuR_n _ _ _ (by omega)]))), (by first | rfl | (repeat (first | rw [va_upn _ _ (by omega)] | rw [zu_n _ _ _ (by omega)] | rw [zuR_n _ _ _ (by omega)]))), (by first | rfl | (repeat (first | rw [va_upn _ _ (by omega)] | rw [zu_n _ _ _ (by omega)] | rw [zuR_n _ _ _ (by omega)])))⟩)
    have s4 : zIn 12 14 kd99 iv99 (zuR rf99 0 9 (some 35)) := hn40_58_69_88_99.o (fun k h1 h2 => ⟨(by first | rfl | (repeat (first | rw [va_upn _ _ (by omega)] | rw [zu_n _ _ _ (by omega)] | rw [zuR_n _ _ _ (by omega)]))), (by first | rfl | (repeat (first | rw [va_upn _ _ (by omega)] | rw [zu_n _ _ _ (by omega)] | rw [zuR_n _ _ _ (by omega)]))), (by first | rfl | (repeat (first | rw [va_upn _ _ (by omega)] | rw [zu_n _ _ _ (by omega)] | rw [zuR_n _ _ _ (by omega)])))⟩)
    have s5 : zIn 14 23 kd99 iv99 (zuR rf99 0 9 (some 35)) := hn58_69_88_99.o (fun k h1 h2 => ⟨(by first | rfl | (repeat (first | rw [va_upn _ _ (by omega)] | rw [zu_n _ _ _ (by omega)] | rw [zuR_n _ _ _ (by omega)]))), (by first | rfl | (repeat (first | rw [va_upn _ _ (by omega)] | rw [zu_n _ _ _ (by omega)] | rw [zuR_n _ _ _ (by omega)]))), (by first | rfl | (repeat (first | rw [va_upn _ _ (by omega)] | rw [zu_n _ _ _ (by omega)] | rw [zuR_n _ _ _ (by omega)])))⟩)
    have s6 : zIn 23 28 kd99 iv99 (zuR rf99 0 9 (some 35)) := hn69_88_99.o (fun k h1 h2 => ⟨(by first | rfl | (repeat (first | rw [va_upn _ _ (by omega)] | rw [zu_n _ _ _ (by omega)] | rw [zuR_n _ _ _ (by omega)]))), (by first | rfl | (repeat (first | rw [va_upn _ _ (by omega)] | rw [zu_n _ _ _ (by omega)] | rw [zuR_n _ _ _ (by omega)]))), (by first | rfl | (repeat (first | rw [va_upn _ _ (by omega)] | rw [zu_n _ _ _ (by omega)] | rw [zuR_n _ _ _ (by omega)])))⟩)
    have s7 : zIn 28 29 kd99 iv99 (zuR rf99 0 9 (some 35)) := ha28_99.o (fun k h1 h2 => ⟨(by first | rfl | (repeat (first | rw [va_upn _ _ (by omega)] | rw [zu_n _ _ _ (by omega)] | rw [zuR_n _ _ _ (by omega)]))), (by first | rfl | (repeat (first | rw [va_upn _ _ (by omega)] | rw [zu_n _ _ _ (by omega)] | rw [zuR_n _ _ _ (by omega)]))), (by first | rfl | (repeat (first | rw [va_upn _ _ (by omega)] | rw [zu_n _ _ _ (by omega)] | rw [zuR_n _ _ _ (by omega)])))⟩)
    have s8 : zIn 29 35 kd99 iv99 (zuR rf99 0 9 (some 35)) := hn88_99.o (fun k h1 h2 => ⟨(by first | rfl | (repeat (first | rw [va_upn _ _ (by omega)] | rw [zu_n _ _ _ (by omega)] | rw [zuR_n _ _ _ (by omega)]))), (by first | rfl | (repeat (first | rw [va_upn _ _ (by omega)] | rw [zu_n _ _ _ (by omega)] | rw [zuR_n _ _ _ (by omega)]))), (by first | rfl | (repeat (first | rw [va_upn _ _ (by omega)] | rw [zu_n _ _ _ (by omega)] | rw [zuR_n _ _ _ (by omega)])))⟩)
    have s9 : zIn 35 41 kd99 iv99 (zuR rf99 0 9 (some 35)) := hn99.o (fun k h1 h2 => ⟨(by first | rfl | (repeat (first | rw [va_upn _ _ (by omega)] | rw [zu_n _ _ _ (by omega)] | rw [zuR_n _ _ _ (by omega)]))), (by first | rfl | (repeat (first | rw [va_upn _ _ (by omega)] | rw [zu_n _ _ _ (by omega)] | rw [zuR_n _ _ _ (by omega)]))), (by first | rfl | (repeat (first | rw [va_upn _ _ (by omega)] | rw [zu_n _ _ _ (by omega)] | rw [zuR_n _ _ _ (by omega)])))⟩)
    exact (((((((((s0).app s1).app s2).app s3).app s4).app s5).app s6).app s7).app s8).app s9

set_option maxHeartbeats 2000000 in
set_option maxRecDepth 8000 in
theorem i_m (kd : zD) (iv : zI) (rf : zF) (lw : zG) (hk : kd 41 = (10 + 4, 0)) (hi : iv 41 = fun _ => 0) (hr : rf 41 = fun _ => none) : zM yX10_init cX10_init 1 none 1 49 4724 [.ref 41] 42 kd iv rf lw (zQn 41 91 kd iv rf) := by
  refine zM.of (by decide) (Nat.le_of_ble_eq_true rfl) (fun X C E => ?_)
  change zJ X 42 1 0 [some (.ref 41)] [] 42 kd iv rf lw 0 0
  refine z_aload_n C dX10_init_0 rfl ?_
  refine z_obj C dX10_init_1 zm_X10_1 (by decide) (Nat.le_of_ble_eq_true rfl) ?_
  refine z_aload_n C dX10_init_4 rfl ?_
  refine z_iconst (v := 2) C dX10_init_5 (by decide) ?_
  refine z_putI C dX10_init_6 zf_X10_7 hk (by decide) ?_
  refine z_aload_n C dX10_init_9 rfl ?_
  refine z_bipush (v := 8) C dX10_init_10 (by decide) ?_
  refine z_newI (n := 8) C dX10_init_12 (by decide) (by decide) (by decide) (by decide) (by decide) (by decide) ?_
  refine z_putRF C dX10_init_14 zf_X10_13 rfl rfl (by decide) hk (by decide) ?_
  refine z_aload_n C dX10_init_17 rfl ?_
  refine z_bipush (v := 8) C dX10_init_18 (by decide) ?_
  refine z_newI (n := 8) C dX10_init_20 (by decide) (by decide) (by decide) (by decide) (by decide) (by decide) ?_
  refine z_putRF C dX10_init_22 zf_X10_17 rfl rfl (by decide) hk (by decide) ?_
  refine z_aload_n C dX10_init_25 rfl ?_
  refine z_bipush (v := 8) C dX10_init_26 (by decide) ?_
  refine z_newI (n := 8) C dX10_init_28 (by decide) (by decide) (by decide) (by decide) (by decide) (by decide) ?_
  refine z_putRF C dX10_init_30 zf_X10_20 rfl rfl (by decide) hk (by decide) ?_
  refine z_aload_n C dX10_init_33 rfl ?_
  refine z_bipush (v := 8) C dX10_init_34 (by decide) ?_
  refine z_newI (n := 8) C dX10_init_36 (by decide) (by decide) (by decide) (by decide) (by decide) (by decide) ?_
  refine z_putRF C dX10_init_38 zf_X10_23 rfl rfl (by decide) hk (by decide) ?_
  refine z_aload_n C dX10_init_41 rfl ?_
  refine z_bipush (v := 8) C dX10_init_42 (by decide) ?_
  refine z_newI (n := 8) C dX10_init_44 (by decide) (by decide) (by decide) (by decide) (by decide) (by decide) ?_
  refine z_putRF C dX10_init_46 zf_X10_26 rfl rfl (by decide) hk (by decide) ?_
  refine z_aload_n C dX10_init_49 rfl ?_
  refine z_bipush (v := 20) C dX10_init_50 (by decide) ?_
  refine z_newI (n := 20) C dX10_init_52 (by decide) (by decide) (by decide) (by decide) (by decide) (by decide) ?_
  refine z_putRF C dX10_init_54 zf_X10_29 rfl rfl (by decide) hk (by decide) ?_
  refine z_aload_n C dX10_init_57 rfl ?_
  refine z_bipush (v := 20) C dX10_init_58 (by decide) ?_
  refine z_newI (n := 20) C dX10_init_60 (by decide) (by decide) (by decide) (by decide) (by decide) (by decide) ?_
  refine z_putRF C dX10_init_62 zf_X10_32 rfl rfl (by decide) hk (by decide) ?_
  refine z_aload_n C dX10_init_65 rfl ?_
  refine z_bipush (v := 20) C dX10_init_66 (by decide) ?_
  refine z_newI (n := 20) C dX10_init_68 (by decide) (by decide) (by decide) (by decide) (by decide) (by decide) ?_
  refine z_putRF C dX10_init_70 zf_X10_35 rfl rfl (by decide) hk (by decide) ?_
  refine z_aload_n C dX10_init_73 rfl ?_
  refine z_bipush (v := 8) C dX10_init_74 (by decide) ?_
  refine z_newI (n := 8) C dX10_init_76 (by decide) (by decide) (by decide) (by decide) (by decide) (by decide) ?_
  refine z_putRF C dX10_init_78 zf_X10_38 rfl rfl (by decide) hk (by decide) ?_
  refine z_aload_n C dX10_init_81 rfl ?_
  refine z_bipush (v := 8) C dX10_init_82 (by decide) ?_
  refine z_newI (n := 8) C dX10_init_84 (by decide) (by decide) (by decide) (by decide) (by decide) (by decide) ?_
  refine z_putRF C dX10_init_86 zf_X10_41 rfl rfl (by decide) hk (by decide) ?_
  refine z_aload_n C dX10_init_89 rfl ?_
  refine z_bipush (v := 8) C dX10_init_90 (by decide) ?_
  refine z_newI (n := 8) C dX10_init_92 (by decide) (by decide) (by decide) (by decide) (by decide) (by decide) ?_
  refine z_putRF C dX10_init_94 zf_X10_44 rfl rfl (by decide) hk (by decide) ?_
  refine z_aload_n C dX10_init_97 rfl ?_
  refine z_bipush (v := 8) C dX10_init_98 (by decide) ?_
  refine z_newI (n := 8) C dX10_init_100 (by decide) (by decide) (by decide) (by decide) (by decide) (by decide) ?_
  refine z_putRF C dX10_init_102 zf_X10_47 rfl rfl (by decide) hk (by decide) ?_
  refine z_aload_n C dX10_init_105 rfl ?_
  refine z_bipush (v := 8) C dX10_init_106 (by decide) ?_
  refine z_newI (n := 8) C dX10_init_108 (by decide) (by decide) (by decide) (by decide) (by decide) (by decide) ?_
  refine z_putRF C dX10_init_110 zf_X10_50 rfl rfl (by decide) hk (by decide) ?_
  refine z_aload_n C dX10_init_113 rfl ?_
  refine z_bipush (v := 8) C dX10_init_114 (by decide) ?_
  refine z_newI (n := 8) C dX10_init_116 (by decide) (by decide) (by decide) (by decide) (by decide) (by decide) ?_
  refine z_putRF C dX10_init_118 zf_X10_53 rfl rfl (by decide) hk (by decide) ?_
  refine z_aload_n C dX10_init_121 rfl ?_
  refine z_bipush (v := 8) C dX10_init_122 (by decide) ?_
  refine z_newI (n := 8) C dX10_init_124 (by decide) (by decide) (by decide) (by decide) (by decide) (by decide) ?_
  refine z_putRF C dX10_init_126 zf_X10_56 rfl rfl (by decide) hk (by decide) ?_
  refine z_aload_n C dX10_init_129 rfl ?_
  refine z_bipush (v := 8) C dX10_init_130 (by decide) ?_
  refine z_newI (n := 8) C dX10_init_132 (by decide) (by decide) (by decide) (by decide) (by decide) (by decide) ?_
  refine z_putRF C dX10_init_134 zf_X10_59 rfl rfl (by decide) hk (by decide) ?_
  refine z_aload_n C dX10_init_137 rfl ?_
  refine z_bipush (v := 8) C dX10_init_138 (by decide) ?_
  refine z_newI (n := 8) C dX10_init_140 (by decide) (by decide) (by decide) (by decide) (by decide) (by decide) ?_
  refine z_putRF C dX10_init_142 zf_X10_62 rfl rfl (by decide) hk (by decide) ?_
  refine z_aload_n C dX10_init_145 rfl ?_
  refine z_bipush (v := 8) C dX10_init_146 (by decide) ?_
  refine z_newI (n := 8) C dX10_init_148 (by decide) (by decide) (by decide) (by decide) (by decide) (by decide) ?_
  refine z_putRF C dX10_init_150 zf_X10_65 rfl rfl (by decide) hk (by decide) ?_
  refine z_aload_n C dX10_init_153 rfl ?_
  refine z_bipush (v := 8) C dX10_init_154 (by decide) ?_
  refine z_newI (n := 8) C dX10_init_156 (by decide) (by decide) (by decide) (by decide) (by decide) (by decide) ?_
  refine z_putRF C dX10_init_158 zf_X10_68 rfl rfl (by decide) hk (by decide) ?_
  refine z_aload_n C dX10_init_161 rfl ?_
  refine z_bipush (v := 8) C dX10_init_162 (by decide) ?_
  refine z_newI (n := 8) C dX10_init_164 (by decide) (by decide) (by decide) (by decide) (by decide) (by decide) ?_
  refine z_putRF C dX10_init_166 zf_X10_71 rfl rfl (by decide) hk (by decide) ?_
  refine z_aload_n C dX10_init_169 rfl ?_
  refine z_bipush (v := 40) C dX10_init_170 (by decide) ?_
  refine z_newI (n := 40) C dX10_init_172 (by decide) (by decide) (by decide) (by decide) (by decide) (by decide) ?_
  refine z_putRF C dX10_init_174 zf_X10_74 rfl rfl (by decide) hk (by decide) ?_
  refine z_aload_n C dX10_init_177 rfl ?_
  refine z_bipush (v := 40) C dX10_init_178 (by decide) ?_
  refine z_newI (n := 40) C dX10_init_180 (by decide) (by decide) (by decide) (by decide) (by decide) (by decide) ?_
  refine z_putRF C dX10_init_182 zf_X10_77 rfl rfl (by decide) hk (by decide) ?_
  refine z_aload_n C dX10_init_185 rfl ?_
  refine z_sipush (v := 500) C dX10_init_186 (by decide) ?_
  refine z_newI (n := 500) C dX10_init_189 (by decide) (by decide) (by decide) (by decide) (by decide) (by decide) ?_
  refine z_putRF C dX10_init_191 zf_X10_80 rfl rfl (by decide) hk (by decide) ?_
  refine z_aload_n C dX10_init_194 rfl ?_
  refine z_sipush (v := 500) C dX10_init_195 (by decide) ?_
  refine z_newI (n := 500) C dX10_init_198 (by decide) (by decide) (by decide) (by decide) (by decide) (by decide) ?_
  refine z_putRF C dX10_init_200 zf_X10_83 rfl rfl (by decide) hk (by decide) ?_
  refine z_aload_n C dX10_init_203 rfl ?_
  refine z_bipush (v := 11) C dX10_init_204 (by decide) ?_
  refine z_newI (n := 11) C dX10_init_206 (by decide) (by decide) (by decide) (by decide) (by decide) (by decide) ?_
  refine z_putRF C dX10_init_208 zf_X10_86 rfl rfl (by decide) hk (by decide) ?_
  refine z_aload_n C dX10_init_211 rfl ?_
  refine z_bipush (v := 10) C dX10_init_212 (by decide) ?_
  refine z_newI (n := 10) C dX10_init_214 (by decide) (by decide) (by decide) (by decide) (by decide) (by decide) ?_
  refine z_putRF C dX10_init_216 zf_X10_89 rfl rfl (by decide) hk (by decide) ?_
  refine z_aload_n C dX10_init_219 rfl ?_
  refine z_sipush (v := 500) C dX10_init_220 (by decide) ?_
  refine z_newI (n := 500) C dX10_init_223 (by decide) (by decide) (by decide) (by decide) (by decide) (by decide) ?_
  refine z_putRF C dX10_init_225 zf_X10_92 rfl rfl (by decide) hk (by decide) ?_
  refine z_aload_n C dX10_init_228 rfl ?_
  refine z_sipush (v := 500) C dX10_init_229 (by decide) ?_
  refine z_newI (n := 500) C dX10_init_232 (by decide) (by decide) (by decide) (by decide) (by decide) (by decide) ?_
  refine z_putRF C dX10_init_234 zf_X10_95 rfl rfl (by decide) hk (by decide) ?_
  refine z_aload_n C dX10_init_237 rfl ?_
  refine z_bipush (v := 11) C dX10_init_238 (by decide) ?_
  refine z_newI (n := 11) C dX10_init_240 (by decide) (by decide) (by decide) (by decide) (by decide) (by decide) ?_
  refine z_putRF C dX10_init_242 zf_X10_98 rfl rfl (by decide) hk (by decide) ?_
  refine z_aload_n C dX10_init_245 rfl ?_
  refine z_bipush (v := 10) C dX10_init_246 (by decide) ?_
  refine z_newI (n := 10) C dX10_init_248 (by decide) (by decide) (by decide) (by decide) (by decide) (by decide) ?_
  refine z_putRF C dX10_init_250 zf_X10_101 rfl rfl (by decide) hk (by decide) ?_
  refine z_aload_n C dX10_init_253 rfl ?_
  refine z_sipush (v := 800) C dX10_init_254 (by decide) ?_
  refine z_newI (n := 800) C dX10_init_257 (by decide) (by decide) (by decide) (by decide) (by decide) (by decide) ?_
  refine z_putRF C dX10_init_259 zf_X10_104 rfl rfl (by decide) hk (by decide) ?_
  refine z_aload_n C dX10_init_262 rfl ?_
  refine z_iconst (v := (-1)) C dX10_init_263 (by decide) ?_
  refine z_putI C dX10_init_264 zf_X10_107 hk (by decide) ?_
  refine z_aload_n C dX10_init_267 rfl ?_
  refine z_sipush (v := 400) C dX10_init_268 (by decide) ?_
  refine z_newI (n := 400) C dX10_init_271 (by decide) (by decide) (by decide) (by decide) (by decide) (by decide) ?_
  refine z_putRF C dX10_init_273 zf_X10_110 rfl rfl (by decide) hk (by decide) ?_
  refine z_aload_n C dX10_init_276 rfl ?_
  refine z_sipush (v := 400) C dX10_init_277 (by decide) ?_
  refine z_newI (n := 400) C dX10_init_280 (by decide) (by decide) (by decide) (by decide) (by decide) (by decide) ?_
  refine z_putRF C dX10_init_282 zf_X10_113 rfl rfl (by decide) hk (by decide) ?_
  refine z_aload_n C dX10_init_285 rfl ?_
  refine z_bipush (v := 10) C dX10_init_286 (by decide) ?_
  refine z_newI (n := 10) C dX10_init_288 (by decide) (by decide) (by decide) (by decide) (by decide) (by decide) ?_
  refine z_putRF C dX10_init_290 zf_X10_116 rfl rfl (by decide) hk (by decide) ?_
  refine z_aload_n C dX10_init_293 rfl ?_
  refine z_bipush (v := 24) C dX10_init_294 (by decide) ?_
  refine z_newI (n := 24) C dX10_init_296 (by decide) (by decide) (by decide) (by decide) (by decide) (by decide) ?_
  refine z_putRF C dX10_init_298 zf_X10_119 rfl rfl (by decide) hk (by decide) ?_
  refine z_aload_n C dX10_init_301 rfl ?_
  refine z_bipush (v := 24) C dX10_init_302 (by decide) ?_
  refine z_newI (n := 24) C dX10_init_304 (by decide) (by decide) (by decide) (by decide) (by decide) (by decide) ?_
  refine z_putRF C dX10_init_306 zf_X10_122 rfl rfl (by decide) hk (by decide) ?_
  refine z_aload_n C dX10_init_309 rfl ?_
  refine z_bipush (v := 24) C dX10_init_310 (by decide) ?_
  refine z_newI (n := 24) C dX10_init_312 (by decide) (by decide) (by decide) (by decide) (by decide) (by decide) ?_
  refine z_putRF C dX10_init_314 zf_X10_125 rfl rfl (by decide) hk (by decide) ?_
  refine z_aload_n C dX10_init_317 rfl ?_
  refine z_bipush (v := 24) C dX10_init_318 (by decide) ?_
  refine z_newI (n := 24) C dX10_init_320 (by decide) (by decide) (by decide) (by decide) (by decide) (by decide) ?_
  refine z_putRF C dX10_init_322 zf_X10_128 rfl rfl (by decide) hk (by decide) ?_
  refine z_aload_n C dX10_init_325 rfl ?_
  refine z_bipush (v := 24) C dX10_init_326 (by decide) ?_
  refine z_newI (n := 24) C dX10_init_328 (by decide) (by decide) (by decide) (by decide) (by decide) (by decide) ?_
  refine z_putRF C dX10_init_330 zf_X10_131 rfl rfl (by decide) hk (by decide) ?_
  refine z_aload_n C dX10_init_333 rfl ?_
  refine z_bipush (v := 24) C dX10_init_334 (by decide) ?_
  refine z_newI (n := 24) C dX10_init_336 (by decide) (by decide) (by decide) (by decide) (by decide) (by decide) ?_
  refine z_putRF C dX10_init_338 zf_X10_134 rfl rfl (by decide) hk (by decide) ?_
  refine z_aload_n C dX10_init_341 rfl ?_
  refine z_bipush (v := 24) C dX10_init_342 (by decide) ?_
  refine z_newI (n := 24) C dX10_init_344 (by decide) (by decide) (by decide) (by decide) (by decide) (by decide) ?_
  refine z_putRF C dX10_init_346 zf_X10_137 rfl rfl (by decide) hk (by decide) ?_
  refine z_aload_n C dX10_init_349 rfl ?_
  refine z_bipush (v := 24) C dX10_init_350 (by decide) ?_
  refine z_newI (n := 24) C dX10_init_352 (by decide) (by decide) (by decide) (by decide) (by decide) (by decide) ?_
  refine z_putRF C dX10_init_354 zf_X10_140 rfl rfl (by decide) hk (by decide) ?_
  refine z_aload_n C dX10_init_357 rfl ?_
  refine z_bipush (v := 100) C dX10_init_358 (by decide) ?_
  refine z_newI (n := 100) C dX10_init_360 (by decide) (by decide) (by decide) (by decide) (by decide) (by decide) ?_
  refine z_putRF C dX10_init_362 zf_X10_143 rfl rfl (by decide) hk (by decide) ?_
  refine z_aload_n C dX10_init_365 rfl ?_
  refine z_bipush (v := 100) C dX10_init_366 (by decide) ?_
  refine z_newI (n := 100) C dX10_init_368 (by decide) (by decide) (by decide) (by decide) (by decide) (by decide) ?_
  refine z_putRF C dX10_init_370 zf_X10_146 rfl rfl (by decide) hk (by decide) ?_
  refine z_aload_n C dX10_init_373 rfl ?_
  refine z_bipush (v := 100) C dX10_init_374 (by decide) ?_
  refine z_newI (n := 100) C dX10_init_376 (by decide) (by decide) (by decide) (by decide) (by decide) (by decide) ?_
  refine z_putRF C dX10_init_378 zf_X10_149 rfl rfl (by decide) hk (by decide) ?_
  refine z_aload_n C dX10_init_381 rfl ?_
  refine z_bipush (v := 100) C dX10_init_382 (by decide) ?_
  refine z_newI (n := 100) C dX10_init_384 (by decide) (by decide) (by decide) (by decide) (by decide) (by decide) ?_
  refine z_putRF C dX10_init_386 zf_X10_152 rfl rfl (by decide) hk (by decide) ?_
  refine z_aload_n C dX10_init_389 rfl ?_
  refine z_bipush (v := 100) C dX10_init_390 (by decide) ?_
  refine z_newI (n := 100) C dX10_init_392 (by decide) (by decide) (by decide) (by decide) (by decide) (by decide) ?_
  refine z_putRF C dX10_init_394 zf_X10_155 rfl rfl (by decide) hk (by decide) ?_
  refine z_aload_n C dX10_init_397 rfl ?_
  refine z_bipush (v := 100) C dX10_init_398 (by decide) ?_
  refine z_newZ (n := 100) C dX10_init_400 (by decide) (by decide) (by decide) (by decide) (by decide) (by decide) ?_
  refine z_putRF C dX10_init_402 zf_X10_158 rfl rfl (by decide) hk (by decide) ?_
  refine z_aload_n C dX10_init_405 rfl ?_
  refine z_iconst (v := 4) C dX10_init_406 (by decide) ?_
  refine z_newI (n := 4) C dX10_init_407 (by decide) (by decide) (by decide) (by decide) (by decide) (by decide) ?_
  refine z_putRF C dX10_init_409 zf_X10_162 rfl rfl (by decide) hk (by decide) ?_
  refine z_aload_n C dX10_init_412 rfl ?_
  refine z_getR C dX10_init_413 zf_X10_13 hk (by decide) ?_
  change zJ X 42 1 416 [some (.ref 41)] [.ref 42] 91 _ _ _ _ _ _
  refine z_iconst (v := 0) C dX10_init_416 (by decide) ?_
  refine z_iconst (v := 1) C dX10_init_417 (by decide) ?_
  refine z_iast (n := 8) C dX10_init_418 rfl (by decide) ?_ ?_
  · exact vp_in_iff.mpr (by decide)
  refine z_vret C E dX10_init_419 (by decide) (by decide) ?_
  refine ⟨rfl, rfl, fun k hk2 => ⟨?_, ?_, ?_⟩, fun k h1 h2 => ?_⟩
  · repeat (first | rw [va_upn _ _ (by omega)] | rw [zu_n _ _ _ (by omega)] | rw [zuR_n _ _ _ (by omega)])
  · repeat (first | rw [va_upn _ _ (by omega)] | rw [zu_n _ _ _ (by omega)] | rw [zuR_n _ _ _ (by omega)])
  · repeat (first | rw [va_upn _ _ (by omega)] | rw [zu_n _ _ _ (by omega)] | rw [zuR_n _ _ _ (by omega)])
  · have hkk : k = 41 ∨ k = 42 ∨ k = 43 ∨ k = 44 ∨ k = 45 ∨ k = 46 ∨ k = 47 ∨ k = 48 ∨ k = 49 ∨ k = 50 ∨ k = 51 ∨ k = 52 ∨ k = 53 ∨ k = 54 ∨ k = 55 ∨ k = 56 ∨ k = 57 ∨ k = 58 ∨ k = 59 ∨ k = 60 ∨ k = 61 ∨ k = 62 ∨ k = 63 ∨ k = 64 ∨ k = 65 ∨ k = 66 ∨ k = 67 ∨ k = 68 ∨ k = 69 ∨ k = 70 ∨ k = 71 ∨ k = 72 ∨ k = 73 ∨ k = 74 ∨ k = 75 ∨ k = 76 ∨ k = 77 ∨ k = 78 ∨ k = 79 ∨ k = 80 ∨ k = 81 ∨ k = 82 ∨ k = 83 ∨ k = 84 ∨ k = 85 ∨ k = 86 ∨ k = 87 ∨ k = 88 ∨ k = 89 ∨ k = 90 := by omega
    rcases hkk with rfl | rfl | rfl | rfl | rfl | rfl | rfl | rfl | rfl | rfl | rfl | rfl | rfl | rfl | rfl | rfl | rfl | rfl | rfl | rfl | rfl | rfl | rfl | rfl | rfl | rfl | rfl | rfl | rfl | rfl | rfl | rfl | rfl | rfl | rfl | rfl | rfl | rfl | rfl | rfl | rfl | rfl | rfl | rfl | rfl | rfl | rfl | rfl | rfl | rfl
    · refine ⟨hk, ?_, ?_, fun z => absurd z (by decide)⟩
      · show upd (upd (iv 41) 1 2) 41 (-1) = zI0 41
        rw [hi]
        rfl
      · show ∀ j, j < 70 → (va_up (va_up (va_up (va_up (va_up (va_up (va_up (va_up (va_up (va_up (va_up (va_up (va_up (va_up (va_up (va_up (va_up (va_up (va_up (va_up (va_up (va_up (va_up (va_up (va_up (va_up (va_up (va_up (va_up (va_up (va_up (va_up (va_up (va_up (va_up (va_up (va_up (va_up (va_up (va_up (va_up (va_up (va_up (va_up (va_up (va_up (va_up (va_up (va_up (rf 41) 2 (some 42)) 3 (some 43)) 4 (some 44)) 5 (some 45)) 6 (some 46)) 8 (some 47)) 9 (some 48)) 10 (some 49)) 12 (some 50)) 13 (some 51)) 14 (some 52)) 15 (some 53)) 16 (some 54)) 17 (some 55)) 18 (some 56)) 19 (some 57)) 20 (some 58)) 21 (some 59)) 22 (some 60)) 23 (some 61)) 24 (some 62)) 25 (some 63)) 26 (some 64)) 27 (some 65)) 28 (some 66)) 29 (some 67)) 31 (some 68)) 32 (some 69)) 33 (some 70)) 34 (some 71)) 38 (some 72)) 48 (some 73)) 51 (some 74)) 52 (some 75)) 54 (some 76)) 55 (some 77)) 56 (some 78)) 57 (some 79)) 58 (some 80)) 59 (some 81)) 60 (some 82)) 61 (some 83)) 63 (some 84)) 64 (some 85)) 65 (some 86)) 66 (some 87)) 67 (some 88)) 68 (some 89)) 69 (some 90)) j = srf 0 41 j
        rw [hr]
        decide
    · exact ⟨rfl, rfl, fun j _ => rfl, fun z => absurd z (by decide)⟩
    · exact ⟨rfl, rfl, fun j _ => rfl, fun z => absurd z (by decide)⟩
    · exact ⟨rfl, rfl, fun j _ => rfl, fun z => absurd z (by decide)⟩
    · exact ⟨rfl, rfl, fun j _ => rfl, fun z => absurd z (by decide)⟩
    · exact ⟨rfl, rfl, fun j _ => rfl, fun z => absurd z (by decide)⟩
    · exact ⟨rfl, rfl, fun j _ => rfl, fun z => absurd z (by decide)⟩
    · exact ⟨rfl, rfl, fun j _ => rfl, fun z => absurd z (by decide)⟩
    · exact ⟨rfl, rfl, fun j _ => rfl, fun z => absurd z (by decide)⟩
    · exact ⟨rfl, rfl, fun j _ => rfl, fun z => absurd z (by decide)⟩
    · exact ⟨rfl, rfl, fun j _ => rfl, fun z => absurd z (by decide)⟩
    · exact ⟨rfl, rfl, fun j _ => rfl, fun z => absurd z (by decide)⟩
    · exact ⟨rfl, rfl, fun j _ => rfl, fun z => absurd z (by decide)⟩
    · exact ⟨rfl, rfl, fun j _ => rfl, fun z => absurd z (by decide)⟩
    · exact ⟨rfl, rfl, fun j _ => rfl, fun z => absurd z (by decide)⟩
    · exact ⟨rfl, rfl, fun j _ => rfl, fun z => absurd z (by decide)⟩
    · exact ⟨rfl, rfl, fun j _ => rfl, fun z => absurd z (by decide)⟩
    · exact ⟨rfl, rfl, fun j _ => rfl, fun z => absurd z (by decide)⟩
    · exact ⟨rfl, rfl, fun j _ => rfl, fun z => absurd z (by decide)⟩
    · exact ⟨rfl, rfl, fun j _ => rfl, fun z => absurd z (by decide)⟩
    · exact ⟨rfl, rfl, fun j _ => rfl, fun z => absurd z (by decide)⟩
    · exact ⟨rfl, rfl, fun j _ => rfl, fun z => absurd z (by decide)⟩
    · exact ⟨rfl, rfl, fun j _ => rfl, fun z => absurd z (by decide)⟩
    · exact ⟨rfl, rfl, fun j _ => rfl, fun z => absurd z (by decide)⟩
    · exact ⟨rfl, rfl, fun j _ => rfl, fun z => absurd z (by decide)⟩
    · exact ⟨rfl, rfl, fun j _ => rfl, fun z => absurd z (by decide)⟩
    · exact ⟨rfl, rfl, fun j _ => rfl, fun z => absurd z (by decide)⟩
    · exact ⟨rfl, rfl, fun j _ => rfl, fun z => absurd z (by decide)⟩
    · exact ⟨rfl, rfl, fun j _ => rfl, fun z => absurd z (by decide)⟩
    · exact ⟨rfl, rfl, fun j _ => rfl, fun z => absurd z (by decide)⟩
    · exact ⟨rfl, rfl, fun j _ => rfl, fun z => absurd z (by decide)⟩
    · exact ⟨rfl, rfl, fun j _ => rfl, fun z => absurd z (by decide)⟩
    · exact ⟨rfl, rfl, fun j _ => rfl, fun z => absurd z (by decide)⟩
    · exact ⟨rfl, rfl, fun j _ => rfl, fun z => absurd z (by decide)⟩
    · exact ⟨rfl, rfl, fun j _ => rfl, fun z => absurd z (by decide)⟩
    · exact ⟨rfl, rfl, fun j _ => rfl, fun z => absurd z (by decide)⟩
    · exact ⟨rfl, rfl, fun j _ => rfl, fun z => absurd z (by decide)⟩
    · exact ⟨rfl, rfl, fun j _ => rfl, fun z => absurd z (by decide)⟩
    · exact ⟨rfl, rfl, fun j _ => rfl, fun z => absurd z (by decide)⟩
    · exact ⟨rfl, rfl, fun j _ => rfl, fun z => absurd z (by decide)⟩
    · exact ⟨rfl, rfl, fun j _ => rfl, fun z => absurd z (by decide)⟩
    · exact ⟨rfl, rfl, fun j _ => rfl, fun z => absurd z (by decide)⟩
    · exact ⟨rfl, rfl, fun j _ => rfl, fun z => absurd z (by decide)⟩
    · exact ⟨rfl, rfl, fun j _ => rfl, fun z => absurd z (by decide)⟩
    · exact ⟨rfl, rfl, fun j _ => rfl, fun z => absurd z (by decide)⟩
    · exact ⟨rfl, rfl, fun j _ => rfl, fun z => absurd z (by decide)⟩
    · exact ⟨rfl, rfl, fun j _ => rfl, fun z => absurd z (by decide)⟩
    · exact ⟨rfl, rfl, fun j _ => rfl, fun z => absurd z (by decide)⟩
    · exact ⟨rfl, rfl, fun j _ => rfl, fun z => absurd z (by decide)⟩
    · exact ⟨rfl, rfl, fun j _ => rfl, fun z => absurd z (by decide)⟩
