/-! what the tables know of classes and arrays; the law's first steps -/
theorem zst_kn {s : State} {args : Array Value} (hts : ∀ w ∈ zw, w.before args s = true) : ∀ k : Nat, ∃ (cC : ClassId) (iS : Nat → Nat), ∀ q : vw_C, zcl[k]? = some q → u_Kn s q.1 q.2.1 q.2.2 cC iS := by
  have one : ∀ {ci : Nat} {C : String} {T : u_T} {n : Nat}, zCl ci C T n → ∃ (cC : ClassId) (iS : Nat → Nat), ∀ q : vw_C, zcl[ci]? = some q → u_Kn s q.1 q.2.1 q.2.2 cC iS := by
    intro ci C T n h
    obtain ⟨h1, -, h3, -, -, h6, -⟩ := h
    obtain ⟨cC, iS, hk⟩ := u_known (C := C) (T := T) (N := n) (n := n) hts h3 (hts _ h6)
    refine ⟨cC, iS, fun q hq => ?_⟩
    rw [h1] at hq
    cases hq
    exact hk
  intro k
  match k with
  | 0 => exact one zc_0
  | 1 => exact one zc_1
  | 2 => exact one zc_2
  | 3 => exact one zc_3
  | 4 => exact one zc_4
  | 5 => exact one zc_5
  | 6 => exact one zc_6
  | 7 => exact one zc_7
  | 8 => exact one zc_8
  | 9 => exact one zc_9
  | 10 => exact one zc_10
  | k + 11 =>
    obtain ⟨cC, iS, -⟩ := one zc_0
    exact ⟨cC, iS, fun q hq => by simp at hq⟩
theorem zst_K {s : State} {args : Array Value} (hts : ∀ w ∈ zw, w.before args s = true) (hco : (Cond.arrayOver (.object RX0)).before args s = true) : ∃ (D : va_G) (cA : Nat → ClassId), va_K D zcl (ztys cA) s := by
  have kk := zst_kn hts
  obtain ⟨c0, k0, p0, a0, b0, d0⟩ := Cond.arrayClass_spec (hts _ za_int)
  obtain ⟨c1, k1, p1, a1, b1, d1⟩ := Cond.arrayClass_spec (hts _ za_byte)
  obtain ⟨c2, k2, p2, a2, b2, d2⟩ := Cond.arrayClass_spec (hts _ za_boolean)
  obtain ⟨p3, c3, k3, e3, -, b3, d3, a3⟩ := Cond.arrayOver_spec hco
  refine ⟨(fun k => Classical.choose (kk k), fun k => Classical.choose (Classical.choose_spec (kk k))), fun k => match k with
    | 0 => c0
    | 1 => c1
    | 2 => c2
    | _ => c3, fun k q hq => Classical.choose_spec (Classical.choose_spec (kk k)) q hq, fun k q hq => ?_⟩
  match k, hq with
  | 0, hq => cases hq; exact ⟨fun n z => ⟨fun k h => (by cases h), k0, b0, p0, d0⟩, a0⟩
  | 1, hq => cases hq; exact ⟨fun n z => ⟨fun k h => (by cases h), k1, b1, p1, d1⟩, a1⟩
  | 2, hq => cases hq; exact ⟨fun n z => ⟨fun k h => (by cases h), k2, b2, p2, d2⟩, a2⟩
  | 3, hq => cases hq; exact ⟨fun n z => ⟨fun k h => (by cases h), k3, b3, p3, d3⟩, k3, p3, b3, d3, e3, a3⟩
  | k + 4, hq => simp at hq
theorem zst_11 : ∀ k, k < 91 → (skd k).1 = 3 → k = 11 := by decide +kernel
set_option maxHeartbeats 4000000 in
set_option maxRecDepth 8000 in
theorem zst_walk (X : zX) {nm : String} (L : Nat) (xs : Nat → Int32) (C : zC X cL_law 4 RL (some .boolean) nm 100 600000 7302250) (B : zLw X L xs) (hL : L ≤ 3072) : zJ X 0 4 0 [some (.ref 1030), none, none, none] [] 0 (fun _ => (0, 0)) (fun _ _ => 0) (fun _ _ => none) (fun _ _ => 0) 0 0 := by
  refine z_new C dL_law_0 zl_L_7 zc_9 (by decide) (by decide) (by decide) (by decide) ?_
  refine z_dup C dL_law_3 rfl ?_
  refine z_callI C dL_law_4 zm_L_9 zyX9_init (i_x _ _ _ _ rfl rfl rfl) (by decide) rfl rfl (Nat.le_of_ble_eq_true rfl) (by decide) (by decide) (fun v4 N4 kd4 iv4 rf4 lw4 hq4 => ?_)
  obtain ⟨rfl, rfl, hu4, hn4⟩ := hq4
  refine z_astore_n (lv' := [some (.ref 1030), some (.ref 0), none, none]) C dL_law_7 (by decide) rfl ?_
  refine z_new C dL_law_8 zl_L_10 zc_10 (by decide) (by decide) (by decide) (by decide) ?_
  refine z_dup C dL_law_11 rfl ?_
  refine z_callI C dL_law_12 zm_L_12 zyX10_init (i_m _ _ _ _ rfl rfl rfl) (by decide) rfl rfl (Nat.le_of_ble_eq_true rfl) (by decide) (by decide) (fun v12 N12 kd12 iv12 rf12 lw12 hq12 => ?_)
  obtain ⟨rfl, rfl, hu12, hn12⟩ := hq12
  have hA : zIn 0 41 kd12 iv12 rf12 := hn4.o (fun k h1 h2 => ⟨(hu12 k h2).1.trans (va_upn _ _ (by omega)), (hu12 k h2).2.1.trans (va_upn _ _ (by omega)), (hu12 k h2).2.2.trans (va_upn _ _ (by omega))⟩)
  have hB := hA.app hn12
  refine z_astore_n (lv' := [some (.ref 1030), some (.ref 0), some (.ref 41), none]) C dL_law_15 (by decide) rfl ?_
  refine z_iconst (v := 0) C dL_law_16 (by decide) ?_
  refine z_istore_n (lv' := [some (.ref 1030), some (.ref 0), some (.ref 41), some (.int 0)]) C dL_law_17 (by decide) rfl ?_
  refine z_widen (k := 100) (n := 10000) (by decide) (by decide) ?_
  refine z_cg (kd2 := skd) (iv2 := zI0) (rf2 := srf 0) (fun cA ad k hk => ?_) (srf_ok 0) ?_
  · obtain ⟨e1, e2, e3, e4⟩ := hB k (Nat.zero_le _) hk
    rw [e1, e2]
    exact zE_c e3 (fun h => e4 (zst_11 k hk h))
  · exact law_loop X L xs C B hL 512 0 0 zI0 lw12 (by omega) (by omega) (zRw_0 (fun k _ => rfl))
/-- from the entry, for every script of at most 3072 ints, the law comes to its end with true -/
theorem whole_start {p : Program} {e : Env} {s : State} {m : MethodId} {below : List Frame} {meth : Method} {c : Code} (l : Launch) {b L : Nat} {xs : Nat → Int32} (hL : L ≤ 3072) (C0 : lw_At p s m meth c b L xs) : W p l e room_1 s m #[Value.ref b] below meth c s.heap [] 0 0 (lw_Z below #[Value.ref b] s) (entryFrame m ([Value.ref b] : List Value).toArray 4) := by
  obtain ⟨hx, hb, hr, hml, hown, hts, hX, hbl, hlk, hgv⟩ := C0
  have hzw : ∀ w ∈ zw, w.before #[Value.ref b] s = true := fun w hw => hts w (List.mem_filter.mp hw).1
  obtain ⟨D, cA, hK⟩ := zst_K hzw (hts _ za_coach)
  obtain ⟨ad0, hb0, hZ⟩ := zst_str hts hgv
  subst hb0
  have J := zst_walk (p, l, e, room_1, s, m, #[Value.ref (ad0 1030)], below, meth, c, D, cA, (fun q => s.heap.size ≤ q), ad0, lw_Z below #[Value.ref (ad0 1030)] s) (nm := meth.name) L xs ⟨hx, hb, hml, hown, hzw, hK, fun _ h => h, ⟨by decide, by decide, rfl, rfl⟩, hZ, hr, hlk, rfl⟩ ⟨rfl, rfl, hX, hbl, fun _ h => h, rfl⟩ hL
  have hlv := lv_entry ([Value.ref (ad0 1030)]) (n := 4) (Nat.le_of_ble_eq_true rfl)
  rw [lg_entry_eq]
  refine J ad0 [] s.heap _ (fun _ _ => rfl) (fun k j r h => by cases h) (Nat.le_refl _) (by decide) ?_ (fun v h => by cases h) (fun k q h => by simp [zW] at h) ⟨fun i j p q h => by simp [zW] at h, fun k q h => by simp [zW] at h⟩ va_S.rf ⟨hlv.1, hlv.2.1, ?_⟩
  · intro i v hi
    match i, hi with
    | 0, hi => cases hi; exact Or.inr (by decide)
    | 1, hi => cases hi
    | 2, hi => cases hi
    | 3, hi => cases hi
    | i + 4, hi => simp at hi
  · intro i v hi
    match i, hi with
    | 0, hi => cases hi; exact hlv.2.2 (0, .ref (ad0 1030)) List.mem_cons_self
    | 1, hi => cases hi
    | 2, hi => cases hi
    | 3, hi => cases hi
    | i + 4, hi => simp at hi
