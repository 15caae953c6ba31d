/-! a line, and all of them -/
theorem zbad_n {κ : Int32} {i : Nat} : ¬ (zbad κ i).1 = 0 := by
  unfold zbad
  show ¬ (if κ = 2 then (1 : Int32) else 2) = 0
  split <;> decide
abbrev zordk (κ : Int32) : Prop := κ = 202 ∨ κ = 203 ∨ κ = 204
def zLo (iv0 : zI) (κ : Nat → Int32) (tk b l j v : Nat) (P : List Int32) (iv : zI) : Prop :=
  (∀ q, q ≠ 14 → q ≠ 18 → q ≠ 19 → q ≠ 20 → q ≠ 21 → iv q = iv0 q) ∧ j + 3 < tk ∧ iv 14 2 = nI (j + 3) ∧ iv 14 3 = κ (j + 3) ∧ iv 14 4 = nI v ∧ iv 14 5 = 0 ∧ iv 14 6 = -1 ∧ iv 18 0 = nI (l + 1) ∧ iv 18 3 = nI (b + P.length) ∧ iv 19 = upd (iv0 19) l (nI (b + P.length)) ∧ iv 20 = upd (iv0 20) l (κ (j + 1)) ∧ (∀ x, x < b → iv 21 x = iv0 21 x) ∧ ∀ x, x < P.length → iv 21 (b + x) = P.reverse.getD x 0
def zLf (iv0 iv : zI) (code pl : Int32) : Prop := (∀ q, q ≠ 14 → q ≠ 18 → q ≠ 19 → q ≠ 20 → q ≠ 21 → iv q = iv0 q) ∧ iv 14 3 = 0 ∧ iv 14 5 = code ∧ iv 14 6 = pl ∧ ¬ code = 0
theorem zPt.lf {iv0 iv : zI} {c pl : Int32} (h : zPt iv0 iv c pl) (ch : Int32) : zLf iv0 (if (iv 18 0).toInt < 10 then zu (zu (zu iv 19 (iv 18 0).toNatClampNeg (iv 18 3)) 20 (iv 18 0).toNatClampNeg ch) 18 0 (iv 18 0 + 1) else iv) c pl := by
  obtain ⟨h1, h2, h3, h4, h5, h6⟩ := h
  split
  · exact ⟨fun q a b c d e => by rw [zu_n _ _ _ b, zu_n _ _ _ d, zu_n _ _ _ c]; exact h1.1 q a b e, h2, h3, h4, h5⟩
  · exact ⟨fun q a b c d e => h1.1 q a b e, h2, h3, h4, h5⟩
theorem zPo.lo {iv0 iv : zI} {κ : Nat → Int32} {tk b l j v : Nat} {P : List Int32} (h : zPo iv0 b κ tk iv (j + 3) v P) (hl : iv0 18 0 = nI l) (hl10 : l < 10) : zLo iv0 κ tk b l j v P (if (iv 18 0).toInt < 10 then zu (zu (zu iv 19 (iv 18 0).toNatClampNeg (iv 18 3)) 20 (iv 18 0).toNatClampNeg (κ (j + 1))) 18 0 (iv 18 0 + 1) else iv) := by
  obtain ⟨h1, h2, h3, h4, h5, h6, h7, h8, h9, h10⟩ := h
  have e0 : iv 18 0 = nI l := (h1.2 0 (by decide)).trans hl
  rw [if_pos (by rw [e0, nI_toInt (by omega)]; omega), e0, nI_clamp (by omega), nI_1]
  refine ⟨fun q a b c d e => by rw [zu_n _ _ _ b, zu_n _ _ _ d, zu_n _ _ _ c]; exact h1.1 q a b e, h3, h4, h5, h6, h7, h8, zu_ss _ _ _ _, ?_, ?_, ?_, h2, h10⟩
  · rw [zu_s, pk_un (by decide)]; exact h9
  · rw [zu_n _ _ _ (by decide), zu_n _ _ _ (by decide), zu_s, h9, h1.1 19 (by decide) (by decide) (by decide)]
  · rw [zu_n _ _ _ (by decide), zu_s, zu_n _ _ _ (by decide), h1.1 20 (by decide) (by decide) (by decide)]
/-- what a line is -/
def zLn (k : Nat → Int32) (i v j v2 : Nat) (P : List Int32) : Prop := ∃ t P0, zR k (0, i + 1, [], [], v) (2, j, t, P0, v2) ∧ zstop k (2, j, t, P0, v2) ∧ P = zflu t P0 ∧ zordk (k (j + 1)) ∧ k (j + 2) = 59
def zLx (k : Nat → Int32) (i v : Nat) (f : zFa) : Prop := zFl2 k (0, i + 1, [], [], v) f ∨ ∃ j t P0 v2, zR k (0, i + 1, [], [], v) (2, j, t, P0, v2) ∧ zstop k (2, j, t, P0, v2) ∧ ((¬ zordk (k (j + 1)) ∧ f = zbad (k (j + 1)) (j + 1)) ∨ (zordk (k (j + 1)) ∧ ¬ k (j + 2) = 59 ∧ f = zbad (k (j + 2)) (j + 2)))

set_option maxHeartbeats 1000000 in
set_option maxRecDepth 4000 in
theorem lr_54 (n : Nat) (lw : zG) (B : Nat → Int32) (s tk : Nat) (iv0 : zI) (b v0 n0 l : Nat) (hl : iv0 18 0 = nI l) (hl10 : l < 10) (i v : Nat) (cur : zI) (f : zFa) (hPt : zPt iv0 cur f.1 (nI ((zpl (zT B s) s) f.2))) (hF : zLx (zkn (zT B s) s) i v f) (or_ : Int32) {X : zX} (C : zC X cX5_readLine 2 RX5 none "readLine" 47 0 0) (E : zEnd X (91 + 3 * n) 0 0 (zQ n (fun v1 iv2 lw2 => v1 = none ∧ lw2 = lw ∧ ((∃ j v2 P, zLo iv0 (zkn (zT B s) s) tk b l j v2 P iv2 ∧ zLn (zkn (zT B s) s) i v j v2 P) ∨ ∃ f : zFa, zLf iv0 iv2 f.1 (nI ((zpl (zT B s) s) f.2)) ∧ zLx (zkn (zT B s) s) i v f)))) : zJs X n 2 54 [some (.ref 14), some (.int or_)] [] cur lw := by
  refine z_aload_n C dX5_readLine_54 rfl ?_
  refine z_bipush (v := 59) C dX5_readLine_55 (by decide) ?_
  refine zs_callVq C dX5_readLine_57 zm_X5_66 zyX5_expect (r_expect0 n _ iv0 _ _ _ hPt 59 (by decide)) zc_5 rfl zk_14 (by decide) (by decide) rfl rfl (Nat.le_of_ble_eq_true rfl) (by decide) (by decide) (fun v57 iv57 lw57 hq57 => ?_)
  obtain ⟨rfl, rfl, hx57⟩ := hq57
  refine z_aload_n C dX5_readLine_60 rfl ?_
  refine zs_getR C dX5_readLine_61 zf_X5_23 zk_14 (by decide) (zr_14_1 n) ?_
  refine z_iload_n C dX5_readLine_64 rfl ?_
  refine zs_callVv C dX5_readLine_65 zm_X5_69 zyX1_endLine (c_endLine n _ _ or_ (by rw [hx57.1.2 0 (by decide), hl, nI_toInt (by omega)]; omega)) zc_1 rfl zk_18 (by decide) (by decide) rfl rfl (Nat.le_of_ble_eq_true rfl) (by decide) (by decide) ?_
  refine zs_qvret C E dX5_readLine_68 ?_
  exact ⟨rfl, rfl, Or.inr ⟨f, hx57.lf _, hF⟩⟩

set_option maxHeartbeats 1000000 in
set_option maxRecDepth 4000 in
theorem lr_16 (n : Nat) (lw : zG) (B : Nat → Int32) (s tk : Nat) (iv0 : zI) (b v0 n0 l : Nat) (hl : iv0 18 0 = nI l) (hl10 : l < 10) (i v : Nat) (cur : zI) (f : zFa) (hPt : zPt iv0 cur f.1 (nI ((zpl (zT B s) s) f.2))) (hF : zLx (zkn (zT B s) s) i v f) {X : zX} (C : zC X cX5_readLine 2 RX5 none "readLine" 47 0 0) (E : zEnd X (91 + 3 * n) 0 0 (zQ n (fun v1 iv2 lw2 => v1 = none ∧ lw2 = lw ∧ ((∃ j v2 P, zLo iv0 (zkn (zT B s) s) tk b l j v2 P iv2 ∧ zLn (zkn (zT B s) s) i v j v2 P) ∨ ∃ f : zFa, zLf iv0 iv2 f.1 (nI ((zpl (zT B s) s) f.2)) ∧ zLx (zkn (zT B s) s) i v f)))) : zJs X n 2 16 [some (.ref 14), none] [] cur lw := by
  refine z_aload_n C dX5_readLine_16 rfl ?_
  refine z_getI C dX5_readLine_17 zf_X5_51 zk_14 (by decide) ?_
  refine z_eqi hPt.2.1 ?_
  refine z_istore_n (lv' := [some (.ref 14), some (.int _)]) C dX5_readLine_20 (by decide) rfl ?_
  refine z_iload_n C dX5_readLine_21 rfl ?_
  refine z_sipush (v := 202) C dX5_readLine_22 (by decide) ?_
  refine z_icmp_eq (tgt := 42) C dX5_readLine_25 (by decide) (fun q25 => ?_) (fun q25 => ?_)
  · exact absurd q25 (by decide)
  · refine z_iload_n C dX5_readLine_28 rfl ?_
    refine z_sipush (v := 203) C dX5_readLine_29 (by decide) ?_
    refine z_icmp_eq (tgt := 42) C dX5_readLine_32 (by decide) (fun q32 => ?_) (fun q32 => ?_)
    · exact absurd q32 (by decide)
    · refine z_iload_n C dX5_readLine_35 rfl ?_
      refine z_sipush (v := 204) C dX5_readLine_36 (by decide) ?_
      refine z_icmp_ne (tgt := 49) C dX5_readLine_39 (by decide) (fun q39 => ?_) (fun q39 => ?_)
      · refine z_aload_n C dX5_readLine_49 rfl ?_
        refine z_iconst (v := 2) C dX5_readLine_50 (by decide) ?_
        refine zs_callVv C dX5_readLine_51 zm_X5_57 zyX5_refuse (r_refuse0 n cur _ (by rw [hPt.2.2.1]; exact hPt.2.2.2.2.1) 2) zc_5 rfl zk_14 (by decide) (by decide) rfl rfl (Nat.le_of_ble_eq_true rfl) (by decide) (by decide) ?_
        exact lr_54 n _ B s tk iv0 b v0 n0 l hl hl10 i v _ f hPt.ref hF _ C E
      · exact absurd q39 (by decide)

set_option maxHeartbeats 1000000 in
set_option maxRecDepth 4000 in
theorem lr_54o (n : Nat) (lw : zG) (B : Nat → Int32) (s tk : Nat) (iv0 : zI) (b v0 n0 l : Nat) (hl : iv0 18 0 = nI l) (hl10 : l < 10) (i v : Nat) (hE : zEv B s tk iv0) (j v2 : Nat) (t : List Nat) (P0 : List Int32) (hR : zR (zkn (zT B s) s) (0, i + 1, [], [], v) (2, j, t, P0, v2)) (hst : zstop (zkn (zT B s) s) (2, j, t, P0, v2)) (hlen : b + (zflu t P0).length ≤ 400) (hor : zordk ((zkn (zT B s) s) (j + 1))) (cur : zI) (hP : zPo iv0 b (zkn (zT B s) s) tk cur (j + 2) v2 (zflu t P0)) {X : zX} (C : zC X cX5_readLine 2 RX5 none "readLine" 47 0 0) (E : zEnd X (91 + 3 * n) 0 0 (zQ n (fun v1 iv2 lw2 => v1 = none ∧ lw2 = lw ∧ ((∃ j v2 P, zLo iv0 (zkn (zT B s) s) tk b l j v2 P iv2 ∧ zLn (zkn (zT B s) s) i v j v2 P) ∨ ∃ f : zFa, zLf iv0 iv2 f.1 (nI ((zpl (zT B s) s) f.2)) ∧ zLx (zkn (zT B s) s) i v f)))) : zJs X n 2 54 [some (.ref 14), some (.int ((zkn (zT B s) s) (j + 1)))] [] cur lw := by
  refine z_aload_n C dX5_readLine_54 rfl ?_
  refine z_bipush (v := 59) C dX5_readLine_55 (by decide) ?_
  refine zs_callVq C dX5_readLine_57 zm_X5_66 zyX5_expect (r_expect1 n _ B s tk iv0 hE b _ (j + 2) v2 _ hP hlen 59 (by decide)) zc_5 rfl zk_14 (by decide) (by decide) rfl rfl (Nat.le_of_ble_eq_true rfl) (by decide) (by decide) (fun v57 iv57 lw57 hq57 => ?_)
  obtain ⟨rfl, rfl, hx57⟩ := hq57
  rcases hx57 with ⟨hk, hP5⟩ | ⟨hk, hP5⟩
  · refine z_aload_n C dX5_readLine_60 rfl ?_
    refine zs_getR C dX5_readLine_61 zf_X5_23 zk_14 (by decide) (zr_14_1 n) ?_
    refine z_iload_n C dX5_readLine_64 rfl ?_
    refine zs_callVv C dX5_readLine_65 zm_X5_69 zyX1_endLine (c_endLine n _ _ ((zkn (zT B s) s) (j + 1)) (by rw [hP5.1.2 0 (by decide), hl, nI_toInt (by omega)]; omega)) zc_1 rfl zk_18 (by decide) (by decide) rfl rfl (Nat.le_of_ble_eq_true rfl) (by decide) (by decide) ?_
    refine zs_qvret C E dX5_readLine_68 ?_
    exact ⟨rfl, rfl, Or.inl ⟨j, v2, _, hP5.lo hl hl10, t, P0, hR, hst, rfl, hor, hk⟩⟩
  · refine z_aload_n C dX5_readLine_60 rfl ?_
    refine zs_getR C dX5_readLine_61 zf_X5_23 zk_14 (by decide) (zr_14_1 n) ?_
    refine z_iload_n C dX5_readLine_64 rfl ?_
    refine zs_callVv C dX5_readLine_65 zm_X5_69 zyX1_endLine (c_endLine n _ _ ((zkn (zT B s) s) (j + 1)) (by rw [hP5.1.2 0 (by decide), hl, nI_toInt (by omega)]; omega)) zc_1 rfl zk_18 (by decide) (by decide) rfl rfl (Nat.le_of_ble_eq_true rfl) (by decide) (by decide) ?_
    refine zs_qvret C E dX5_readLine_68 ?_
    exact ⟨rfl, rfl, Or.inr ⟨_, hP5.lf _, Or.inr ⟨j, t, P0, v2, hR, hst, Or.inr ⟨hor, hk, rfl⟩⟩⟩⟩

set_option maxHeartbeats 1000000 in
set_option maxRecDepth 4000 in
theorem lr_16o (n : Nat) (lw : zG) (B : Nat → Int32) (s tk : Nat) (iv0 : zI) (b v0 n0 l : Nat) (hl : iv0 18 0 = nI l) (hl10 : l < 10) (i v : Nat) (hE : zEv B s tk iv0) (j v2 : Nat) (t : List Nat) (P0 : List Int32) (hR : zR (zkn (zT B s) s) (0, i + 1, [], [], v) (2, j, t, P0, v2)) (hst : zstop (zkn (zT B s) s) (2, j, t, P0, v2)) (hlen : b + (zflu t P0).length ≤ 400) (cur : zI) (hP : zPo iv0 b (zkn (zT B s) s) tk cur (j + 1) v2 (zflu t P0)) {X : zX} (C : zC X cX5_readLine 2 RX5 none "readLine" 47 0 0) (E : zEnd X (91 + 3 * n) 0 0 (zQ n (fun v1 iv2 lw2 => v1 = none ∧ lw2 = lw ∧ ((∃ j v2 P, zLo iv0 (zkn (zT B s) s) tk b l j v2 P iv2 ∧ zLn (zkn (zT B s) s) i v j v2 P) ∨ ∃ f : zFa, zLf iv0 iv2 f.1 (nI ((zpl (zT B s) s) f.2)) ∧ zLx (zkn (zT B s) s) i v f)))) : zJs X n 2 16 [some (.ref 14), none] [] cur lw := by
  refine z_aload_n C dX5_readLine_16 rfl ?_
  refine z_getI C dX5_readLine_17 zf_X5_51 zk_14 (by decide) ?_
  refine z_eqi hP.2.2.2.2.1 ?_
  refine z_istore_n (lv' := [some (.ref 14), some (.int _)]) C dX5_readLine_20 (by decide) rfl ?_
  refine z_iload_n C dX5_readLine_21 rfl ?_
  refine z_sipush (v := 202) C dX5_readLine_22 (by decide) ?_
  refine z_icmp_eq (tgt := 42) C dX5_readLine_25 (by decide) (fun q25 => ?_) (fun q25 => ?_)
  · have hor : zordk ((zkn (zT B s) s) (j + 1)) := Or.inl q25
    have hnx := hE.nx hP.2.2.1 (by rcases hor with z | z | z <;> rw [z] <;> decide) (by rcases hor with z | z | z <;> rw [z] <;> decide)
    refine z_aload_n C dX5_readLine_42 rfl ?_
    refine zs_callVv C dX5_readLine_43 zm_X5_60 zyX5_advance (r_advance n cur _ B s tk (hP.1.tk hE.1) (j + 1) hP.2.2.2.1 hnx) zc_5 rfl zk_14 (by decide) (by decide) rfl rfl (Nat.le_of_ble_eq_true rfl) (by decide) (by decide) ?_
    refine z_goto (tgt := 54) C dX5_readLine_46 (by decide) ?_
    exact lr_54o n _ B s tk iv0 b v0 n0 l hl hl10 i v hE j v2 t P0 hR hst hlen hor _ (hP.adv hnx) C E
  · refine z_iload_n C dX5_readLine_28 rfl ?_
    refine z_sipush (v := 203) C dX5_readLine_29 (by decide) ?_
    refine z_icmp_eq (tgt := 42) C dX5_readLine_32 (by decide) (fun q32 => ?_) (fun q32 => ?_)
    · have hor : zordk ((zkn (zT B s) s) (j + 1)) := Or.inr (Or.inl q32)
      have hnx := hE.nx hP.2.2.1 (by rcases hor with z | z | z <;> rw [z] <;> decide) (by rcases hor with z | z | z <;> rw [z] <;> decide)
      refine z_aload_n C dX5_readLine_42 rfl ?_
      refine zs_callVv C dX5_readLine_43 zm_X5_60 zyX5_advance (r_advance n cur _ B s tk (hP.1.tk hE.1) (j + 1) hP.2.2.2.1 hnx) zc_5 rfl zk_14 (by decide) (by decide) rfl rfl (Nat.le_of_ble_eq_true rfl) (by decide) (by decide) ?_
      refine z_goto (tgt := 54) C dX5_readLine_46 (by decide) ?_
      exact lr_54o n _ B s tk iv0 b v0 n0 l hl hl10 i v hE j v2 t P0 hR hst hlen hor _ (hP.adv hnx) C E
    · refine z_iload_n C dX5_readLine_35 rfl ?_
      refine z_sipush (v := 204) C dX5_readLine_36 (by decide) ?_
      refine z_icmp_ne (tgt := 49) C dX5_readLine_39 (by decide) (fun q39 => ?_) (fun q39 => ?_)
      · refine z_aload_n C dX5_readLine_49 rfl ?_
        refine z_iconst (v := 2) C dX5_readLine_50 (by decide) ?_
        refine zs_callVv C dX5_readLine_51 zm_X5_57 zyX5_refuse (r_refuse1 n cur _ B s tk (hP.1.tk hE.1) (j + 1) hP.2.2.2.1 hP.2.2.1 hP.2.2.2.2.2.2.1 2) zc_5 rfl zk_14 (by decide) (by decide) rfl rfl (Nat.le_of_ble_eq_true rfl) (by decide) (by decide) ?_
        rw [hP.2.2.2.2.1]
        exact lr_54 n _ B s tk iv0 b v0 n0 l hl hl10 i v _ (zbad ((zkn (zT B s) s) (j + 1)) (j + 1)) (hP.ref hlen _ _ zbad_n) (Or.inr ⟨j, t, P0, v2, hR, hst, Or.inl ⟨fun z => by rcases z with z | z | z <;> first | exact q25 z | exact q32 z | exact q39 z, rfl⟩⟩) _ C E
      · have hor : zordk ((zkn (zT B s) s) (j + 1)) := Or.inr (Or.inr q39)
        have hnx := hE.nx hP.2.2.1 (by rcases hor with z | z | z <;> rw [z] <;> decide) (by rcases hor with z | z | z <;> rw [z] <;> decide)
        refine z_aload_n C dX5_readLine_42 rfl ?_
        refine zs_callVv C dX5_readLine_43 zm_X5_60 zyX5_advance (r_advance n cur _ B s tk (hP.1.tk hE.1) (j + 1) hP.2.2.2.1 hnx) zc_5 rfl zk_14 (by decide) (by decide) rfl rfl (Nat.le_of_ble_eq_true rfl) (by decide) (by decide) ?_
        refine z_goto (tgt := 54) C dX5_readLine_46 (by decide) ?_
        exact lr_54o n _ B s tk iv0 b v0 n0 l hl hl10 i v hE j v2 t P0 hR hst hlen hor _ (hP.adv hnx) C E

set_option maxHeartbeats 2000000 in
set_option maxRecDepth 4000 in
theorem r_line (n : Nat) (lw : zG) (B : Nat → Int32) (s tk : Nat) (iv0 : zI) (b v0 n0 l : Nat) (hl : iv0 18 0 = nI l) (hl10 : l < 10) (i v : Nat) (hE : zEv B s tk iv0) (hi : i < tk) (h2 : iv0 14 2 = nI i) (hk : (zkn (zT B s) s) i = 200) (hP : zPo iv0 b (zkn (zT B s) s) tk iv0 i v []) (hI : zInv (zkn (zT B s) s) b v0 n0 (0, i + 1, [], [], v)) : zMs yX5_readLine cX5_readLine 2 none 47 [.ref 14] n iv0 lw (fun v1 iv2 lw2 => v1 = none ∧ lw2 = lw ∧ ((∃ j v2 P, zLo iv0 (zkn (zT B s) s) tk b l j v2 P iv2 ∧ zLn (zkn (zT B s) s) i v j v2 P) ∨ ∃ f : zFa, zLf iv0 iv2 f.1 (nI ((zpl (zT B s) s) f.2)) ∧ zLx (zkn (zT B s) s) i v f)) := by
  refine zM.of (by decide) (Nat.le_of_ble_eq_true rfl) (fun X C E => ?_)
  change zJs X n 2 0 [some (.ref 14), none] [] iv0 lw
  refine z_aload_n C dX5_readLine_0 rfl ?_
  have hnx := hE.nx hi (by rw [hk]; decide) (by rw [hk]; decide)
  refine zs_callVv C dX5_readLine_1 zm_X5_60 zyX5_advance (r_advance n iv0 _ B s tk hE.1 i h2 hnx) zc_5 rfl zk_14 (by decide) (by decide) rfl rfl (Nat.le_of_ble_eq_true rfl) (by decide) (by decide) ?_
  have hP2 := hP.adv hnx
  refine z_aload_n C dX5_readLine_4 rfl ?_
  refine z_iconst (v := 0) C dX5_readLine_5 (by decide) ?_
  refine zs_callVq C dX5_readLine_6 zm_X5_63 zyX5_readAny ((t_all n _ B s tk iv0 hE b v0 n0 8 (Nat.le_refl _)).2 _ (i + 1) v [] [] hP2 rfl (fun w hw => absurd hw (by simp)) hI) zc_5 rfl zk_14 (by decide) (by decide) rfl rfl (Nat.le_of_ble_eq_true rfl) (by decide) (by decide) (fun v6 iv6 lw6 hq6 => ?_)
  obtain ⟨rfl, rfl, hx6⟩ := hq6
  rcases hx6 with ⟨i2, v2, P2, hP3, hlt, t, P3, hR, rfl, ht, hf2, ha2, ho2⟩ | ⟨f, hPt, hFl⟩
  · have hR2 := hR
    rw [List.append_nil] at hR2
    have hlen := hE.bs hP3.2.2.1 (hI.R (Nat.zero_le 2) hR) (fun w hw => zqo_48 (ht w hw))
    have hlen : b + (zflu t P3).length ≤ 400 := by omega
    refine z_aload_n C dX5_readLine_9 rfl ?_
    refine z_sipush (v := 201) C dX5_readLine_10 (by decide) ?_
    refine zs_callVq C dX5_readLine_13 zm_X5_66 zyX5_expect (r_expect1 n _ B s tk iv0 hE b _ i2 v2 _ hP3 hlen 201 (by decide)) zc_5 rfl zk_14 (by decide) (by decide) rfl rfl (Nat.le_of_ble_eq_true rfl) (by decide) (by decide) (fun v13 iv13 lw13 hq13 => ?_)
    obtain ⟨rfl, rfl, hx13⟩ := hq13
    rcases hx13 with ⟨hk2, hP5⟩ | ⟨hk2, hP5⟩
    · exact lr_16o n _ B s tk iv0 b v0 n0 l hl hl10 i v hE i2 v2 t P3 hR2 ⟨rfl, hk2, fun z => zqo_48 (ht _ z) rfl⟩ hlen _ hP5 C E
    · exact lr_16 n _ B s tk iv0 b v0 n0 l hl hl10 i v _ _ hP5 (Or.inl (hR.fl (zm_end (W := []) hf2 ha2 ho2 (fun z => zqo_48 (ht 48 (by simpa using z.2)) rfl) (znstop_k hk2)))) C E
  · refine z_aload_n C dX5_readLine_9 rfl ?_
    refine z_sipush (v := 201) C dX5_readLine_10 (by decide) ?_
    refine zs_callVq C dX5_readLine_13 zm_X5_66 zyX5_expect (r_expect0 n _ iv0 _ _ _ hPt 201 (by decide)) zc_5 rfl zk_14 (by decide) (by decide) rfl rfl (Nat.le_of_ble_eq_true rfl) (by decide) (by decide) (fun v13 iv13 lw13 hq13 => ?_)
    obtain ⟨rfl, rfl, hx13⟩ := hq13
    exact lr_16 n _ B s tk iv0 b v0 n0 l hl hl10 i v _ f hx13 (Or.inl hFl) C E
