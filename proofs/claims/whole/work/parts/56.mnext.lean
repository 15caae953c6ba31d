/-! the reference's tokens -/
def zU (B : Nat → Int32) (s j : Nat) : Int32 := if j < s then B j else -1

set_option maxRecDepth 4000 in
theorem m_isL (n : Nat) (iv : zI) (lw : zG) (c : Int32) : zMi yX10_isLetter cX10_isLetter 1 (some .boolean) 0 [.int c] n iv lw (zb (zisL c)) iv lw := by
  refine zM.of (by decide) (Nat.le_of_ble_eq_true rfl) (fun X C E => ?_)
  change zJs X n 1 0 [some (.int c)] [] iv lw
  refine z_iload_n C dX10_isLetter_0 rfl ?_
  refine z_bipush (v := 97) C dX10_isLetter_1 (by decide) ?_
  refine zt_icmp_lt (tgt := 16) C dX10_isLetter_3 rfl (show (97 : Int32).toInt = 97 by decide) (by decide) (fun q3 => ?_) (fun q3 => ?_)
  · refine z_iconst (v := 0) C dX10_isLetter_16 (by decide) ?_
    refine zs_iret C E dX10_isLetter_17 rfl ?_ ?_ ?_
    · exact (zb_f (by omega)).symm
    · rfl
    · rfl
  · refine z_iload_n C dX10_isLetter_6 rfl ?_
    refine z_bipush (v := 122) C dX10_isLetter_7 (by decide) ?_
    refine zt_icmp_gt (tgt := 16) C dX10_isLetter_9 rfl (show (122 : Int32).toInt = 122 by decide) (by decide) (fun q9 => ?_) (fun q9 => ?_)
    · refine z_iconst (v := 0) C dX10_isLetter_16 (by decide) ?_
      refine zs_iret C E dX10_isLetter_17 rfl ?_ ?_ ?_
      · exact (zb_f (by omega)).symm
      · rfl
      · rfl
    · refine z_iconst (v := 1) C dX10_isLetter_12 (by decide) ?_
      refine z_goto (tgt := 17) C dX10_isLetter_13 (by decide) ?_
      refine zs_iret C E dX10_isLetter_17 rfl ?_ ?_ ?_
      · exact (zb_t (by omega)).symm
      · rfl
      · rfl

set_option maxRecDepth 4000 in
theorem m_isD (n : Nat) (iv : zI) (lw : zG) (c : Int32) : zMi yX10_isDigit cX10_isDigit 1 (some .boolean) 0 [.int c] n iv lw (zb (zisD c)) iv lw := by
  refine zM.of (by decide) (Nat.le_of_ble_eq_true rfl) (fun X C E => ?_)
  change zJs X n 1 0 [some (.int c)] [] iv lw
  refine z_iload_n C dX10_isDigit_0 rfl ?_
  refine z_bipush (v := 48) C dX10_isDigit_1 (by decide) ?_
  refine zt_icmp_lt (tgt := 16) C dX10_isDigit_3 rfl (show (48 : Int32).toInt = 48 by decide) (by decide) (fun q3 => ?_) (fun q3 => ?_)
  · refine z_iconst (v := 0) C dX10_isDigit_16 (by decide) ?_
    refine zs_iret C E dX10_isDigit_17 rfl ?_ ?_ ?_
    · exact (zb_f (by omega)).symm
    · rfl
    · rfl
  · refine z_iload_n C dX10_isDigit_6 rfl ?_
    refine z_bipush (v := 57) C dX10_isDigit_7 (by decide) ?_
    refine zt_icmp_gt (tgt := 16) C dX10_isDigit_9 rfl (show (57 : Int32).toInt = 57 by decide) (by decide) (fun q9 => ?_) (fun q9 => ?_)
    · refine z_iconst (v := 0) C dX10_isDigit_16 (by decide) ?_
      refine zs_iret C E dX10_isDigit_17 rfl ?_ ?_ ?_
      · exact (zb_f (by omega)).symm
      · rfl
      · rfl
    · refine z_iconst (v := 1) C dX10_isDigit_12 (by decide) ?_
      refine z_goto (tgt := 17) C dX10_isDigit_13 (by decide) ?_
      refine zs_iret C E dX10_isDigit_17 rfl ?_ ?_ ?_
      · exact (zb_t (by omega)).symm
      · rfl
      · rfl

set_option maxRecDepth 4000 in
theorem m_isSign (n : Nat) (iv : zI) (lw : zG) (c : Int32) : zMi yX10_isSign cX10_isSign 1 (some .boolean) 0 [.int c] n iv lw (zb (zsgn c)) iv lw := by
  refine zM.of (by decide) (Nat.le_of_ble_eq_true rfl) (fun X C E => ?_)
  change zJs X n 1 0 [some (.int c)] [] iv lw
  refine z_iload_n C dX10_isSign_0 rfl ?_
  refine z_bipush (v := 59) C dX10_isSign_1 (by decide) ?_
  refine z_icmp_eq (tgt := 48) C dX10_isSign_3 (by decide) (fun q3 => ?_) (fun q3 => ?_)
  · refine z_iconst (v := 1) C dX10_isSign_48 (by decide) ?_
    refine z_goto (tgt := 53) C dX10_isSign_49 (by decide) ?_
    refine zs_iret C E dX10_isSign_53 rfl ?_ ?_ ?_
    · exact (zb_t (Or.inl q3)).symm
    · rfl
    · rfl
  · refine z_iload_n C dX10_isSign_6 rfl ?_
    refine z_bipush (v := 61) C dX10_isSign_7 (by decide) ?_
    refine z_icmp_eq (tgt := 48) C dX10_isSign_9 (by decide) (fun q9 => ?_) (fun q9 => ?_)
    · refine z_iconst (v := 1) C dX10_isSign_48 (by decide) ?_
      refine z_goto (tgt := 53) C dX10_isSign_49 (by decide) ?_
      refine zs_iret C E dX10_isSign_53 rfl ?_ ?_ ?_
      · exact (zb_t (Or.inr (Or.inr (Or.inr (Or.inl q9))))).symm
      · rfl
      · rfl
    · refine z_iload_n C dX10_isSign_12 rfl ?_
      refine z_bipush (v := 60) C dX10_isSign_13 (by decide) ?_
      refine z_icmp_eq (tgt := 48) C dX10_isSign_15 (by decide) (fun q15 => ?_) (fun q15 => ?_)
      · refine z_iconst (v := 1) C dX10_isSign_48 (by decide) ?_
        refine z_goto (tgt := 53) C dX10_isSign_49 (by decide) ?_
        refine zs_iret C E dX10_isSign_53 rfl ?_ ?_ ?_
        · exact (zb_t (Or.inr (Or.inl q15))).symm
        · rfl
        · rfl
      · refine z_iload_n C dX10_isSign_18 rfl ?_
        refine z_bipush (v := 62) C dX10_isSign_19 (by decide) ?_
        refine z_icmp_eq (tgt := 48) C dX10_isSign_21 (by decide) (fun q21 => ?_) (fun q21 => ?_)
        · refine z_iconst (v := 1) C dX10_isSign_48 (by decide) ?_
          refine z_goto (tgt := 53) C dX10_isSign_49 (by decide) ?_
          refine zs_iret C E dX10_isSign_53 rfl ?_ ?_ ?_
          · exact (zb_t (Or.inr (Or.inr (Or.inl q21)))).symm
          · rfl
          · rfl
        · refine z_iload_n C dX10_isSign_24 rfl ?_
          refine z_bipush (v := 43) C dX10_isSign_25 (by decide) ?_
          refine z_icmp_eq (tgt := 48) C dX10_isSign_27 (by decide) (fun q27 => ?_) (fun q27 => ?_)
          · refine z_iconst (v := 1) C dX10_isSign_48 (by decide) ?_
            refine z_goto (tgt := 53) C dX10_isSign_49 (by decide) ?_
            refine zs_iret C E dX10_isSign_53 rfl ?_ ?_ ?_
            · exact (zb_t (Or.inr (Or.inr (Or.inr (Or.inr (Or.inl q27)))))).symm
            · rfl
            · rfl
          · refine z_iload_n C dX10_isSign_30 rfl ?_
            refine z_bipush (v := 45) C dX10_isSign_31 (by decide) ?_
            refine z_icmp_eq (tgt := 48) C dX10_isSign_33 (by decide) (fun q33 => ?_) (fun q33 => ?_)
            · refine z_iconst (v := 1) C dX10_isSign_48 (by decide) ?_
              refine z_goto (tgt := 53) C dX10_isSign_49 (by decide) ?_
              refine zs_iret C E dX10_isSign_53 rfl ?_ ?_ ?_
              · exact (zb_t (Or.inr (Or.inr (Or.inr (Or.inr (Or.inr (Or.inl q33))))))).symm
              · rfl
              · rfl
            · refine z_iload_n C dX10_isSign_36 rfl ?_
              refine z_bipush (v := 40) C dX10_isSign_37 (by decide) ?_
              refine z_icmp_eq (tgt := 48) C dX10_isSign_39 (by decide) (fun q39 => ?_) (fun q39 => ?_)
              · refine z_iconst (v := 1) C dX10_isSign_48 (by decide) ?_
                refine z_goto (tgt := 53) C dX10_isSign_49 (by decide) ?_
                refine zs_iret C E dX10_isSign_53 rfl ?_ ?_ ?_
                · exact (zb_t (Or.inr (Or.inr (Or.inr (Or.inr (Or.inr (Or.inr (Or.inl q39)))))))).symm
                · rfl
                · rfl
              · refine z_iload_n C dX10_isSign_42 rfl ?_
                refine z_bipush (v := 41) C dX10_isSign_43 (by decide) ?_
                refine z_icmp_ne (tgt := 52) C dX10_isSign_45 (by decide) (fun q45 => ?_) (fun q45 => ?_)
                · refine z_iconst (v := 0) C dX10_isSign_52 (by decide) ?_
                  refine zs_iret C E dX10_isSign_53 rfl ?_ ?_ ?_
                  · exact (zb_f (fun z => by rcases z with z | z | z | z | z | z | z | z <;> first | exact q3 z | exact q9 z | exact q15 z | exact q21 z | exact q27 z | exact q33 z | exact q39 z | exact q45 z)).symm
                  · rfl
                  · rfl
                · refine z_iconst (v := 1) C dX10_isSign_48 (by decide) ?_
                  refine z_goto (tgt := 53) C dX10_isSign_49 (by decide) ?_
                  refine zs_iret C E dX10_isSign_53 rfl ?_ ?_ ?_
                  · exact (zb_t (Or.inr (Or.inr (Or.inr (Or.inr (Or.inr (Or.inr (Or.inr (q45))))))))).symm
                  · rfl
                  · rfl

set_option maxRecDepth 4000 in
theorem m_here (n : Nat) (iv : zI) (lw : zG) (s : Nat) (hs : iv 41 43 = nI s) (hs8 : s ≤ 800) (p k : Nat) (ha : iv 41 42 = nI p) (hp : p + k ≤ 2000) : zMi yX10_here cX10_here 2 (some .int) 0 [.ref 41, .int (nI k)] n iv lw (zU (iv 72) s (p + k)) iv lw := by
  refine zM.of (by decide) (Nat.le_of_ble_eq_true rfl) (fun X C E => ?_)
  change zJs X n 2 0 [some (.ref 41), some (.int (nI k))] [] iv lw
  refine z_aload_n C dX10_here_0 rfl ?_
  refine z_getI C dX10_here_1 zf_X10_219 zk_41 (by decide) ?_
  refine z_iload_n C dX10_here_4 rfl ?_
  rw [ha]
  refine z_iadd C dX10_here_5 ?_
  rw [nI_add]
  refine z_aload_n C dX10_here_6 rfl ?_
  refine z_getI C dX10_here_7 zf_X10_222 zk_41 (by decide) ?_
  refine zt_icmp_ge (tgt := 27) C dX10_here_10 (nI_toInt (by omega)) (zt_nI hs (by omega)) (by decide) (fun q10 => ?_) (fun q10 => ?_)
  · refine z_iconst (v := (-1)) C dX10_here_27 (by decide) ?_
    refine zs_iret C E dX10_here_28 rfl ?_ ?_ ?_
    · exact (if_neg (by omega)).symm
    · rfl
    · rfl
  · refine z_aload_n C dX10_here_13 rfl ?_
    refine zs_getR C dX10_here_14 zf_X10_104 zk_41 (by decide) (zr_41_38 n) ?_
    refine z_aload_n C dX10_here_17 rfl ?_
    refine z_getI C dX10_here_18 zf_X10_219 zk_41 (by decide) ?_
    refine z_iload_n C dX10_here_21 rfl ?_
    rw [ha]
    refine z_iadd C dX10_here_22 ?_
    rw [nI_add]
    refine z_iald C dX10_here_23 zk_72 (by decide) ?_ ?_
    · exact vp_in_nI (by omega) (by decide)
    refine z_goto (tgt := 28) C dX10_here_24 (by decide) ?_
    refine zs_iret C E dX10_here_28 rfl ?_ ?_ ?_
    · rw [nI_clamp (by omega)]
      exact (if_pos (by omega)).symm
    · rfl
    · rfl

def zpk64 (U : Nat → Int32) (q : Nat) : Nat → Int64
  | 0 => 0
  | m + 1 => zpk64 U q m <<< ((8 : Int32).toInt64 &&& 63) ||| (U (q + m)).toInt64
def zus (U : Nat → Int32) (s q : Nat) : Int32 := if s ≤ q then 0 else if zisL (U q) then (if 8 < zrn (zle U) q (s - q) - q then 3 else 1) else if zisD (U q) then (if 6 < zrn (zdi U) q (s - q) - q ∨ zisL (U (zrn (zdi U) q (s - q))) then 3 else 2) else if zsgn (U q) then U q else 3
def zNxt (iv : zI) (U : Nat → Int32) (s q : Nat) (iv2 : zI) (lw2 : zG) : Prop :=
  (∀ c, c ≠ 41 → iv2 c = iv c) ∧ (∀ j, j ≠ 42 → j ≠ 44 → j ≠ 45 → j ≠ 46 → iv2 41 j = iv 41 j) ∧ iv2 41 45 = nI q ∧ iv2 41 44 = zus U s q ∧ (zus U s q ≠ 3 → iv2 41 42 = nI (zte U s q)) ∧ (zus U s q = 2 → iv2 41 46 = znm U q (zrn (zdi U) q (s - q) - q)) ∧ (zus U s q = 1 → lw2 41 47 = zpk64 U q (zrn (zle U) q (s - q) - q))
/-- while a token is taken: everything but at, sort, place, number as it was -/
def zNk (iv : zI) (q : Nat) (cur : zI) : Prop := (∀ c, c ≠ 41 → cur c = iv c) ∧ (∀ j, j ≠ 42 → j ≠ 44 → j ≠ 45 → j ≠ 46 → cur 41 j = iv 41 j) ∧ cur 41 45 = nI q ∧ cur 41 42 = nI q
theorem zNk.put {iv cur : zI} {q j : Nat} {x : Int32} (h : zNk iv q cur) (hj : j = 44 ∨ j = 46) : zNk iv q (zu cur 41 j x) := by
  refine ⟨fun c hc => by rw [zu_n _ _ _ hc]; exact h.1 c hc, fun k a b c d => ?_, ?_, ?_⟩
  · rw [zu_s, pk_un (by rcases hj with e | e <;> omega)]; exact h.2.1 k a b c d
  · rw [zu_s, pk_un (by rcases hj with e | e <;> omega)]; exact h.2.2.1
  · rw [zu_s, pk_un (by rcases hj with e | e <;> omega)]; exact h.2.2.2
theorem zpk_uLs (lw : zG) (x : Int64) : zuL lw 41 47 x 41 47 = x := by rw [zuL_s]; exact pk_uLs

set_option maxRecDepth 4000 in
theorem lm_nx4 (n : Nat) (iv : zI) (lw : zG) (s : Nat) (hs : iv 41 43 = nI s) (hs8 : s ≤ 800) (q m : Nat) (cur : zI) (lw2 : zG) (c : Int32) (hk : zNk iv q cur) (h44 : cur 41 44 = zus (zU (iv 72) s) s q) (hm : ¬ zus (zU (iv 72) s) s q = 3 → q + m = zte (zU (iv 72) s) s q) (h46 : zus (zU (iv 72) s) s q = 2 → cur 41 46 = znm (zU (iv 72) s) q (zrn (zdi (zU (iv 72) s)) q (s - q) - q)) (h47 : zus (zU (iv 72) s) s q = 1 → lw2 41 47 = zpk64 (zU (iv 72) s) q (zrn (zle (zU (iv 72) s)) q (s - q) - q)) {X : zX} (C : zC X cX10_next 3 RX10 none "next" 2 0 0) (E : zEnd X (91 + 3 * n) 0 0 (zQ n (fun v iv2 lw2 => v = none ∧ zNxt iv (zU (iv 72) s) s q iv2 lw2))) : zJs X n 3 234 [some (.ref 41), some (.int c), some (.int (nI m))] [] cur lw2 := by
  refine z_aload_n C dX10_next_234 rfl ?_
  refine z_getI C dX10_next_235 zf_X10_238 zk_41 (by decide) ?_
  refine z_iconst (v := 3) C dX10_next_238 (by decide) ?_
  refine z_icmp_eq (tgt := 252) C dX10_next_239 (by decide) (fun q239 => ?_) (fun q239 => ?_)
  · rw [h44] at q239
    refine zs_qvret C E dX10_next_252 ?_
    refine ⟨rfl, hk.1, hk.2.1, hk.2.2.1, h44, fun z => absurd q239 z, h46, h47⟩
  · rw [h44] at q239
    refine z_aload_n C dX10_next_242 rfl ?_
    refine z_dup C dX10_next_243 rfl ?_
    refine z_getI C dX10_next_244 zf_X10_219 zk_41 (by decide) ?_
    rw [show cur 41 42 = nI q from hk.2.2.2]
    refine z_iload_n C dX10_next_247 rfl ?_
    refine z_iadd C dX10_next_248 ?_
    rw [nI_add]
    refine z_putI C dX10_next_249 zf_X10_219 zk_41 (by decide) ?_
    refine zs_qvret C E dX10_next_252 ?_
    refine ⟨rfl, fun c hc => by rw [zu_n _ _ _ hc]; exact hk.1 c hc, fun j a b c d => by rw [zu_s, pk_un a]; exact hk.2.1 j a b c d, by rw [zu_s, pk_un (by decide)]; exact hk.2.2.1, by rw [zu_s, pk_un (by decide)]; exact h44, fun z => ?_, fun z => by rw [zu_s, pk_un (by decide)]; exact h46 z, h47⟩
    rw [zu_ss, hm q239]

set_option maxHeartbeats 1000000 in
set_option maxRecDepth 4000 in
theorem lm_nx2 (n : Nat) (iv : zI) (lw : zG) (s : Nat) (hs : iv 41 43 = nI s) (hs8 : s ≤ 800) (q : Nat) (hq : q < s) (c : Int32) (cur : zI) (hk : zNk iv q cur) (hL : zisL ((zU (iv 72) s) q)) {X : zX} (C : zC X cX10_next 3 RX10 none "next" 2 0 0) (E : zEnd X (91 + 3 * n) 0 0 (zQ n (fun v iv2 lw2 => v = none ∧ zNxt iv (zU (iv 72) s) s q iv2 lw2))) : ∀ (k : Nat) (m : Nat) (lw2 : zG), q + m + k = s → zrn (zle (zU (iv 72) s)) (q + m) k = zrn (zle (zU (iv 72) s)) q (s - q) → (m ≤ 8 → lw2 41 47 = zpk64 (zU (iv 72) s) q m) → zJs X n 3 78 [some (.ref 41), some (.int c), some (.int (nI m))] [] cur lw2 := by
  intro k
  induction k with
  | zero =>
    intro m lw2 hkk hr hw
    have e72 : cur 72 = iv 72 := hk.1 72 (by decide)
    have e43 : cur 41 43 = nI s := (hk.2.1 43 (by decide) (by decide) (by decide) (by decide)).trans hs
    have hU : ¬ zisL ((zU (iv 72) s) (q + m)) := by unfold zU; rw [if_neg (by omega)]; decide
    refine z_aload_n C dX10_next_78 rfl ?_
    refine z_iload_n C dX10_next_79 rfl ?_
    refine zs_callVi C dX10_next_80 zm_X10_225 zyX10_here (m_here n cur _ s e43 hs8 q m hk.2.2.2 (by omega)) zc_10 rfl zk_41 (by decide) (by decide) rfl rfl (Nat.le_of_ble_eq_true rfl) (by decide) (by decide) ?_
    rw [e72]
    refine zs_callSi C dX10_next_83 zm_X10_241 zyX10_isLetter (m_isL _ _ _ _) (by decide) rfl rfl (Nat.le_of_ble_eq_true rfl) (by decide) (by decide) ?_
    refine zb_if_eq (tgt := 119) C dX10_next_86 (by decide) (fun q86 => ?_) (fun q86 => ?_)
    · refine z_aload_n C dX10_next_119 rfl ?_
      refine z_iload_n C dX10_next_120 rfl ?_
      refine z_bipush (v := 8) C dX10_next_121 (by decide) ?_
      refine zt_icmp_le (tgt := 130) C dX10_next_123 (nI_toInt (by omega)) (show (8 : Int32).toInt = 8 by decide) (by decide) (fun q123 => ?_) (fun q123 => ?_)
      · refine z_iconst (v := 1) C dX10_next_130 (by decide) ?_
        refine z_putI C dX10_next_131 zf_X10_238 zk_41 (by decide) ?_
        refine z_goto (tgt := 234) C dX10_next_134 (by decide) ?_
        have e0 : q + m = zrn (zle (zU (iv 72) s)) q (s - q) := by
          rw [← hr]; rfl
        have es : zus (zU (iv 72) s) s q = 1 := by
          unfold zus
          rw [if_neg (show ¬ s ≤ q by omega), if_pos hL, if_neg (show ¬ 8 < zrn (zle (zU (iv 72) s)) q (s - q) - q by omega)]
        refine lm_nx4 n iv lw s hs hs8 q m _ lw2 c (hk.put (Or.inl rfl)) (by rw [zu_ss, es]) (fun _ => ?_) (fun z => absurd (es.symm.trans z) (by decide)) (fun z => ?_) (zC_le (by decide) C) E
        · unfold zte
          rw [if_neg (show ¬ s ≤ q by omega), if_pos hL]
          exact e0
        · rw [← e0, show q + m - q = m by omega]
          exact hw (by omega)
      · refine z_iconst (v := 3) C dX10_next_126 (by decide) ?_
        refine z_goto (tgt := 131) C dX10_next_127 (by decide) ?_
        refine z_putI C dX10_next_131 zf_X10_238 zk_41 (by decide) ?_
        refine z_goto (tgt := 234) C dX10_next_134 (by decide) ?_
        have e0 : q + m = zrn (zle (zU (iv 72) s)) q (s - q) := by
          rw [← hr]; rfl
        have es : zus (zU (iv 72) s) s q = 3 := by
          unfold zus
          rw [if_neg (show ¬ s ≤ q by omega), if_pos hL, if_pos (show 8 < zrn (zle (zU (iv 72) s)) q (s - q) - q by omega)]
        refine lm_nx4 n iv lw s hs hs8 q m _ lw2 c (hk.put (Or.inl rfl)) (by rw [zu_ss, es]) (fun _ => ?_) (fun z => absurd (es.symm.trans z) (by decide)) (fun z => ?_) (zC_le (by decide) C) E
        · unfold zte
          rw [if_neg (show ¬ s ≤ q by omega), if_pos hL]
          exact e0
        · exact absurd (es.symm.trans z) (by decide)
    · exact absurd q86 hU
  | succ k ih =>
    intro m lw2 hkk hr hw
    have e72 : cur 72 = iv 72 := hk.1 72 (by decide)
    have e43 : cur 41 43 = nI s := (hk.2.1 43 (by decide) (by decide) (by decide) (by decide)).trans hs
    refine z_aload_n C dX10_next_78 rfl ?_
    refine z_iload_n C dX10_next_79 rfl ?_
    refine zs_callVi C dX10_next_80 zm_X10_225 zyX10_here (m_here n cur _ s e43 hs8 q m hk.2.2.2 (by omega)) zc_10 rfl zk_41 (by decide) (by decide) rfl rfl (Nat.le_of_ble_eq_true rfl) (by decide) (by decide) ?_
    rw [e72]
    refine zs_callSi C dX10_next_83 zm_X10_241 zyX10_isLetter (m_isL _ _ _ _) (by decide) rfl rfl (Nat.le_of_ble_eq_true rfl) (by decide) (by decide) ?_
    refine zb_if_eq (tgt := 119) C dX10_next_86 (by decide) (fun q86 => ?_) (fun q86 => ?_)
    · refine z_aload_n C dX10_next_119 rfl ?_
      refine z_iload_n C dX10_next_120 rfl ?_
      refine z_bipush (v := 8) C dX10_next_121 (by decide) ?_
      refine zt_icmp_le (tgt := 130) C dX10_next_123 (nI_toInt (by omega)) (show (8 : Int32).toInt = 8 by decide) (by decide) (fun q123 => ?_) (fun q123 => ?_)
      · refine z_iconst (v := 1) C dX10_next_130 (by decide) ?_
        refine z_putI C dX10_next_131 zf_X10_238 zk_41 (by decide) ?_
        refine z_goto (tgt := 234) C dX10_next_134 (by decide) ?_
        have e0 : q + m = zrn (zle (zU (iv 72) s)) q (s - q) := by
          rw [← hr, zrn, if_neg (show ¬ zle (zU (iv 72) s) (q + m) = true from fun z => q86 (decide_eq_true_iff.mp z))]
        have es : zus (zU (iv 72) s) s q = 1 := by
          unfold zus
          rw [if_neg (show ¬ s ≤ q by omega), if_pos hL, if_neg (show ¬ 8 < zrn (zle (zU (iv 72) s)) q (s - q) - q by omega)]
        refine lm_nx4 n iv lw s hs hs8 q m _ lw2 c (hk.put (Or.inl rfl)) (by rw [zu_ss, es]) (fun _ => ?_) (fun z => absurd (es.symm.trans z) (by decide)) (fun z => ?_) (zC_le (by decide) C) E
        · unfold zte
          rw [if_neg (show ¬ s ≤ q by omega), if_pos hL]
          exact e0
        · rw [← e0, show q + m - q = m by omega]
          exact hw (by omega)
      · refine z_iconst (v := 3) C dX10_next_126 (by decide) ?_
        refine z_goto (tgt := 131) C dX10_next_127 (by decide) ?_
        refine z_putI C dX10_next_131 zf_X10_238 zk_41 (by decide) ?_
        refine z_goto (tgt := 234) C dX10_next_134 (by decide) ?_
        have e0 : q + m = zrn (zle (zU (iv 72) s)) q (s - q) := by
          rw [← hr, zrn, if_neg (show ¬ zle (zU (iv 72) s) (q + m) = true from fun z => q86 (decide_eq_true_iff.mp z))]
        have es : zus (zU (iv 72) s) s q = 3 := by
          unfold zus
          rw [if_neg (show ¬ s ≤ q by omega), if_pos hL, if_pos (show 8 < zrn (zle (zU (iv 72) s)) q (s - q) - q by omega)]
        refine lm_nx4 n iv lw s hs hs8 q m _ lw2 c (hk.put (Or.inl rfl)) (by rw [zu_ss, es]) (fun _ => ?_) (fun z => absurd (es.symm.trans z) (by decide)) (fun z => ?_) (zC_le (by decide) C) E
        · unfold zte
          rw [if_neg (show ¬ s ≤ q by omega), if_pos hL]
          exact e0
        · exact absurd (es.symm.trans z) (by decide)
    · refine z_iload_n C dX10_next_89 rfl ?_
      refine z_bipush (v := 8) C dX10_next_90 (by decide) ?_
      refine zt_icmp_ge (tgt := 113) C dX10_next_92 (nI_toInt (by omega)) (show (8 : Int32).toInt = 8 by decide) (by decide) (fun q92 => ?_) (fun q92 => ?_)
      · refine z_iinc (y := 1) (lv' := [some (.ref 41), some (.int c), some (.int _)]) C dX10_next_113 rfl (by decide) (by decide) rfl ?_
        refine z_goto (tgt := 78) C dX10_next_116 (by decide) ?_
        rw [nI_1 m]
        refine ih (m + 1) _ (by omega) (by rw [← hr, zrn, if_pos (show zle (zU (iv 72) s) (q + m) = true from decide_eq_true_iff.mpr q86)]; rfl) (fun h8 => absurd h8 (by omega))
      · refine z_aload_n C dX10_next_95 rfl ?_
        refine z_aload_n C dX10_next_96 rfl ?_
        refine z_getL C dX10_next_97 zf_X10_231 zk_41 (by decide) ?_
        refine z_bipush (v := 8) C dX10_next_100 (by decide) ?_
        refine z_lshl C dX10_next_102 ?_
        refine z_aload_n C dX10_next_103 rfl ?_
        refine z_iload_n C dX10_next_104 rfl ?_
        refine zs_callVi C dX10_next_105 zm_X10_225 zyX10_here (m_here n cur _ s e43 hs8 q m hk.2.2.2 (by omega)) zc_10 rfl zk_41 (by decide) (by decide) rfl rfl (Nat.le_of_ble_eq_true rfl) (by decide) (by decide) ?_
        rw [e72]
        refine z_i2l C dX10_next_108 ?_
        refine z_lor C dX10_next_109 ?_
        refine z_putL C dX10_next_110 zf_X10_231 zk_41 (by decide) ?_
        refine z_iinc (y := 1) (lv' := [some (.ref 41), some (.int c), some (.int _)]) C dX10_next_113 rfl (by decide) (by decide) rfl ?_
        refine z_goto (tgt := 78) C dX10_next_116 (by decide) ?_
        rw [nI_1 m]
        refine ih (m + 1) _ (by omega) (by rw [← hr, zrn, if_pos (show zle (zU (iv 72) s) (q + m) = true from decide_eq_true_iff.mpr q86)]; rfl) (fun h8 => ?_)
        rw [zpk_uLs, show lw2 41 47 = zpk64 (zU (iv 72) s) q m from hw (by omega)]
        rfl

theorem zor_n {a b : Prop} (h : ¬ a) (h2 : ¬ b) : ¬ (a ∨ b) := fun z => z.elim h h2

set_option maxHeartbeats 1000000 in
set_option maxRecDepth 4000 in
theorem lm_nx3 (n : Nat) (iv : zI) (lw : zG) (s : Nat) (hs : iv 41 43 = nI s) (hs8 : s ≤ 800) (q : Nat) (hq : q < s) (c : Int32) (hL : ¬ zisL ((zU (iv 72) s) q)) (hD : zisD ((zU (iv 72) s) q)) (lw2 : zG) {X : zX} (C : zC X cX10_next 3 RX10 none "next" 2 0 0) (E : zEnd X (91 + 3 * n) 0 0 (zQ n (fun v iv2 lw2 => v = none ∧ zNxt iv (zU (iv 72) s) s q iv2 lw2))) : ∀ (k : Nat) (m : Nat) (cur : zI), zNk iv q cur → q + m + k = s → zrn (zdi (zU (iv 72) s)) (q + m) k = zrn (zdi (zU (iv 72) s)) q (s - q) → (m ≤ 6 → cur 41 46 = znm (zU (iv 72) s) q m) → zJs X n 3 144 [some (.ref 41), some (.int c), some (.int (nI m))] [] cur lw2 := by
  intro k
  induction k with
  | zero =>
    intro m cur hk hkk hr hw
    have e72 : cur 72 = iv 72 := hk.1 72 (by decide)
    have e43 : cur 41 43 = nI s := (hk.2.1 43 (by decide) (by decide) (by decide) (by decide)).trans hs
    have hU : ¬ zisD ((zU (iv 72) s) (q + m)) := by unfold zU; rw [if_neg (by omega)]; decide
    refine z_aload_n C dX10_next_144 rfl ?_
    refine z_iload_n C dX10_next_145 rfl ?_
    refine zs_callVi C dX10_next_146 zm_X10_225 zyX10_here (m_here n cur _ s e43 hs8 q m hk.2.2.2 (by omega)) zc_10 rfl zk_41 (by decide) (by decide) rfl rfl (Nat.le_of_ble_eq_true rfl) (by decide) (by decide) ?_
    rw [e72]
    refine zs_callSi C dX10_next_149 zm_X10_244 zyX10_isDigit (m_isD _ _ _ _) (by decide) rfl rfl (Nat.le_of_ble_eq_true rfl) (by decide) (by decide) ?_
    refine zb_if_eq (tgt := 187) C dX10_next_152 (by decide) (fun q152 => ?_) (fun q152 => ?_)
    · refine z_aload_n C dX10_next_187 rfl ?_
      refine z_iload_n C dX10_next_188 rfl ?_
      refine z_bipush (v := 6) C dX10_next_189 (by decide) ?_
      refine zt_icmp_gt (tgt := 205) C dX10_next_191 (nI_toInt (by omega)) (show (6 : Int32).toInt = 6 by decide) (by decide) (fun q191 => ?_) (fun q191 => ?_)
      · refine z_iconst (v := 3) C dX10_next_205 (by decide) ?_
        refine z_goto (tgt := 210) C dX10_next_206 (by decide) ?_
        refine z_putI C dX10_next_210 zf_X10_238 zk_41 (by decide) ?_
        refine z_goto (tgt := 234) C dX10_next_213 (by decide) ?_
        have e0 : q + m = zrn (zdi (zU (iv 72) s)) q (s - q) := by
          rw [← hr]; rfl
        have es : zus (zU (iv 72) s) s q = 3 := by
          unfold zus
          rw [if_neg (show ¬ s ≤ q by omega), if_neg hL, if_pos hD, if_pos (Or.inl (show 6 < zrn (zdi (zU (iv 72) s)) q (s - q) - q by omega))]
        refine lm_nx4 n iv lw s hs hs8 q m _ lw2 c (hk.put (Or.inl rfl)) (by rw [zu_ss, es]) (fun _ => ?_) (fun z => ?_) (fun z => absurd (es.symm.trans z) (by decide)) (zC_le (by decide) C) E
        · unfold zte
          rw [if_neg (show ¬ s ≤ q by omega), if_neg hL, if_pos hD]
          exact e0
        · exact absurd (es.symm.trans z) (by decide)
      · refine z_aload_n C dX10_next_194 rfl ?_
        refine z_iload_n C dX10_next_195 rfl ?_
        refine zs_callVi C dX10_next_196 zm_X10_225 zyX10_here (m_here n cur _ s e43 hs8 q m hk.2.2.2 (by omega)) zc_10 rfl zk_41 (by decide) (by decide) rfl rfl (Nat.le_of_ble_eq_true rfl) (by decide) (by decide) ?_
        rw [e72]
        refine zs_callSi C dX10_next_199 zm_X10_241 zyX10_isLetter (m_isL _ _ _ _) (by decide) rfl rfl (Nat.le_of_ble_eq_true rfl) (by decide) (by decide) ?_
        refine zb_if_eq (tgt := 209) C dX10_next_202 (by decide) (fun q202 => ?_) (fun q202 => ?_)
        · refine z_iconst (v := 2) C dX10_next_209 (by decide) ?_
          refine z_putI C dX10_next_210 zf_X10_238 zk_41 (by decide) ?_
          refine z_goto (tgt := 234) C dX10_next_213 (by decide) ?_
          have e0 : q + m = zrn (zdi (zU (iv 72) s)) q (s - q) := by
            rw [← hr]; rfl
          have es : zus (zU (iv 72) s) s q = 2 := by
            unfold zus
            rw [if_neg (show ¬ s ≤ q by omega), if_neg hL, if_pos hD, if_neg (zor_n (show ¬ 6 < zrn (zdi (zU (iv 72) s)) q (s - q) - q by omega) (by rw [← e0]; exact q202))]
          refine lm_nx4 n iv lw s hs hs8 q m _ lw2 c (hk.put (Or.inl rfl)) (by rw [zu_ss, es]) (fun _ => ?_) (fun z => ?_) (fun z => absurd (es.symm.trans z) (by decide)) (zC_le (by decide) C) E
          · unfold zte
            rw [if_neg (show ¬ s ≤ q by omega), if_neg hL, if_pos hD]
            exact e0
          · rw [← e0, show q + m - q = m by omega, zu_s, pk_un (by decide)]
            exact hw (by omega)
        · refine z_iconst (v := 3) C dX10_next_205 (by decide) ?_
          refine z_goto (tgt := 210) C dX10_next_206 (by decide) ?_
          refine z_putI C dX10_next_210 zf_X10_238 zk_41 (by decide) ?_
          refine z_goto (tgt := 234) C dX10_next_213 (by decide) ?_
          have e0 : q + m = zrn (zdi (zU (iv 72) s)) q (s - q) := by
            rw [← hr]; rfl
          have es : zus (zU (iv 72) s) s q = 3 := by
            unfold zus
            rw [if_neg (show ¬ s ≤ q by omega), if_neg hL, if_pos hD, if_pos (Or.inr (by rw [← e0]; exact q202))]
          refine lm_nx4 n iv lw s hs hs8 q m _ lw2 c (hk.put (Or.inl rfl)) (by rw [zu_ss, es]) (fun _ => ?_) (fun z => ?_) (fun z => absurd (es.symm.trans z) (by decide)) (zC_le (by decide) C) E
          · unfold zte
            rw [if_neg (show ¬ s ≤ q by omega), if_neg hL, if_pos hD]
            exact e0
          · exact absurd (es.symm.trans z) (by decide)
    · exact absurd q152 hU
  | succ k ih =>
    intro m cur hk hkk hr hw
    have e72 : cur 72 = iv 72 := hk.1 72 (by decide)
    have e43 : cur 41 43 = nI s := (hk.2.1 43 (by decide) (by decide) (by decide) (by decide)).trans hs
    refine z_aload_n C dX10_next_144 rfl ?_
    refine z_iload_n C dX10_next_145 rfl ?_
    refine zs_callVi C dX10_next_146 zm_X10_225 zyX10_here (m_here n cur _ s e43 hs8 q m hk.2.2.2 (by omega)) zc_10 rfl zk_41 (by decide) (by decide) rfl rfl (Nat.le_of_ble_eq_true rfl) (by decide) (by decide) ?_
    rw [e72]
    refine zs_callSi C dX10_next_149 zm_X10_244 zyX10_isDigit (m_isD _ _ _ _) (by decide) rfl rfl (Nat.le_of_ble_eq_true rfl) (by decide) (by decide) ?_
    refine zb_if_eq (tgt := 187) C dX10_next_152 (by decide) (fun q152 => ?_) (fun q152 => ?_)
    · refine z_aload_n C dX10_next_187 rfl ?_
      refine z_iload_n C dX10_next_188 rfl ?_
      refine z_bipush (v := 6) C dX10_next_189 (by decide) ?_
      refine zt_icmp_gt (tgt := 205) C dX10_next_191 (nI_toInt (by omega)) (show (6 : Int32).toInt = 6 by decide) (by decide) (fun q191 => ?_) (fun q191 => ?_)
      · refine z_iconst (v := 3) C dX10_next_205 (by decide) ?_
        refine z_goto (tgt := 210) C dX10_next_206 (by decide) ?_
        refine z_putI C dX10_next_210 zf_X10_238 zk_41 (by decide) ?_
        refine z_goto (tgt := 234) C dX10_next_213 (by decide) ?_
        have e0 : q + m = zrn (zdi (zU (iv 72) s)) q (s - q) := by
          rw [← hr, zrn, if_neg (show ¬ zdi (zU (iv 72) s) (q + m) = true from fun z => q152 (decide_eq_true_iff.mp z))]
        have es : zus (zU (iv 72) s) s q = 3 := by
          unfold zus
          rw [if_neg (show ¬ s ≤ q by omega), if_neg hL, if_pos hD, if_pos (Or.inl (show 6 < zrn (zdi (zU (iv 72) s)) q (s - q) - q by omega))]
        refine lm_nx4 n iv lw s hs hs8 q m _ lw2 c (hk.put (Or.inl rfl)) (by rw [zu_ss, es]) (fun _ => ?_) (fun z => ?_) (fun z => absurd (es.symm.trans z) (by decide)) (zC_le (by decide) C) E
        · unfold zte
          rw [if_neg (show ¬ s ≤ q by omega), if_neg hL, if_pos hD]
          exact e0
        · exact absurd (es.symm.trans z) (by decide)
      · refine z_aload_n C dX10_next_194 rfl ?_
        refine z_iload_n C dX10_next_195 rfl ?_
        refine zs_callVi C dX10_next_196 zm_X10_225 zyX10_here (m_here n cur _ s e43 hs8 q m hk.2.2.2 (by omega)) zc_10 rfl zk_41 (by decide) (by decide) rfl rfl (Nat.le_of_ble_eq_true rfl) (by decide) (by decide) ?_
        rw [e72]
        refine zs_callSi C dX10_next_199 zm_X10_241 zyX10_isLetter (m_isL _ _ _ _) (by decide) rfl rfl (Nat.le_of_ble_eq_true rfl) (by decide) (by decide) ?_
        refine zb_if_eq (tgt := 209) C dX10_next_202 (by decide) (fun q202 => ?_) (fun q202 => ?_)
        · refine z_iconst (v := 2) C dX10_next_209 (by decide) ?_
          refine z_putI C dX10_next_210 zf_X10_238 zk_41 (by decide) ?_
          refine z_goto (tgt := 234) C dX10_next_213 (by decide) ?_
          have e0 : q + m = zrn (zdi (zU (iv 72) s)) q (s - q) := by
            rw [← hr, zrn, if_neg (show ¬ zdi (zU (iv 72) s) (q + m) = true from fun z => q152 (decide_eq_true_iff.mp z))]
          have es : zus (zU (iv 72) s) s q = 2 := by
            unfold zus
            rw [if_neg (show ¬ s ≤ q by omega), if_neg hL, if_pos hD, if_neg (zor_n (show ¬ 6 < zrn (zdi (zU (iv 72) s)) q (s - q) - q by omega) (by rw [← e0]; exact q202))]
          refine lm_nx4 n iv lw s hs hs8 q m _ lw2 c (hk.put (Or.inl rfl)) (by rw [zu_ss, es]) (fun _ => ?_) (fun z => ?_) (fun z => absurd (es.symm.trans z) (by decide)) (zC_le (by decide) C) E
          · unfold zte
            rw [if_neg (show ¬ s ≤ q by omega), if_neg hL, if_pos hD]
            exact e0
          · rw [← e0, show q + m - q = m by omega, zu_s, pk_un (by decide)]
            exact hw (by omega)
        · refine z_iconst (v := 3) C dX10_next_205 (by decide) ?_
          refine z_goto (tgt := 210) C dX10_next_206 (by decide) ?_
          refine z_putI C dX10_next_210 zf_X10_238 zk_41 (by decide) ?_
          refine z_goto (tgt := 234) C dX10_next_213 (by decide) ?_
          have e0 : q + m = zrn (zdi (zU (iv 72) s)) q (s - q) := by
            rw [← hr, zrn, if_neg (show ¬ zdi (zU (iv 72) s) (q + m) = true from fun z => q152 (decide_eq_true_iff.mp z))]
          have es : zus (zU (iv 72) s) s q = 3 := by
            unfold zus
            rw [if_neg (show ¬ s ≤ q by omega), if_neg hL, if_pos hD, if_pos (Or.inr (by rw [← e0]; exact q202))]
          refine lm_nx4 n iv lw s hs hs8 q m _ lw2 c (hk.put (Or.inl rfl)) (by rw [zu_ss, es]) (fun _ => ?_) (fun z => ?_) (fun z => absurd (es.symm.trans z) (by decide)) (zC_le (by decide) C) E
          · unfold zte
            rw [if_neg (show ¬ s ≤ q by omega), if_neg hL, if_pos hD]
            exact e0
          · exact absurd (es.symm.trans z) (by decide)
    · refine z_iload_n C dX10_next_155 rfl ?_
      refine z_bipush (v := 6) C dX10_next_156 (by decide) ?_
      refine zt_icmp_ge (tgt := 181) C dX10_next_158 (nI_toInt (by omega)) (show (6 : Int32).toInt = 6 by decide) (by decide) (fun q158 => ?_) (fun q158 => ?_)
      · refine z_iinc (y := 1) (lv' := [some (.ref 41), some (.int c), some (.int _)]) C dX10_next_181 rfl (by decide) (by decide) rfl ?_
        refine z_goto (tgt := 144) C dX10_next_184 (by decide) ?_
        rw [nI_1 m]
        refine ih (m + 1) _ hk (by omega) (by rw [← hr, zrn, if_pos (show zdi (zU (iv 72) s) (q + m) = true from decide_eq_true_iff.mpr q152)]; rfl) (fun h8 => absurd h8 (by omega))
      · refine z_aload_n C dX10_next_161 rfl ?_
        refine z_bipush (v := 10) C dX10_next_162 (by decide) ?_
        refine z_aload_n C dX10_next_164 rfl ?_
        refine z_getI C dX10_next_165 zf_X10_235 zk_41 (by decide) ?_
        refine z_imul C dX10_next_168 ?_
        refine z_aload_n C dX10_next_169 rfl ?_
        refine z_iload_n C dX10_next_170 rfl ?_
        refine zs_callVi C dX10_next_171 zm_X10_225 zyX10_here (m_here n cur _ s e43 hs8 q m hk.2.2.2 (by omega)) zc_10 rfl zk_41 (by decide) (by decide) rfl rfl (Nat.le_of_ble_eq_true rfl) (by decide) (by decide) ?_
        rw [e72]
        refine z_iadd C dX10_next_174 ?_
        refine z_bipush (v := 48) C dX10_next_175 (by decide) ?_
        refine z_isub C dX10_next_177 ?_
        refine z_putI C dX10_next_178 zf_X10_235 zk_41 (by decide) ?_
        refine z_iinc (y := 1) (lv' := [some (.ref 41), some (.int c), some (.int _)]) C dX10_next_181 rfl (by decide) (by decide) rfl ?_
        refine z_goto (tgt := 144) C dX10_next_184 (by decide) ?_
        rw [nI_1 m]
        refine ih (m + 1) _ (hk.put (Or.inr rfl)) (by omega) (by rw [← hr, zrn, if_pos (show zdi (zU (iv 72) s) (q + m) = true from decide_eq_true_iff.mpr q152)]; rfl) (fun h8 => ?_)
        rw [zu_ss, show cur 41 46 = znm (zU (iv 72) s) q m from hw (by omega), znm, Int32.mul_comm]

theorem zsgn_n {c : Int32} (h : zsgn c) : ¬ c = 1 ∧ ¬ c = 2 := by
  rcases h with h | h | h | h | h | h | h | h <;> subst h <;> decide

set_option maxHeartbeats 1000000 in
set_option maxRecDepth 4000 in
theorem lm_nx33 (n : Nat) (iv : zI) (lw : zG) (s : Nat) (hs : iv 41 43 = nI s) (hs8 : s ≤ 800) (hU8 : ∀ j, j < s → 0 ≤ (iv 72 j).toInt) (q : Nat) (hq : q ≤ s) {X : zX} (C : zC X cX10_next 3 RX10 none "next" 2 0 0) (E : zEnd X (91 + 3 * n) 0 0 (zQ n (fun v iv2 lw2 => v = none ∧ zNxt iv (zU (iv 72) s) s q iv2 lw2))) : zJs X n 3 33 [some (.ref 41), none, none] [] (zu iv 41 42 (nI q)) lw := by
  refine z_aload_n C dX10_next_33 rfl ?_
  refine z_aload_n C dX10_next_34 rfl ?_
  refine z_getI C dX10_next_35 zf_X10_219 zk_41 (by decide) ?_
  refine z_eqi (zu_ss _ _ _ _) ?_
  refine z_putI C dX10_next_38 zf_X10_228 zk_41 (by decide) ?_
  refine z_aload_n C dX10_next_41 rfl ?_
  refine z_iconst (v := 0) C dX10_next_42 (by decide) ?_
  refine zs_callVi C dX10_next_43 zm_X10_225 zyX10_here (m_here n (zu (zu iv 41 42 (nI q)) 41 45 (nI q)) _ s hs hs8 q 0 rfl (by omega)) zc_10 rfl zk_41 (by decide) (by decide) rfl rfl (Nat.le_of_ble_eq_true rfl) (by decide) (by decide) ?_
  refine z_eqi (show _ = (zU (iv 72) s) q from rfl) ?_
  refine z_istore_n (lv' := [some (.ref 41), some (.int _), none]) C dX10_next_46 (by decide) rfl ?_
  refine z_iconst (v := 0) C dX10_next_47 (by decide) ?_
  refine z_istore_n (lv' := [some (.ref 41), some (.int _), some (.int _)]) C dX10_next_48 (by decide) rfl ?_
  refine z_aload_n C dX10_next_49 rfl ?_
  refine z_lconst (v := 0) C dX10_next_50 (by decide) ?_
  refine z_putL C dX10_next_51 zf_X10_231 zk_41 (by decide) ?_
  refine z_aload_n C dX10_next_54 rfl ?_
  refine z_iconst (v := 0) C dX10_next_55 (by decide) ?_
  refine z_putI C dX10_next_56 zf_X10_235 zk_41 (by decide) ?_
  have hk : zNk iv q (zu (zu (zu iv 41 42 (nI q)) 41 45 (nI q)) 41 46 0) := by
    refine ⟨fun c hc => by rw [zu_n _ _ _ hc, zu_n _ _ _ hc, zu_n _ _ _ hc], fun j a b c d => ?_, ?_, ?_⟩
    · rw [zu_s, pk_un d, zu_s, pk_un c, zu_s, pk_un a]
    · rw [zu_s, pk_un (by decide), zu_ss]
    · rw [zu_s, pk_un (by decide), zu_s, pk_un (by decide), zu_ss]
  refine z_iload_n C dX10_next_59 rfl ?_
  refine zt_if_ge (tgt := 71) C dX10_next_60 rfl (by decide) (fun q60 => ?_) (fun q60 => ?_)
  · have hsq : q < s := by
      rcases Nat.lt_or_ge q s with z | z
      · exact z
      · exfalso; unfold zU at q60; rw [if_neg (by omega)] at q60; exact absurd q60 (by decide)
    refine z_iload_n C dX10_next_71 rfl ?_
    refine zs_callSi C dX10_next_72 zm_X10_241 zyX10_isLetter (m_isL _ _ _ _) (by decide) rfl rfl (Nat.le_of_ble_eq_true rfl) (by decide) (by decide) ?_
    refine zb_if_eq (tgt := 137) C dX10_next_75 (by decide) (fun q75 => ?_) (fun q75 => ?_)
    · refine z_iload_n C dX10_next_137 rfl ?_
      refine zs_callSi C dX10_next_138 zm_X10_244 zyX10_isDigit (m_isD _ _ _ _) (by decide) rfl rfl (Nat.le_of_ble_eq_true rfl) (by decide) (by decide) ?_
      refine zb_if_eq (tgt := 216) C dX10_next_141 (by decide) (fun q141 => ?_) (fun q141 => ?_)
      · refine z_iconst (v := 1) C dX10_next_216 (by decide) ?_
        refine z_istore_n (lv' := [some (.ref 41), some (.int _), some (.int _)]) C dX10_next_217 (by decide) rfl ?_
        refine z_aload_n C dX10_next_218 rfl ?_
        refine z_iload_n C dX10_next_219 rfl ?_
        refine zs_callSi C dX10_next_220 zm_X10_247 zyX10_isSign (m_isSign _ _ _ _) (by decide) rfl rfl (Nat.le_of_ble_eq_true rfl) (by decide) (by decide) ?_
        refine zb_if_eq (tgt := 230) C dX10_next_223 (by decide) (fun q223 => ?_) (fun q223 => ?_)
        · refine z_iconst (v := 3) C dX10_next_230 (by decide) ?_
          refine z_putI C dX10_next_231 zf_X10_238 zk_41 (by decide) ?_
          have es : zus (zU (iv 72) s) s q = 3 := by unfold zus; rw [if_neg (show ¬ s ≤ q by omega), if_neg q75, if_neg q141, if_neg q223]
          exact lm_nx4 n iv lw s hs hs8 q 1 _ _ _ (hk.put (Or.inl rfl)) (by rw [zu_ss, es]) (fun _ => by unfold zte; rw [if_neg (show ¬ s ≤ q by omega), if_neg q75, if_neg q141]) (fun z => absurd (es.symm.trans z) (by decide)) (fun z => absurd (es.symm.trans z) (by decide)) (zC_le (by decide) C) E
        · refine z_iload_n C dX10_next_226 rfl ?_
          refine z_goto (tgt := 231) C dX10_next_227 (by decide) ?_
          refine z_putI C dX10_next_231 zf_X10_238 zk_41 (by decide) ?_
          have es : zus (zU (iv 72) s) s q = (zU (iv 72) s) q := by unfold zus; rw [if_neg (show ¬ s ≤ q by omega), if_neg q75, if_neg q141, if_pos q223]
          exact lm_nx4 n iv lw s hs hs8 q 1 _ _ _ (hk.put (Or.inl rfl)) (by rw [zu_ss, es]) (fun _ => by unfold zte; rw [if_neg (show ¬ s ≤ q by omega), if_neg q75, if_neg q141]) (fun z => absurd (es.symm.trans z) (zsgn_n q223).2) (fun z => absurd (es.symm.trans z) (zsgn_n q223).1) (zC_le (by decide) C) E
      · exact lm_nx3 n iv lw s hs hs8 q hsq _ q75 q141 _ (zC_le (by decide) C) E (s - q) 0 _ hk (by omega) rfl (fun _ => by rw [zu_ss]; rfl)
    · exact lm_nx2 n iv lw s hs hs8 q hsq _ _ hk q75 (zC_le (by decide) C) E (s - q) 0 _ (by omega) rfl (fun _ => zpk_uLs _ _)
  · have hsq : s ≤ q := by
      rcases Nat.lt_or_ge q s with z | z
      · have := hU8 q z; unfold zU at q60; rw [if_pos z] at q60; omega
      · exact z
    have es : zus (zU (iv 72) s) s q = 0 := by unfold zus; rw [if_pos hsq]
    refine z_aload_n C dX10_next_63 rfl ?_
    refine z_iconst (v := 0) C dX10_next_64 (by decide) ?_
    refine z_putI C dX10_next_65 zf_X10_238 zk_41 (by decide) ?_
    refine z_goto (tgt := 234) C dX10_next_68 (by decide) ?_
    exact lm_nx4 n iv lw s hs hs8 q 0 _ _ _ (hk.put (Or.inl rfl)) (by rw [zu_ss, es]) (fun _ => by unfold zte; rw [if_pos hsq]; rfl) (fun z => absurd (es.symm.trans z) (by decide)) (fun z => absurd (es.symm.trans z) (by decide)) (zC_le (by decide) C) E

set_option maxHeartbeats 1000000 in
set_option maxRecDepth 4000 in
theorem lm_nx0 (n : Nat) (iv : zI) (lw : zG) (s : Nat) (hs : iv 41 43 = nI s) (hs8 : s ≤ 800) (hU8 : ∀ j, j < s → 0 ≤ (iv 72 j).toInt) (q : Nat) {X : zX} (C : zC X cX10_next 3 RX10 none "next" 2 0 0) (E : zEnd X (91 + 3 * n) 0 0 (zQ n (fun v iv2 lw2 => v = none ∧ zNxt iv (zU (iv 72) s) s q iv2 lw2))) : ∀ (k : Nat) (p : Nat), p + k = s → zrn (zbl (zU (iv 72) s)) p k = q → zJs X n 3 0 [some (.ref 41), none, none] [] (zu iv 41 42 (nI p)) lw := by
  intro k
  induction k with
  | zero =>
    intro p hk hr
    have ea : zu iv 41 42 (nI p) 41 42 = nI p := zu_ss _ _ _ _
    refine z_aload_n C dX10_next_0 rfl ?_
    refine z_iconst (v := 0) C dX10_next_1 (by decide) ?_
    refine zs_callVi C dX10_next_2 zm_X10_225 zyX10_here (m_here n (zu iv 41 42 (nI p)) _ s hs hs8 p 0 ea (by omega)) zc_10 rfl zk_41 (by decide) (by decide) rfl rfl (Nat.le_of_ble_eq_true rfl) (by decide) (by decide) ?_
    refine z_bipush (v := 32) C dX10_next_5 (by decide) ?_
    refine z_icmp_eq (tgt := 20) C dX10_next_7 (by decide) (fun q7 => ?_) (fun q7 => ?_)
    · exact absurd ((show (zU (iv 72) s) p = 32 from q7).symm.trans (by unfold zU; rw [if_neg (by omega)])) (by decide)
    · refine z_aload_n C dX10_next_10 rfl ?_
      refine z_iconst (v := 0) C dX10_next_11 (by decide) ?_
      refine zs_callVi C dX10_next_12 zm_X10_225 zyX10_here (m_here n (zu iv 41 42 (nI p)) _ s hs hs8 p 0 ea (by omega)) zc_10 rfl zk_41 (by decide) (by decide) rfl rfl (Nat.le_of_ble_eq_true rfl) (by decide) (by decide) ?_
      refine z_bipush (v := 10) C dX10_next_15 (by decide) ?_
      refine z_icmp_ne (tgt := 33) C dX10_next_17 (by decide) (fun q17 => ?_) (fun q17 => ?_)
      · have ep : p = q := by rw [← hr]; rfl
        subst ep
        exact lm_nx33 n iv lw s hs hs8 hU8 p (by omega) (zC_le (by decide) C) E
      · exact absurd ((show (zU (iv 72) s) p = 10 from q17).symm.trans (by unfold zU; rw [if_neg (by omega)])) (by decide)
  | succ k ih =>
    intro p hk hr
    have ea : zu iv 41 42 (nI p) 41 42 = nI p := zu_ss _ _ _ _
    refine z_aload_n C dX10_next_0 rfl ?_
    refine z_iconst (v := 0) C dX10_next_1 (by decide) ?_
    refine zs_callVi C dX10_next_2 zm_X10_225 zyX10_here (m_here n (zu iv 41 42 (nI p)) _ s hs hs8 p 0 ea (by omega)) zc_10 rfl zk_41 (by decide) (by decide) rfl rfl (Nat.le_of_ble_eq_true rfl) (by decide) (by decide) ?_
    refine z_bipush (v := 32) C dX10_next_5 (by decide) ?_
    refine z_icmp_eq (tgt := 20) C dX10_next_7 (by decide) (fun q7 => ?_) (fun q7 => ?_)
    · refine z_aload_n C dX10_next_20 rfl ?_
      refine z_dup C dX10_next_21 rfl ?_
      refine z_getI C dX10_next_22 zf_X10_219 zk_41 (by decide) ?_
      rw [ea]
      refine z_iconst (v := 1) C dX10_next_25 (by decide) ?_
      refine z_iadd C dX10_next_26 ?_
      refine z_putI C dX10_next_27 zf_X10_219 zk_41 (by decide) ?_
      refine z_goto (tgt := 0) C dX10_next_30 (by decide) ?_
      rw [nI_1 p, zu_zu]
      refine ih (p + 1) (by omega) ?_
      rw [← hr, zrn, if_pos (show zbl (zU (iv 72) s) p = true from decide_eq_true_iff.mpr (Or.inl q7))]
    · refine z_aload_n C dX10_next_10 rfl ?_
      refine z_iconst (v := 0) C dX10_next_11 (by decide) ?_
      refine zs_callVi C dX10_next_12 zm_X10_225 zyX10_here (m_here n (zu iv 41 42 (nI p)) _ s hs hs8 p 0 ea (by omega)) zc_10 rfl zk_41 (by decide) (by decide) rfl rfl (Nat.le_of_ble_eq_true rfl) (by decide) (by decide) ?_
      refine z_bipush (v := 10) C dX10_next_15 (by decide) ?_
      refine z_icmp_ne (tgt := 33) C dX10_next_17 (by decide) (fun q17 => ?_) (fun q17 => ?_)
      · have ep : p = q := by rw [← hr, zrn, if_neg (show ¬ zbl (zU (iv 72) s) p = true from fun z => by rcases (decide_eq_true_iff.mp z) with z | z <;> first | exact q7 z | exact q17 z)]
        subst ep
        exact lm_nx33 n iv lw s hs hs8 hU8 p (by omega) (zC_le (by decide) C) E
      · refine z_aload_n C dX10_next_20 rfl ?_
        refine z_dup C dX10_next_21 rfl ?_
        refine z_getI C dX10_next_22 zf_X10_219 zk_41 (by decide) ?_
        rw [ea]
        refine z_iconst (v := 1) C dX10_next_25 (by decide) ?_
        refine z_iadd C dX10_next_26 ?_
        refine z_putI C dX10_next_27 zf_X10_219 zk_41 (by decide) ?_
        refine z_goto (tgt := 0) C dX10_next_30 (by decide) ?_
        rw [nI_1 p, zu_zu]
        refine ih (p + 1) (by omega) ?_
        rw [← hr, zrn, if_pos (show zbl (zU (iv 72) s) p = true from decide_eq_true_iff.mpr (Or.inr q17))]

set_option maxRecDepth 4000 in
theorem m_next (n : Nat) (iv : zI) (lw : zG) (s : Nat) (hs : iv 41 43 = nI s) (hs8 : s ≤ 800) (hU8 : ∀ j, j < s → 0 ≤ (iv 72 j).toInt) (p : Nat) (hp : p ≤ s) (ha : iv 41 42 = nI p) : zMs yX10_next cX10_next 3 none 2 [.ref 41] n iv lw (fun v iv2 lw2 => v = none ∧ zNxt iv (zU (iv 72) s) s (zrn (zbl (zU (iv 72) s)) p (s - p)) iv2 lw2) := by
  refine zM.of (by decide) (Nat.le_of_ble_eq_true rfl) (fun X C E => ?_)
  change zJs X n 3 0 [some (.ref 41), none, none] [] iv lw
  refine z_eqv (zu_id ha).symm ?_
  exact lm_nx0 n iv lw s hs hs8 hU8 _ C E (s - p) p (by omega) rfl
