/-! tokens -/
abbrev zisL (c : Int32) : Prop := 97 ≤ c.toInt ∧ c.toInt ≤ 122
abbrev zisD (c : Int32) : Prop := 48 ≤ c.toInt ∧ c.toInt ≤ 57
abbrev zisB (c : Int32) : Prop := c = 32 ∨ c = 10
/-- the text's byte at j; 0 outside -/
def zT (B : Nat → Int32) (s j : Nat) : Int32 := if j < s then B j else 0
/-- from p on, as long as f holds, n places at most -/
def zrn (f : Nat → Bool) : Nat → Nat → Nat
  | p, 0 => p
  | p, n + 1 => if f p then zrn f (p + 1) n else p
theorem zrn_ge (f : Nat → Bool) : ∀ n p, p ≤ zrn f p n ∧ zrn f p n ≤ p + n
  | 0, p => ⟨Nat.le_refl _, Nat.le_refl _⟩
  | n + 1, p => by
    have := zrn_ge f n (p + 1)
    unfold zrn
    split <;> omega
theorem zrn_in (f : Nat → Bool) : ∀ n p j, p ≤ j → j < zrn f p n → f j = true
  | 0, p, j, h1, h2 => by unfold zrn at h2; omega
  | n + 1, p, j, h1, h2 => by
    unfold zrn at h2
    by_cases hf : f p = true
    · rw [if_pos hf] at h2
      by_cases hj : j = p
      · subst hj; exact hf
      · exact zrn_in f n (p + 1) j (by omega) h2
    · rw [if_neg hf] at h2; omega
theorem zrn_out (f : Nat → Bool) : ∀ n p, zrn f p n < p + n → f (zrn f p n) = false
  | 0, p, h => by unfold zrn at h; omega
  | n + 1, p, h => by
    unfold zrn at h ⊢
    by_cases hf : f p = true
    · rw [if_pos hf] at h ⊢
      exact zrn_out f n (p + 1) (by omega)
    · rw [if_neg hf]; simpa using hf
def zbl (T : Nat → Int32) (j : Nat) : Bool := decide (zisB (T j))
def zle (T : Nat → Int32) (j : Nat) : Bool := decide (zisL (T j))
def zdi (T : Nat → Int32) (j : Nat) : Bool := decide (zisD (T j))
theorem zsubN {a b : Nat} (h : b ≤ a) (ha : a < 2 ^ 31) : nI a - nI b = nI (a - b) := by
  apply Int32.toInt_inj.mp
  rw [Int32.toInt_sub, nI_toInt (by omega), nI_toInt (by omega), nI_toInt (by omega), Int.bmod_eq_of_le (by omega) (by omega)]
  omega
theorem zu_ss (iv : zI) (k i : Nat) (x : Int32) : zu iv k i x k i = x := by rw [zu_s]; exact pk_us
theorem zu_zu (iv : zI) (k i : Nat) (x y : Int32) : zu (zu iv k i x) k i y = zu iv k i y := by
  funext c
  by_cases h : c = k
  · subst h
    rw [zu_s, zu_s, zu_s]
    funext j
    by_cases hj : j = i
    · subst hj; rw [pk_us, pk_us]
    · rw [pk_un hj, pk_un hj, pk_un hj]
  · rw [zu_n _ _ _ h, zu_n _ _ _ h, zu_n _ _ _ h]

set_option maxRecDepth 4000 in
theorem s_isL (n : Nat) (iv : zI) (lw : zG) (c : Int32) : zMi yX6_isLetter cX6_isLetter 1 (some .boolean) 0 [.int c] n iv lw (zb (zisL c)) iv lw := by
  refine zM.of (by decide) (Nat.le_of_ble_eq_true rfl) (fun X C E => ?_)
  change zJs X n 1 0 [some (.int c)] [] iv lw
  refine z_iload_n C dX6_isLetter_0 rfl ?_
  refine z_bipush (v := 97) C dX6_isLetter_1 (by decide) ?_
  refine zt_icmp_lt (tgt := 16) C dX6_isLetter_3 rfl (show (97 : Int32).toInt = 97 by decide) (by decide) (fun q3 => ?_) (fun q3 => ?_)
  · refine z_iconst (v := 0) C dX6_isLetter_16 (by decide) ?_
    refine zs_iret C E dX6_isLetter_17 rfl ?_ ?_ ?_
    · exact (zb_f (by omega)).symm
    · rfl
    · rfl
  · refine z_iload_n C dX6_isLetter_6 rfl ?_
    refine z_bipush (v := 122) C dX6_isLetter_7 (by decide) ?_
    refine zt_icmp_gt (tgt := 16) C dX6_isLetter_9 rfl (show (122 : Int32).toInt = 122 by decide) (by decide) (fun q9 => ?_) (fun q9 => ?_)
    · refine z_iconst (v := 0) C dX6_isLetter_16 (by decide) ?_
      refine zs_iret C E dX6_isLetter_17 rfl ?_ ?_ ?_
      · exact (zb_f (by omega)).symm
      · rfl
      · rfl
    · refine z_iconst (v := 1) C dX6_isLetter_12 (by decide) ?_
      refine z_goto (tgt := 17) C dX6_isLetter_13 (by decide) ?_
      refine zs_iret C E dX6_isLetter_17 rfl ?_ ?_ ?_
      · exact (zb_t (by omega)).symm
      · rfl
      · rfl

set_option maxRecDepth 4000 in
theorem s_isD (n : Nat) (iv : zI) (lw : zG) (c : Int32) : zMi yX6_isDigit cX6_isDigit 1 (some .boolean) 0 [.int c] n iv lw (zb (zisD c)) iv lw := by
  refine zM.of (by decide) (Nat.le_of_ble_eq_true rfl) (fun X C E => ?_)
  change zJs X n 1 0 [some (.int c)] [] iv lw
  refine z_iload_n C dX6_isDigit_0 rfl ?_
  refine z_bipush (v := 48) C dX6_isDigit_1 (by decide) ?_
  refine zt_icmp_lt (tgt := 16) C dX6_isDigit_3 rfl (show (48 : Int32).toInt = 48 by decide) (by decide) (fun q3 => ?_) (fun q3 => ?_)
  · refine z_iconst (v := 0) C dX6_isDigit_16 (by decide) ?_
    refine zs_iret C E dX6_isDigit_17 rfl ?_ ?_ ?_
    · exact (zb_f (by omega)).symm
    · rfl
    · rfl
  · refine z_iload_n C dX6_isDigit_6 rfl ?_
    refine z_bipush (v := 57) C dX6_isDigit_7 (by decide) ?_
    refine zt_icmp_gt (tgt := 16) C dX6_isDigit_9 rfl (show (57 : Int32).toInt = 57 by decide) (by decide) (fun q9 => ?_) (fun q9 => ?_)
    · refine z_iconst (v := 0) C dX6_isDigit_16 (by decide) ?_
      refine zs_iret C E dX6_isDigit_17 rfl ?_ ?_ ?_
      · exact (zb_f (by omega)).symm
      · rfl
      · rfl
    · refine z_iconst (v := 1) C dX6_isDigit_12 (by decide) ?_
      refine z_goto (tgt := 17) C dX6_isDigit_13 (by decide) ?_
      refine zs_iret C E dX6_isDigit_17 rfl ?_ ?_ ?_
      · exact (zb_t (by omega)).symm
      · rfl
      · rfl

set_option maxRecDepth 4000 in
theorem s_byteAt (n : Nat) (iv : zI) (lw : zG) (s : Nat) (hs : iv 15 1 = nI s) (hs8 : s ≤ 800) (j : Nat) (hj : j ≤ 800) : zMi yX6_byteAt cX6_byteAt 2 (some .int) 0 [.ref 15, .int (nI j)] n iv lw (zT (iv 13) s j) iv lw := by
  refine zM.of (by decide) (Nat.le_of_ble_eq_true rfl) (fun X C E => ?_)
  change zJs X n 2 0 [some (.ref 15), some (.int (nI j))] [] iv lw
  refine z_iload_n C dX6_byteAt_0 rfl ?_
  refine zt_if_lt (tgt := 30) C dX6_byteAt_1 (nI_toInt (by omega)) (by decide) (fun q1 => ?_) (fun q1 => ?_)
  · exfalso; omega
  · refine z_iload_n C dX6_byteAt_4 rfl ?_
    refine z_aload_n C dX6_byteAt_5 rfl ?_
    refine z_getI C dX6_byteAt_6 zf_X6_26 zk_15 (by decide) ?_
    refine zt_icmp_ge (tgt := 30) C dX6_byteAt_9 (nI_toInt (by omega)) (zt_nI hs (by omega)) (by decide) (fun q9 => ?_) (fun q9 => ?_)
    · refine z_iconst (v := 0) C dX6_byteAt_30 (by decide) ?_
      refine zs_iret C E dX6_byteAt_31 rfl ?_ ?_ ?_
      · exact (if_neg (by omega)).symm
      · rfl
      · rfl
    · refine z_iload_n C dX6_byteAt_12 rfl ?_
      refine z_aload_n C dX6_byteAt_13 rfl ?_
      refine zs_getR C dX6_byteAt_14 zf_X6_9 zk_15 (by decide) (zr_15_0 n) ?_
      refine z_alenB (v := 800) C dX6_byteAt_17 zk_13 (by decide) (by decide) ?_
      refine zt_icmp_ge (tgt := 30) C dX6_byteAt_18 (nI_toInt (by omega)) (show (800 : Int32).toInt = 800 by decide) (by decide) (fun q18 => ?_) (fun q18 => ?_)
      · exfalso; omega
      · refine z_aload_n C dX6_byteAt_21 rfl ?_
        refine zs_getR C dX6_byteAt_22 zf_X6_9 zk_15 (by decide) (zr_15_0 n) ?_
        refine z_iload_n C dX6_byteAt_25 rfl ?_
        refine z_bald C dX6_byteAt_26 zk_13 (by decide) ?_ ?_
        · exact vp_in_nI (by omega) (by decide)
        refine z_goto (tgt := 31) C dX6_byteAt_27 (by decide) ?_
        refine zs_iret C E dX6_byteAt_31 rfl ?_ ?_ ?_
        · rw [nI_clamp (by omega)]
          exact (if_pos (by omega)).symm
        · rfl
        · rfl

set_option maxRecDepth 4000 in
theorem ls_skip (n : Nat) (iv : zI) (lw : zG) (s : Nat) (hs : iv 15 1 = nI s) (hs8 : s ≤ 800) (e0 : Nat) {X : zX} (C : zC X cX6_skipBlanks 1 RX6 none "skipBlanks" 1 0 0) (E : zEnd X (91 + 3 * n) 0 0 (zQ n (zQv (zu iv 15 2 (nI e0)) lw))) : ∀ (k : Nat) (p : Nat), p + k = s → zrn (zbl (zT (iv 13) s)) p k = e0 → zJs X n 1 0 [some (.ref 15)] [] (zu iv 15 2 (nI p)) lw := by
  intro k
  induction k with
  | zero =>
    intro p hk hr
    have ea : zu iv 15 2 (nI p) 15 2 = nI p := zu_ss _ _ _ _
    refine z_aload_n C dX6_skipBlanks_0 rfl ?_
    refine z_getI C dX6_skipBlanks_1 zf_X6_35 zk_15 (by decide) ?_
    refine z_aload_n C dX6_skipBlanks_4 rfl ?_
    refine z_getI C dX6_skipBlanks_5 zf_X6_26 zk_15 (by decide) ?_
    refine zt_icmp_ge (tgt := 50) C dX6_skipBlanks_8 (zt_nI (show zu iv 15 2 (nI p) 15 2 = nI p from zu_ss _ _ _ _) (by omega)) (zt_nI (show zu iv 15 2 (nI p) 15 1 = nI s from hs) (by omega)) (by decide) (fun q8 => ?_) (fun q8 => ?_)
    · refine zs_vret C E dX6_skipBlanks_50 ?_ rfl
      rw [← hr]; rfl
    · exfalso; omega
  | succ k ih =>
    intro p hk hr
    have ea : zu iv 15 2 (nI p) 15 2 = nI p := zu_ss _ _ _ _
    refine z_aload_n C dX6_skipBlanks_0 rfl ?_
    refine z_getI C dX6_skipBlanks_1 zf_X6_35 zk_15 (by decide) ?_
    refine z_aload_n C dX6_skipBlanks_4 rfl ?_
    refine z_getI C dX6_skipBlanks_5 zf_X6_26 zk_15 (by decide) ?_
    refine zt_icmp_ge (tgt := 50) C dX6_skipBlanks_8 (zt_nI (show zu iv 15 2 (nI p) 15 2 = nI p from zu_ss _ _ _ _) (by omega)) (zt_nI (show zu iv 15 2 (nI p) 15 1 = nI s from hs) (by omega)) (by decide) (fun q8 => ?_) (fun q8 => ?_)
    · exfalso; omega
    · refine z_aload_n C dX6_skipBlanks_11 rfl ?_
      refine z_aload_n C dX6_skipBlanks_12 rfl ?_
      refine z_getI C dX6_skipBlanks_13 zf_X6_35 zk_15 (by decide) ?_
      rw [ea]
      refine zs_callVi C dX6_skipBlanks_16 zm_X6_45 zyX6_byteAt (s_byteAt n (zu iv 15 2 (nI p)) _ s hs hs8 p (by omega)) zc_6 rfl zk_15 (by decide) (by decide) rfl rfl (Nat.le_of_ble_eq_true rfl) (by decide) (by decide) ?_
      refine z_bipush (v := 32) C dX6_skipBlanks_19 (by decide) ?_
      refine z_icmp_eq (tgt := 37) C dX6_skipBlanks_21 (by decide) (fun q21 => ?_) (fun q21 => ?_)
      · refine z_aload_n C dX6_skipBlanks_37 rfl ?_
        refine z_dup C dX6_skipBlanks_38 rfl ?_
        refine z_getI C dX6_skipBlanks_39 zf_X6_35 zk_15 (by decide) ?_
        rw [ea]
        refine z_iconst (v := 1) C dX6_skipBlanks_42 (by decide) ?_
        refine z_iadd C dX6_skipBlanks_43 ?_
        refine z_putI C dX6_skipBlanks_44 zf_X6_35 zk_15 (by decide) ?_
        refine z_goto (tgt := 0) C dX6_skipBlanks_47 (by decide) ?_
        rw [nI_1 p, zu_zu]
        refine ih (p + 1) (by omega) ?_
        rw [← hr, zrn, if_pos (show zbl (zT (iv 13) s) p = true from decide_eq_true_iff.mpr (Or.inl q21))]
      · refine z_aload_n C dX6_skipBlanks_24 rfl ?_
        refine z_aload_n C dX6_skipBlanks_25 rfl ?_
        refine z_getI C dX6_skipBlanks_26 zf_X6_35 zk_15 (by decide) ?_
        rw [ea]
        refine zs_callVi C dX6_skipBlanks_29 zm_X6_45 zyX6_byteAt (s_byteAt n (zu iv 15 2 (nI p)) _ s hs hs8 p (by omega)) zc_6 rfl zk_15 (by decide) (by decide) rfl rfl (Nat.le_of_ble_eq_true rfl) (by decide) (by decide) ?_
        refine z_bipush (v := 10) C dX6_skipBlanks_32 (by decide) ?_
        refine z_icmp_ne (tgt := 50) C dX6_skipBlanks_34 (by decide) (fun q34 => ?_) (fun q34 => ?_)
        · refine zs_vret C E dX6_skipBlanks_50 ?_ rfl
          rw [← hr, zrn, if_neg (fun z => by rcases (decide_eq_true_iff.mp z) with z | z <;> first | exact q21 z | exact q34 z)]
        · refine z_aload_n C dX6_skipBlanks_37 rfl ?_
          refine z_dup C dX6_skipBlanks_38 rfl ?_
          refine z_getI C dX6_skipBlanks_39 zf_X6_35 zk_15 (by decide) ?_
          rw [ea]
          refine z_iconst (v := 1) C dX6_skipBlanks_42 (by decide) ?_
          refine z_iadd C dX6_skipBlanks_43 ?_
          refine z_putI C dX6_skipBlanks_44 zf_X6_35 zk_15 (by decide) ?_
          refine z_goto (tgt := 0) C dX6_skipBlanks_47 (by decide) ?_
          rw [nI_1 p, zu_zu]
          refine ih (p + 1) (by omega) ?_
          rw [← hr, zrn, if_pos (show zbl (zT (iv 13) s) p = true from decide_eq_true_iff.mpr (Or.inr q34))]

theorem zu_id {iv : zI} {k i : Nat} {x : Int32} (h : iv k i = x) : zu iv k i x = iv := by
  funext c
  by_cases hc : c = k
  · subst hc
    rw [zu_s]
    funext j
    by_cases hj : j = i
    · subst hj; rw [pk_us]; exact h.symm
    · rw [pk_un hj]
  · rw [zu_n _ _ _ hc]
set_option maxRecDepth 4000 in
theorem s_skip (n : Nat) (iv : zI) (lw : zG) (s : Nat) (hs : iv 15 1 = nI s) (hs8 : s ≤ 800) (p : Nat) (hp : p ≤ s) (ha : iv 15 2 = nI p) : zMv yX6_skipBlanks cX6_skipBlanks 1 none 1 [.ref 15] n iv lw (zu iv 15 2 (nI (zrn (zbl (zT (iv 13) s)) p (s - p)))) lw := by
  refine zM.of (by decide) (Nat.le_of_ble_eq_true rfl) (fun X C E => ?_)
  change zJs X n 1 0 [some (.ref 15)] [] iv lw
  refine z_eqv (zu_id ha).symm ?_
  exact ls_skip n iv lw s hs hs8 _ C E (s - p) p (by omega) rfl

def zspo (T : Nat → Int32) (q f : Nat) : Nat → Nat → Bool
  | _, 0 => true
  | j, k + 1 => if f + j < 88 ∧ zsb 0 (f + j) = T (q + j) then zspo T q f (j + 1) k else false

set_option maxHeartbeats 1000000 in
set_option maxRecDepth 4000 in
theorem ls_sp (n : Nat) (iv : zI) (lw : zG) (s : Nat) (hs : iv 15 1 = nI s) (hs8 : s ≤ 800) (q e f : Nat) (ha : iv 15 2 = nI e) (he : e ≤ s) (hq : q ≤ e) (hf : f ≤ 88) (r0 : Bool) {X : zX} (C : zC X cX6_spells 5 RX6 (some .boolean) "spells" 7 0 0) (E : zEnd X (91 + 3 * n) 0 0 (zQ n (zQi (zb (r0 = true)) iv lw))) : ∀ (k : Nat) (j : Nat), q + j + k = e → zspo (zT (iv 13) s) q f j k = r0 → zJs X n 5 2 [some (.ref 15), some (.int (nI q)), some (.int (nI f)), some (.int (nI (q + j))), none] [] iv lw := by
  intro k
  induction k with
  | zero =>
    intro j hk hr
    refine z_iload_n C dX6_spells_2 rfl ?_
    refine z_aload_n C dX6_spells_3 rfl ?_
    refine z_getI C dX6_spells_4 zf_X6_35 zk_15 (by decide) ?_
    refine zt_icmp_ge (tgt := 55) C dX6_spells_7 (nI_toInt (by omega)) (zt_nI ha (by omega)) (by decide) (fun q7 => ?_) (fun q7 => ?_)
    · refine z_iconst (v := 1) C dX6_spells_55 (by decide) ?_
      refine zs_iret C E dX6_spells_56 rfl ?_ ?_ ?_
      · rw [← hr]
        exact (zb_t rfl).symm
      · rfl
      · rfl
    · exfalso; omega
  | succ k ih =>
    intro j hk hr
    refine z_iload_n C dX6_spells_2 rfl ?_
    refine z_aload_n C dX6_spells_3 rfl ?_
    refine z_getI C dX6_spells_4 zf_X6_35 zk_15 (by decide) ?_
    refine zt_icmp_ge (tgt := 55) C dX6_spells_7 (nI_toInt (by omega)) (zt_nI ha (by omega)) (by decide) (fun q7 => ?_) (fun q7 => ?_)
    · exfalso; omega
    · refine z_iload_n C dX6_spells_10 rfl ?_
      refine z_iload_n C dX6_spells_11 rfl ?_
      refine z_iadd C dX6_spells_12 ?_
      refine z_iload_n C dX6_spells_13 rfl ?_
      refine z_isub C dX6_spells_14 ?_
      have ej : nI f + nI (q + j) - nI q = nI (f + j) := by
        rw [nI_add, zsubN (by omega) (by omega)]
        congr 1
        omega
      rw [ej]
      refine z_istore (lv' := [some (.ref 15), some (.int _), some (.int _), some (.int _), some (.int _)]) C dX6_spells_15 (by decide) rfl ?_
      refine z_iload C dX6_spells_17 rfl ?_
      refine zt_if_lt (tgt := 47) C dX6_spells_19 (nI_toInt (by omega)) (by decide) (fun q19 => ?_) (fun q19 => ?_)
      · exfalso; omega
      · refine z_iload C dX6_spells_22 rfl ?_
        refine z_ldcSW C dX6_spells_24 ?_
        refine zs_callTi 0 (by decide) C dX6_spells_26 zm_X6_74 zyJ0_length_8abf5 (j_length0 n iv _) rfl (by decide) rfl rfl (Nat.le_of_ble_eq_true rfl) (by decide) (by decide) ?_
        refine zt_icmp_ge (tgt := 47) C dX6_spells_29 (nI_toInt (by omega)) (show (88 : Int32).toInt = 88 by decide) (by decide) (fun q29 => ?_) (fun q29 => ?_)
        · refine z_iconst (v := 0) C dX6_spells_47 (by decide) ?_
          refine zs_iret C E dX6_spells_48 rfl ?_ ?_ ?_
          · rw [← hr, zspo, if_neg (fun z => by omega)]
            exact (zb_f (by simp)).symm
          · rfl
          · rfl
        · refine z_ldcSW C dX6_spells_32 ?_
          refine z_iload C dX6_spells_34 rfl ?_
          refine zs_callTi 0 (by decide) C dX6_spells_36 zm_X6_76 zyJ0_charAt_5068e (j_charAt n iv _ (f + j) (by omega)) rfl (by decide) rfl rfl (Nat.le_of_ble_eq_true rfl) (by decide) (by decide) ?_
          refine z_aload_n C dX6_spells_39 rfl ?_
          refine z_iload_n C dX6_spells_40 rfl ?_
          refine zs_callVi C dX6_spells_41 zm_X6_45 zyX6_byteAt (s_byteAt n iv _ s hs hs8 (q + j) (by omega)) zc_6 rfl zk_15 (by decide) (by decide) rfl rfl (Nat.le_of_ble_eq_true rfl) (by decide) (by decide) ?_
          refine z_icmp_eq (tgt := 49) C dX6_spells_44 (by decide) (fun q44 => ?_) (fun q44 => ?_)
          · refine z_iinc (y := 1) (lv' := [some (.ref 15), some (.int _), some (.int _), some (.int _), some (.int _)]) C dX6_spells_49 rfl (by decide) (by decide) rfl ?_
            refine z_goto (tgt := 2) C dX6_spells_52 (by decide) ?_
            rw [nI_1 (q + j), show q + j + 1 = q + (j + 1) by omega]
            have e := ih (j + 1) (by omega) (by rw [← hr, zspo, if_pos ⟨by omega, q44⟩])
            exact z_sub (zdp.sub (by repeat (first | exact True.intro | refine And.intro rfl ?_))) e
          · refine z_iconst (v := 0) C dX6_spells_47 (by decide) ?_
            refine zs_iret C E dX6_spells_48 rfl ?_ ?_ ?_
            · rw [← hr, zspo, if_neg (fun z => q44 z.2)]
              exact (zb_f (by simp)).symm
            · rfl
            · rfl

set_option maxRecDepth 4000 in
theorem s_spells (n : Nat) (iv : zI) (lw : zG) (s : Nat) (hs : iv 15 1 = nI s) (hs8 : s ≤ 800) (q e f : Nat) (ha : iv 15 2 = nI e) (he : e ≤ s) (hq : q ≤ e) (hf : f ≤ 88) : zMi yX6_spells cX6_spells 5 (some .boolean) 7 [.ref 15, .int (nI q), .int (nI f)] n iv lw (zb (zspo (zT (iv 13) s) q f 0 (e - q) = true)) iv lw := by
  refine zM.of (by decide) (Nat.le_of_ble_eq_true rfl) (fun X C E => ?_)
  change zJs X n 5 0 [some (.ref 15), some (.int (nI q)), some (.int (nI f)), none, none] [] iv lw
  refine z_iload_n C dX6_spells_0 rfl ?_
  refine z_istore_n (lv' := [some (.ref 15), some (.int _), some (.int _), some (.int _), none]) C dX6_spells_1 (by decide) rfl ?_
  exact ls_sp n iv lw s hs hs8 q e f ha he hq hf _ (zC_le (by decide) C) E (e - q) 0 (by omega) rfl

def zwd (T : Nat → Int32) (q e : Nat) : Nat → Nat → Nat → Nat → Int32
  | 0, _, _, _ => 3
  | k + 1, i, f, kd => if zsb 0 i = 32 then (if i - f = e - q ∧ zspo T q f 0 (e - q) = true then nI kd else zwd T q e k (i + 1) (i + 1) (kd + 1)) else zwd T q e k (i + 1) f kd

set_option maxHeartbeats 1000000 in
set_option maxRecDepth 4000 in
theorem ls_wk (n : Nat) (iv : zI) (lw : zG) (s : Nat) (hs : iv 15 1 = nI s) (hs8 : s ≤ 800) (q e : Nat) (ha : iv 15 2 = nI e) (he : e ≤ s) (hq : q ≤ e) (r0 : Int32) {X : zX} (C : zC X cX6_wordKind 5 RX6 (some .int) "wordKind" 8 0 0) (E : zEnd X (91 + 3 * n) 0 0 (zQ n (zQi r0 iv lw))) : ∀ (k : Nat) (i f kd : Nat), i + k = 88 → f ≤ i → zwd (zT (iv 13) s) q e k i f kd = r0 → zJs X n 5 9 [some (.ref 15), some (.int (nI q)), some (.int (nI kd)), some (.int (nI f)), some (.int (nI i))] [] iv lw := by
  intro k
  induction k with
  | zero =>
    intro i f kd hk hfi hr
    refine z_iload C dX6_wordKind_9 rfl ?_
    refine z_ldcSW C dX6_wordKind_11 ?_
    refine zs_callTi 0 (by decide) C dX6_wordKind_13 zm_X6_74 zyJ0_length_8abf5 (j_length0 n iv _) rfl (by decide) rfl rfl (Nat.le_of_ble_eq_true rfl) (by decide) (by decide) ?_
    refine zt_icmp_ge (tgt := 69) C dX6_wordKind_16 (nI_toInt (by omega)) (show (88 : Int32).toInt = 88 by decide) (by decide) (fun q16 => ?_) (fun q16 => ?_)
    · refine z_iconst (v := 3) C dX6_wordKind_69 (by decide) ?_
      refine zs_iret C E dX6_wordKind_70 rfl ?_ ?_ ?_
      · exact hr
      · rfl
      · rfl
    · exfalso; omega
  | succ k ih =>
    intro i f kd hk hfi hr
    refine z_iload C dX6_wordKind_9 rfl ?_
    refine z_ldcSW C dX6_wordKind_11 ?_
    refine zs_callTi 0 (by decide) C dX6_wordKind_13 zm_X6_74 zyJ0_length_8abf5 (j_length0 n iv _) rfl (by decide) rfl rfl (Nat.le_of_ble_eq_true rfl) (by decide) (by decide) ?_
    refine zt_icmp_ge (tgt := 69) C dX6_wordKind_16 (nI_toInt (by omega)) (show (88 : Int32).toInt = 88 by decide) (by decide) (fun q16 => ?_) (fun q16 => ?_)
    · exfalso; omega
    · refine z_ldcSW C dX6_wordKind_19 ?_
      refine z_iload C dX6_wordKind_21 rfl ?_
      refine zs_callTi 0 (by decide) C dX6_wordKind_23 zm_X6_76 zyJ0_charAt_5068e (j_charAt n iv _ i (by omega)) rfl (by decide) rfl rfl (Nat.le_of_ble_eq_true rfl) (by decide) (by decide) ?_
      refine z_bipush (v := 32) C dX6_wordKind_26 (by decide) ?_
      refine z_icmp_ne (tgt := 63) C dX6_wordKind_28 (by decide) (fun q28 => ?_) (fun q28 => ?_)
      · refine z_iinc (y := 1) (lv' := [some (.ref 15), some (.int _), some (.int _), some (.int _), some (.int _)]) C dX6_wordKind_63 rfl (by decide) (by decide) rfl ?_
        refine z_goto (tgt := 9) C dX6_wordKind_66 (by decide) ?_
        rw [nI_1 i]
        exact ih (i + 1) f kd (by omega) (by omega) (by rw [← hr, zwd, if_neg q28])
      · refine z_iload C dX6_wordKind_31 rfl ?_
        refine z_iload_n C dX6_wordKind_33 rfl ?_
        refine z_isub C dX6_wordKind_34 ?_
        refine z_aload_n C dX6_wordKind_35 rfl ?_
        refine z_getI C dX6_wordKind_36 zf_X6_35 zk_15 (by decide) ?_
        refine z_iload_n C dX6_wordKind_39 rfl ?_
        refine z_isub C dX6_wordKind_40 ?_
        have e41 : nI i - nI f = nI (i - f) := zsubN (by omega) (by omega)
        have e42 : iv 15 2 - nI q = nI (e - q) := by rw [ha]; exact zsubN (by omega) (by omega)
        rw [e41, e42]
        refine z_icmp_ne (tgt := 55) C dX6_wordKind_41 (by decide) (fun q41 => ?_) (fun q41 => ?_)
        · refine z_iinc (y := 1) (lv' := [some (.ref 15), some (.int _), some (.int _), some (.int _), some (.int _)]) C dX6_wordKind_55 rfl (by decide) (by decide) rfl ?_
          refine z_iload C dX6_wordKind_58 rfl ?_
          refine z_iconst (v := 1) C dX6_wordKind_60 (by decide) ?_
          refine z_iadd C dX6_wordKind_61 ?_
          refine z_istore_n (lv' := [some (.ref 15), some (.int _), some (.int _), some (.int _), some (.int _)]) C dX6_wordKind_62 (by decide) rfl ?_
          refine z_iinc (y := 1) (lv' := [some (.ref 15), some (.int _), some (.int _), some (.int _), some (.int _)]) C dX6_wordKind_63 rfl (by decide) (by decide) rfl ?_
          refine z_goto (tgt := 9) C dX6_wordKind_66 (by decide) ?_
          rw [nI_1 i, nI_1 kd]
          exact ih (i + 1) (i + 1) (kd + 1) (by omega) (by omega) (by rw [← hr, zwd, if_pos q28, if_neg (fun z => q41 (by rw [z.1]))])
        · refine z_aload_n C dX6_wordKind_44 rfl ?_
          refine z_iload_n C dX6_wordKind_45 rfl ?_
          refine z_iload_n C dX6_wordKind_46 rfl ?_
          refine zs_callVi C dX6_wordKind_47 zm_X6_80 zyX6_spells (s_spells n iv _ s hs hs8 q e f ha he hq (by omega)) zc_6 rfl zk_15 (by decide) (by decide) rfl rfl (Nat.le_of_ble_eq_true rfl) (by decide) (by decide) ?_
          refine zb_if_eq (tgt := 55) C dX6_wordKind_50 (by decide) (fun q50 => ?_) (fun q50 => ?_)
          · refine z_iinc (y := 1) (lv' := [some (.ref 15), some (.int _), some (.int _), some (.int _), some (.int _)]) C dX6_wordKind_55 rfl (by decide) (by decide) rfl ?_
            refine z_iload C dX6_wordKind_58 rfl ?_
            refine z_iconst (v := 1) C dX6_wordKind_60 (by decide) ?_
            refine z_iadd C dX6_wordKind_61 ?_
            refine z_istore_n (lv' := [some (.ref 15), some (.int _), some (.int _), some (.int _), some (.int _)]) C dX6_wordKind_62 (by decide) rfl ?_
            refine z_iinc (y := 1) (lv' := [some (.ref 15), some (.int _), some (.int _), some (.int _), some (.int _)]) C dX6_wordKind_63 rfl (by decide) (by decide) rfl ?_
            refine z_goto (tgt := 9) C dX6_wordKind_66 (by decide) ?_
            rw [nI_1 i, nI_1 kd]
            exact ih (i + 1) (i + 1) (kd + 1) (by omega) (by omega) (by rw [← hr, zwd, if_pos q28, if_neg (fun z => q50 z.2)])
          · refine z_iload_n C dX6_wordKind_53 rfl ?_
            refine zs_iret C E dX6_wordKind_54 rfl ?_ ?_ ?_
            · rw [← hr, zwd, if_pos q28, if_pos ⟨nI_inj4 (by omega) (by omega) q41, q50⟩]
            · rfl
            · rfl

set_option maxRecDepth 4000 in
theorem s_wordKind (n : Nat) (iv : zI) (lw : zG) (s : Nat) (hs : iv 15 1 = nI s) (hs8 : s ≤ 800) (q e : Nat) (ha : iv 15 2 = nI e) (he : e ≤ s) (hq : q ≤ e) : zMi yX6_wordKind cX6_wordKind 5 (some .int) 8 [.ref 15, .int (nI q)] n iv lw (zwd (zT (iv 13) s) q e 88 0 0 200) iv lw := by
  refine zM.of (by decide) (Nat.le_of_ble_eq_true rfl) (fun X C E => ?_)
  change zJs X n 5 0 [some (.ref 15), some (.int (nI q)), none, none, none] [] iv lw
  refine z_sipush (v := 200) C dX6_wordKind_0 (by decide) ?_
  refine z_istore_n (lv' := [some (.ref 15), some (.int _), some (.int _), none, none]) C dX6_wordKind_3 (by decide) rfl ?_
  refine z_iconst (v := 0) C dX6_wordKind_4 (by decide) ?_
  refine z_istore_n (lv' := [some (.ref 15), some (.int _), some (.int _), some (.int _), none]) C dX6_wordKind_5 (by decide) rfl ?_
  refine z_iconst (v := 0) C dX6_wordKind_6 (by decide) ?_
  refine z_istore (lv' := [some (.ref 15), some (.int _), some (.int _), some (.int _), some (.int _)]) C dX6_wordKind_7 (by decide) rfl ?_
  exact ls_wk n iv lw s hs hs8 q e ha he hq _ (zC_le (by decide) C) E 88 0 0 200 (by omega) (by omega) rfl
