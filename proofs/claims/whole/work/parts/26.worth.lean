/-! orders: the worth of an e, its operators behind what they join -/
def zjoin (kd l r : Int32) : Int32 := if kd = 43 then l + r else if kd = 45 then l - r else if kd = 60 then zb (l.toInt < r.toInt) else if kd = 61 then zb (l = r) else if kd = 62 then zb (r.toInt < l.toInt) else if kd = 205 then zb (¬ l = 0 ∨ ¬ r = 0) else if kd = 206 then zb (¬ l = 0 ∧ ¬ r = 0) else 0
def zopd (seen : Nat → Int32) (kd : Int32) : Int32 := if 1000 ≤ kd.toInt then kd - 1000 else if 0 ≤ (kd - 208).toInt ∧ (kd - 208).toInt < 10 then seen (kd - 208).toNatClampNeg else 0
abbrev zisop (kd : Int32) : Prop := 1000 ≤ kd.toInt ∨ (208 ≤ kd.toInt ∧ kd.toInt < 218)
def zit (seen : Nat → Int32) (kd : Int32) (s : List Int32) : List Int32 :=
  if zisop kd then (if s.length < 100 then zopd seen kd :: s else s)
  else if kd = 207 then (match s with
    | x :: r => (if x = 0 then 1 else 0) :: r
    | [] => [])
  else (match s with
    | y :: x :: r => zjoin kd x y :: r
    | s => s)
def zev (seen K : Nat → Int32) : Nat → Nat → List Int32 → List Int32
  | _, 0, s => s
  | i, k + 1, s => zev seen K (i + 1) k (zit seen (K i) s)
def zbot : List Int32 → Int32
  | [] => 0
  | [x] => x
  | _ :: y :: r => zbot (y :: r)
/-- a pile in an array -/
def zstk (f : Nat → Int32) : List Int32 → Prop
  | [] => True
  | x :: r => f r.length = x ∧ zstk f r
theorem zstk_u {f : Nat → Int32} {v : Int32} : ∀ {r : List Int32} {k : Nat}, zstk f r → r.length ≤ k → zstk (upd f k v) r
  | [], _, _, _ => trivial
  | x :: r, k, h, hk => ⟨by
      have hk' : r.length + 1 ≤ k := hk
      rw [pk_un (by omega)]; exact h.1, zstk_u h.2 (by
      have hk' : r.length + 1 ≤ k := hk
      omega)⟩
theorem zstk_p {f : Nat → Int32} {s : List Int32} (v : Int32) (h : zstk f s) : zstk (upd f s.length v) (v :: s) := ⟨pk_us, zstk_u h (Nat.le_refl _)⟩
theorem zstk_b {f : Nat → Int32} : ∀ {s : List Int32}, zstk f s → 0 < s.length → f 0 = zbot s
  | [], _, h => absurd h (by simp)
  | [x], h, _ => h.1
  | x :: y :: r, h, _ => zstk_b (s := y :: r) h.2 (by simp)
theorem zit_len (seen : Nat → Int32) (kd : Int32) (s : List Int32) (h : s.length ≤ 100) : (zit seen kd s).length ≤ 100 := by
  unfold zit
  split
  · split
    · simp; omega
    · exact h
  · split
    · cases s with
      | nil => simp
      | cons x r => simpa using h
    · match s, h with
      | [], h => simpa using h
      | [x], h => simpa using h
      | y :: x :: r, h => simp at h ⊢; omega

set_option maxRecDepth 4000 in
theorem c_isName (n : Nat) (iv : zI) (lw : zG) (kd : Int32) : zMi yX6_isName cX6_isName 1 (some .boolean) 0 [.int kd] n iv lw (zb (208 ≤ kd.toInt ∧ kd.toInt < 218)) iv lw := by
  refine zM.of (by decide) (Nat.le_of_ble_eq_true rfl) (fun X C E => ?_)
  change zJs X n 1 0 [some (.int kd)] [] iv lw
  refine z_iload_n C dX6_isName_0 rfl ?_
  refine z_sipush (v := 208) C dX6_isName_1 (by decide) ?_
  refine zt_icmp_lt (tgt := 18) C dX6_isName_4 rfl (show (208 : Int32).toInt = 208 by decide) (by decide) (fun q4 => ?_) (fun q4 => ?_)
  · refine z_iconst (v := 0) C dX6_isName_18 (by decide) ?_
    refine zs_iret C E dX6_isName_19 rfl ?_ ?_ ?_
    · exact (zb_f (by omega)).symm
    · rfl
    · rfl
  · refine z_iload_n C dX6_isName_7 rfl ?_
    refine z_sipush (v := 218) C dX6_isName_8 (by decide) ?_
    refine zt_icmp_ge (tgt := 18) C dX6_isName_11 rfl (show (218 : Int32).toInt = 218 by decide) (by decide) (fun q11 => ?_) (fun q11 => ?_)
    · refine z_iconst (v := 0) C dX6_isName_18 (by decide) ?_
      refine zs_iret C E dX6_isName_19 rfl ?_ ?_ ?_
      · exact (zb_f (by omega)).symm
      · rfl
      · rfl
    · refine z_iconst (v := 1) C dX6_isName_14 (by decide) ?_
      refine z_goto (tgt := 19) C dX6_isName_15 (by decide) ?_
      refine zs_iret C E dX6_isName_19 rfl ?_ ?_ ?_
      · exact (zb_t (by omega)).symm
      · rfl
      · rfl

set_option maxRecDepth 4000 in
theorem c_join (n : Nat) (iv : zI) (lw : zG) (kd l r : Int32) : zMi yX1_join cX1_join 3 (some .int) 0 [.int kd, .int l, .int r] n iv lw (zjoin kd l r) iv lw := by
  refine zM.of (by decide) (Nat.le_of_ble_eq_true rfl) (fun X C E => ?_)
  change zJs X n 3 0 [some (.int kd), some (.int l), some (.int r)] [] iv lw
  refine z_iload_n C dX1_join_0 rfl ?_
  by_cases qs1_43 : kd = 43
  · refine z_lookup (tgt := 68) C dX1_join_1 (by decide) (by rw [qs1_43]; try rfl) (by decide) ?_
    refine z_iload_n C dX1_join_68 rfl ?_
    refine z_iload_n C dX1_join_69 rfl ?_
    refine z_iadd C dX1_join_70 ?_
    refine zs_iret C E dX1_join_71 rfl ?_ ?_ ?_
    · unfold zjoin
      rw [if_pos qs1_43]
    · rfl
    · rfl
  by_cases qs1_45 : kd = 45
  · refine z_lookup (tgt := 72) C dX1_join_1 (by decide) (by rw [qs1_45]; try rfl) (by decide) ?_
    refine z_iload_n C dX1_join_72 rfl ?_
    refine z_iload_n C dX1_join_73 rfl ?_
    refine z_isub C dX1_join_74 ?_
    refine zs_iret C E dX1_join_75 rfl ?_ ?_ ?_
    · unfold zjoin
      rw [if_neg (by rw [qs1_45]; decide), if_pos qs1_45]
    · rfl
    · rfl
  by_cases qs1_60 : kd = 60
  · refine z_lookup (tgt := 76) C dX1_join_1 (by decide) (by rw [qs1_60]; try rfl) (by decide) ?_
    refine z_iload_n C dX1_join_76 rfl ?_
    refine z_iload_n C dX1_join_77 rfl ?_
    refine zt_icmp_ge (tgt := 85) C dX1_join_78 rfl rfl (by decide) (fun q78 => ?_) (fun q78 => ?_)
    · refine z_iconst (v := 0) C dX1_join_85 (by decide) ?_
      refine zs_iret C E dX1_join_86 rfl ?_ ?_ ?_
      · unfold zjoin
        rw [if_neg (by rw [qs1_60]; decide), if_neg (by rw [qs1_60]; decide), if_pos qs1_60]
        first | exact (zb_t (by omega)).symm | exact (zb_f (by omega)).symm
      · rfl
      · rfl
    · refine z_iconst (v := 1) C dX1_join_81 (by decide) ?_
      refine z_goto (tgt := 86) C dX1_join_82 (by decide) ?_
      refine zs_iret C E dX1_join_86 rfl ?_ ?_ ?_
      · unfold zjoin
        rw [if_neg (by rw [qs1_60]; decide), if_neg (by rw [qs1_60]; decide), if_pos qs1_60]
        first | exact (zb_t (by omega)).symm | exact (zb_f (by omega)).symm
      · rfl
      · rfl
  by_cases qs1_61 : kd = 61
  · refine z_lookup (tgt := 98) C dX1_join_1 (by decide) (by rw [qs1_61]; try rfl) (by decide) ?_
    refine z_iload_n C dX1_join_98 rfl ?_
    refine z_iload_n C dX1_join_99 rfl ?_
    refine z_icmp_ne (tgt := 107) C dX1_join_100 (by decide) (fun q100 => ?_) (fun q100 => ?_)
    · refine z_iconst (v := 0) C dX1_join_107 (by decide) ?_
      refine zs_iret C E dX1_join_108 rfl ?_ ?_ ?_
      · unfold zjoin
        rw [if_neg (by rw [qs1_61]; decide), if_neg (by rw [qs1_61]; decide), if_neg (by rw [qs1_61]; decide), if_pos qs1_61]
        first | exact (zb_t q100).symm | exact (zb_f q100).symm
      · rfl
      · rfl
    · refine z_iconst (v := 1) C dX1_join_103 (by decide) ?_
      refine z_goto (tgt := 108) C dX1_join_104 (by decide) ?_
      refine zs_iret C E dX1_join_108 rfl ?_ ?_ ?_
      · unfold zjoin
        rw [if_neg (by rw [qs1_61]; decide), if_neg (by rw [qs1_61]; decide), if_neg (by rw [qs1_61]; decide), if_pos qs1_61]
        first | exact (zb_t q100).symm | exact (zb_f q100).symm
      · rfl
      · rfl
  by_cases qs1_62 : kd = 62
  · refine z_lookup (tgt := 87) C dX1_join_1 (by decide) (by rw [qs1_62]; try rfl) (by decide) ?_
    refine z_iload_n C dX1_join_87 rfl ?_
    refine z_iload_n C dX1_join_88 rfl ?_
    refine zt_icmp_le (tgt := 96) C dX1_join_89 rfl rfl (by decide) (fun q89 => ?_) (fun q89 => ?_)
    · refine z_iconst (v := 0) C dX1_join_96 (by decide) ?_
      refine zs_iret C E dX1_join_97 rfl ?_ ?_ ?_
      · unfold zjoin
        rw [if_neg (by rw [qs1_62]; decide), if_neg (by rw [qs1_62]; decide), if_neg (by rw [qs1_62]; decide), if_neg (by rw [qs1_62]; decide), if_pos qs1_62]
        first | exact (zb_t (by omega)).symm | exact (zb_f (by omega)).symm
      · rfl
      · rfl
    · refine z_iconst (v := 1) C dX1_join_92 (by decide) ?_
      refine z_goto (tgt := 97) C dX1_join_93 (by decide) ?_
      refine zs_iret C E dX1_join_97 rfl ?_ ?_ ?_
      · unfold zjoin
        rw [if_neg (by rw [qs1_62]; decide), if_neg (by rw [qs1_62]; decide), if_neg (by rw [qs1_62]; decide), if_neg (by rw [qs1_62]; decide), if_pos qs1_62]
        first | exact (zb_t (by omega)).symm | exact (zb_f (by omega)).symm
      · rfl
      · rfl
  by_cases qs1_205 : kd = 205
  · refine z_lookup (tgt := 123) C dX1_join_1 (by decide) (by rw [qs1_205]; try rfl) (by decide) ?_
    refine z_iload_n C dX1_join_123 rfl ?_
    refine z_if_ne (tgt := 131) C dX1_join_124 (by decide) (fun q124 => ?_) (fun q124 => ?_)
    · refine z_iconst (v := 1) C dX1_join_131 (by decide) ?_
      refine z_goto (tgt := 136) C dX1_join_132 (by decide) ?_
      refine zs_iret C E dX1_join_136 rfl ?_ ?_ ?_
      · unfold zjoin
        rw [if_neg (by rw [qs1_205]; decide), if_neg (by rw [qs1_205]; decide), if_neg (by rw [qs1_205]; decide), if_neg (by rw [qs1_205]; decide), if_neg (by rw [qs1_205]; decide), if_pos qs1_205]
        exact (zb_t (Or.inl q124)).symm
      · rfl
      · rfl
    · refine z_iload_n C dX1_join_127 rfl ?_
      refine z_if_eq (tgt := 135) C dX1_join_128 (by decide) (fun q128 => ?_) (fun q128 => ?_)
      · refine z_iconst (v := 0) C dX1_join_135 (by decide) ?_
        refine zs_iret C E dX1_join_136 rfl ?_ ?_ ?_
        · unfold zjoin
          rw [if_neg (by rw [qs1_205]; decide), if_neg (by rw [qs1_205]; decide), if_neg (by rw [qs1_205]; decide), if_neg (by rw [qs1_205]; decide), if_neg (by rw [qs1_205]; decide), if_pos qs1_205]
          exact (zb_f (fun z => by
            rcases z with z | z
            · exact z q124
            · exact z q128)).symm
        · rfl
        · rfl
      · refine z_iconst (v := 1) C dX1_join_131 (by decide) ?_
        refine z_goto (tgt := 136) C dX1_join_132 (by decide) ?_
        refine zs_iret C E dX1_join_136 rfl ?_ ?_ ?_
        · unfold zjoin
          rw [if_neg (by rw [qs1_205]; decide), if_neg (by rw [qs1_205]; decide), if_neg (by rw [qs1_205]; decide), if_neg (by rw [qs1_205]; decide), if_neg (by rw [qs1_205]; decide), if_pos qs1_205]
          exact (zb_t (Or.inr q128)).symm
        · rfl
        · rfl
  by_cases qs1_206 : kd = 206
  · refine z_lookup (tgt := 109) C dX1_join_1 (by decide) (by rw [qs1_206]; try rfl) (by decide) ?_
    refine z_iload_n C dX1_join_109 rfl ?_
    refine z_if_eq (tgt := 121) C dX1_join_110 (by decide) (fun q110 => ?_) (fun q110 => ?_)
    · refine z_iconst (v := 0) C dX1_join_121 (by decide) ?_
      refine zs_iret C E dX1_join_122 rfl ?_ ?_ ?_
      · unfold zjoin
        rw [if_neg (by rw [qs1_206]; decide), if_neg (by rw [qs1_206]; decide), if_neg (by rw [qs1_206]; decide), if_neg (by rw [qs1_206]; decide), if_neg (by rw [qs1_206]; decide), if_neg (by rw [qs1_206]; decide), if_pos qs1_206]
        exact (zb_f (fun z => z.1 q110)).symm
      · rfl
      · rfl
    · refine z_iload_n C dX1_join_113 rfl ?_
      refine z_if_eq (tgt := 121) C dX1_join_114 (by decide) (fun q114 => ?_) (fun q114 => ?_)
      · refine z_iconst (v := 0) C dX1_join_121 (by decide) ?_
        refine zs_iret C E dX1_join_122 rfl ?_ ?_ ?_
        · unfold zjoin
          rw [if_neg (by rw [qs1_206]; decide), if_neg (by rw [qs1_206]; decide), if_neg (by rw [qs1_206]; decide), if_neg (by rw [qs1_206]; decide), if_neg (by rw [qs1_206]; decide), if_neg (by rw [qs1_206]; decide), if_pos qs1_206]
          exact (zb_f (fun z => z.2 q114)).symm
        · rfl
        · rfl
      · refine z_iconst (v := 1) C dX1_join_117 (by decide) ?_
        refine z_goto (tgt := 122) C dX1_join_118 (by decide) ?_
        refine zs_iret C E dX1_join_122 rfl ?_ ?_ ?_
        · unfold zjoin
          rw [if_neg (by rw [qs1_206]; decide), if_neg (by rw [qs1_206]; decide), if_neg (by rw [qs1_206]; decide), if_neg (by rw [qs1_206]; decide), if_neg (by rw [qs1_206]; decide), if_neg (by rw [qs1_206]; decide), if_pos qs1_206]
          exact (zb_t ⟨q110, q114⟩).symm
        · rfl
        · rfl
  refine z_lookup (off := 136) (tgt := 137) C dX1_join_1 (by decide) (by show Op.lookupswitch.offset [(43, 67), (45, 71), (60, 75), (61, 97), (62, 86), (205, 122), (206, 108)] 136 _ = _; rw [lv_osw qs1_43 (by decide), lv_osw qs1_45 (by decide), lv_osw qs1_60 (by decide), lv_osw qs1_61 (by decide), lv_osw qs1_62 (by decide), lv_osw qs1_205 (by decide), lv_osw qs1_206 (by decide)]; rfl) (by decide) ?_
  refine z_iconst (v := 0) C dX1_join_137 (by decide) ?_
  refine zs_iret C E dX1_join_138 rfl ?_ ?_ ?_
  · unfold zjoin
    simp [*]
  · rfl
  · rfl

theorem z_drop6 {a b c d e f g : Option Value} : ∀ (k : Nat) (v : Value), [a, b, c, d, e, f, none][k]? = some (some v) → [a, b, c, d, e, f, g][k]? = some (some v) := by
  intro k v hv
  match k, hv with
  | 0, hv => exact hv
  | 1, hv => exact hv
  | 2, hv => exact hv
  | 3, hv => exact hv
  | 4, hv => exact hv
  | 5, hv => exact hv
  | 6, hv => simp at hv
  | k + 7, hv => simp at hv
theorem zu27 {cur iv : zI} {k : Nat} {v : Int32} (h : ∀ c, c ≠ 27 → cur c = iv c) : ∀ c, c ≠ 27 → zu cur 27 k v c = iv c := fun c hc => by rw [zu_n _ _ _ hc]; exact h c hc

set_option maxHeartbeats 4000000 in
set_option maxRecDepth 4000 in
theorem lp_worth (n : Nat) (iv : zI) (lw : zG) (fr e m : Nat) (he : e ≤ m) (hm : iv 23 3 = nI m) (hm2 : m ≤ 400) (r0 : Int32) {X : zX} (C : zC X cX1_worth 7 RX1 (some .int) "worth" 1 0 0) (E : zEnd X (91 + 3 * n) 0 0 (zQ n (fun v iv2 lw2 => v = some (.int r0) ∧ lw2 = lw ∧ ∀ c, c ≠ 27 → iv2 c = iv c))) : ∀ (k : Nat) (i : Nat) (s : List Int32) (cur : zI), i + k = e → (∀ c, c ≠ 27 → cur c = iv c) → zstk (cur 27) s → s.length ≤ 100 → zbot (zev (iv 28) (iv 26) i k s) = r0 → zJs X n 7 6 [some (.ref 23), some (.int (nI fr)), some (.int (nI e)), some (.ref 28), some (.int (nI s.length)), some (.int (nI i)), none] [] cur lw := by
  intro k
  induction k with
  | zero =>
    intro i s cur hk ho hst hl hr
    refine z_iload C dX1_worth_6 rfl ?_
    refine z_iload_n C dX1_worth_8 rfl ?_
    refine zt_icmp_ge (tgt := 159) C dX1_worth_9 (nI_toInt (by omega)) (nI_toInt (by omega)) (by decide) (fun q9 => ?_) (fun q9 => ?_)
    · refine z_iload C dX1_worth_159 rfl ?_
      refine zt_if_le (tgt := 173) C dX1_worth_161 (nI_toInt (by omega)) (by decide) (fun q161 => ?_) (fun q161 => ?_)
      · refine z_iconst (v := 0) C dX1_worth_173 (by decide) ?_
        refine zs_qiret C E dX1_worth_174 rfl ?_
        refine ⟨?_, rfl, ho⟩
        have hr2 : zbot s = r0 := hr
        have hs0 : s = [] := List.eq_nil_of_length_eq_zero (by omega)
        subst hs0
        rw [← hr2]
        rfl
      · refine z_aload_n C dX1_worth_164 rfl ?_
        refine zs_getR C dX1_worth_165 zf_X1_19 zk_23 (by decide) (zr_23_5 n) ?_
        refine z_iconst (v := 0) C dX1_worth_168 (by decide) ?_
        refine z_iald C dX1_worth_169 zk_27 (by decide) ?_ ?_
        · exact vp_in_iff.mpr (by decide)
        refine z_goto (tgt := 174) C dX1_worth_170 (by decide) ?_
        refine zs_qiret C E dX1_worth_174 rfl ?_
        refine ⟨?_, rfl, ho⟩
        have hr2 : zbot s = r0 := hr
        rw [← hr2, ← zstk_b hst (by omega)]
        rfl
    · exfalso; omega
  | succ k ih =>
    intro i s cur hk ho hst hl hr
    refine z_iload C dX1_worth_6 rfl ?_
    refine z_iload_n C dX1_worth_8 rfl ?_
    refine zt_icmp_ge (tgt := 159) C dX1_worth_9 (nI_toInt (by omega)) (nI_toInt (by omega)) (by decide) (fun q9 => ?_) (fun q9 => ?_)
    · exfalso; omega
    · refine z_iload C dX1_worth_12 rfl ?_
      refine z_aload_n C dX1_worth_14 rfl ?_
      refine z_getI C dX1_worth_15 zf_X1_26 zk_23 (by decide) ?_
      refine zt_icmp_ge (tgt := 159) C dX1_worth_18 (nI_toInt (by omega)) (zt_nI (by rw [ho 23 (by decide)]; exact hm) (by omega)) (by decide) (fun q18 => ?_) (fun q18 => ?_)
      · exfalso; omega
      · refine z_aload_n C dX1_worth_21 rfl ?_
        refine zs_getR C dX1_worth_22 zf_X1_16 zk_23 (by decide) (zr_23_4 n) ?_
        refine z_iload C dX1_worth_25 rfl ?_
        refine z_iald C dX1_worth_27 zk_26 (by decide) ?_ ?_
        · exact vp_in_nI (by omega) (by decide)
        refine z_topi (fun kd ekd => ?_)
        refine z_istore (lv' := [some (.ref 23), some (.int _), some (.int _), some (.ref 28), some (.int _), some (.int _), some (.int kd)]) C dX1_worth_28 (by decide) rfl ?_
        rw [nI_clamp (by omega), ho 26 (by decide)] at ekd
        refine z_iload C dX1_worth_30 rfl ?_
        refine z_sipush (v := 1000) C dX1_worth_32 (by decide) ?_
        refine zt_icmp_ge (tgt := 46) C dX1_worth_35 rfl (show (1000 : Int32).toInt = 1000 by decide) (by decide) (fun q35 => ?_) (fun q35 => ?_)
        · refine z_iload C dX1_worth_46 rfl ?_
          refine z_bipush (v := 100) C dX1_worth_48 (by decide) ?_
          refine zt_icmp_ge (tgt := 153) C dX1_worth_50 (nI_toInt (by omega)) (show (100 : Int32).toInt = 100 by decide) (by decide) (fun q50 => ?_) (fun q50 => ?_)
          · refine z_iinc (y := 1) (lv' := [some (.ref 23), some (.int _), some (.int _), some (.ref 28), some (.int _), some (.int _), some (.int kd)]) C dX1_worth_153 rfl (by decide) (by decide) rfl ?_
            refine z_goto (tgt := 6) C dX1_worth_156 (by decide) ?_
            refine z_sub z_drop6 ?_
            rw [nI_1 i]
            refine ih (i + 1) s cur (by omega) ho hst hl ?_
            rw [← hr, zev, ← ekd]
            have es : zit (iv 28) kd s = s := by
              unfold zit
              rw [if_pos (show zisop kd from Or.inl (by omega)), if_neg (by omega)]
            rw [es]
          · refine z_aload_n C dX1_worth_53 rfl ?_
            refine zs_getR C dX1_worth_54 zf_X1_19 zk_23 (by decide) (zr_23_5 n) ?_
            refine z_iload C dX1_worth_57 rfl ?_
            refine z_iload C dX1_worth_59 rfl ?_
            refine z_aload_n C dX1_worth_61 rfl ?_
            refine zs_callSi C dX1_worth_62 zm_X1_46 zyX1_operand (c_operand _ _ _ _) (by decide) rfl rfl (Nat.le_of_ble_eq_true rfl) (by decide) (by decide) ?_
            refine z_iast C dX1_worth_65 zk_27 (by decide) ?_ ?_
            · exact vp_in_nI (by omega) (by decide)
            refine z_iinc (y := 1) (lv' := [some (.ref 23), some (.int _), some (.int _), some (.ref 28), some (.int _), some (.int _), some (.int kd)]) C dX1_worth_66 rfl (by decide) (by decide) rfl ?_
            refine z_goto (tgt := 153) C dX1_worth_69 (by decide) ?_
            refine z_iinc (y := 1) (lv' := [some (.ref 23), some (.int _), some (.int _), some (.ref 28), some (.int _), some (.int _), some (.int kd)]) C dX1_worth_153 rfl (by decide) (by decide) rfl ?_
            refine z_goto (tgt := 6) C dX1_worth_156 (by decide) ?_
            refine z_sub z_drop6 ?_
            rw [nI_1 i]
            rw [nI_clamp (by omega), nI_1]
            refine ih (i + 1) (zopd (iv 28) kd :: s) _ (by omega) (zu27 ho) ?_ (by simp; omega) ?_
            · rw [zu_s]
              show zstk (upd (cur 27) s.length (if 1000 ≤ kd.toInt then kd - 1000 else if 0 ≤ (kd - 208).toInt ∧ (kd - 208).toInt < 10 then cur 28 (kd - 208).toNatClampNeg else 0)) _
              rw [ho 28 (by decide)]
              exact zstk_p (zopd (iv 28) kd) hst
            · rw [← hr, zev, ← ekd]
              have es : zit (iv 28) kd s = zopd (iv 28) kd :: s := by
                unfold zit
                rw [if_pos (show zisop kd from Or.inl (by omega)), if_pos (by omega)]
              rw [es]
        · refine z_iload C dX1_worth_38 rfl ?_
          refine zs_callSi C dX1_worth_40 zm_X1_42 zyX6_isName (c_isName _ _ _ _) (by decide) rfl rfl (Nat.le_of_ble_eq_true rfl) (by decide) (by decide) ?_
          refine zb_if_eq (tgt := 72) C dX1_worth_43 (by decide) (fun q43 => ?_) (fun q43 => ?_)
          · refine z_iload C dX1_worth_72 rfl ?_
            refine z_sipush (v := 207) C dX1_worth_74 (by decide) ?_
            refine z_icmp_ne (tgt := 114) C dX1_worth_77 (by decide) (fun q77 => ?_) (fun q77 => ?_)
            · refine z_iload C dX1_worth_114 rfl ?_
              refine z_iconst (v := 1) C dX1_worth_116 (by decide) ?_
              refine zt_icmp_le (tgt := 153) C dX1_worth_117 (nI_toInt (by omega)) (show (1 : Int32).toInt = 1 by decide) (by decide) (fun q117 => ?_) (fun q117 => ?_)
              · refine z_iinc (y := 1) (lv' := [some (.ref 23), some (.int _), some (.int _), some (.ref 28), some (.int _), some (.int _), some (.int kd)]) C dX1_worth_153 rfl (by decide) (by decide) rfl ?_
                refine z_goto (tgt := 6) C dX1_worth_156 (by decide) ?_
                refine z_sub z_drop6 ?_
                rw [nI_1 i]
                refine ih (i + 1) s cur (by omega) ho hst hl ?_
                rw [← hr, zev, ← ekd]
                have es : zit (iv 28) kd s = s := by
                  unfold zit
                  rw [if_neg (show ¬ zisop kd from by
                    rintro (z | z)
                    · omega
                    · exact q43 z), if_neg q77]
                  match s, q117 with
                  | [], _ => rfl
                  | [x], _ => rfl
                  | y :: x :: r, q => simp at q; omega
                rw [es]
              · obtain ⟨y, x, r, rfl⟩ : ∃ y x r, s = y :: x :: r := by
                  match s, q117 with
                  | [], q => simp at q
                  | [x], q => simp at q
                  | y :: x :: r, _ => exact ⟨y, x, r, rfl⟩
                have hl1 : nI (y :: x :: r).length + (-1) = nI (r.length + 1) := pk_m1 _
                have hl2 : nI (r.length + 1) - 1 = nI r.length := nI_pred _
                refine z_iinc (y := (-1)) (lv' := [some (.ref 23), some (.int _), some (.int _), some (.ref 28), some (.int _), some (.int _), some (.int kd)]) C dX1_worth_120 rfl (by decide) (by decide) rfl ?_
                rw [hl1]
                refine z_aload_n C dX1_worth_123 rfl ?_
                refine zs_getR C dX1_worth_124 zf_X1_19 zk_23 (by decide) (zr_23_5 n) ?_
                refine z_iload C dX1_worth_127 rfl ?_
                refine z_iconst (v := 1) C dX1_worth_129 (by decide) ?_
                refine z_isub C dX1_worth_130 ?_
                rw [hl2]
                refine z_iload C dX1_worth_131 rfl ?_
                refine z_aload_n C dX1_worth_133 rfl ?_
                refine zs_getR C dX1_worth_134 zf_X1_19 zk_23 (by decide) (zr_23_5 n) ?_
                refine z_iload C dX1_worth_137 rfl ?_
                refine z_iconst (v := 1) C dX1_worth_139 (by decide) ?_
                refine z_isub C dX1_worth_140 ?_
                rw [hl2]
                refine z_iald C dX1_worth_141 zk_27 (by decide) ?_ ?_
                · exact vp_in_nI (by simp at hl; omega) (by decide)
                refine z_aload_n C dX1_worth_142 rfl ?_
                refine zs_getR C dX1_worth_143 zf_X1_19 zk_23 (by decide) (zr_23_5 n) ?_
                refine z_iload C dX1_worth_146 rfl ?_
                refine z_iald C dX1_worth_148 zk_27 (by decide) ?_ ?_
                · exact vp_in_nI (by simp at hl; omega) (by decide)
                refine zs_callSi C dX1_worth_149 zm_X1_50 zyX1_join (c_join _ _ _ _ _ _) (by decide) rfl rfl (Nat.le_of_ble_eq_true rfl) (by decide) (by decide) ?_
                refine z_iast C dX1_worth_152 zk_27 (by decide) ?_ ?_
                · exact vp_in_nI (by simp at hl; omega) (by decide)
                refine z_iinc (y := 1) (lv' := [some (.ref 23), some (.int _), some (.int _), some (.ref 28), some (.int _), some (.int _), some (.int kd)]) C dX1_worth_153 rfl (by decide) (by decide) rfl ?_
                refine z_goto (tgt := 6) C dX1_worth_156 (by decide) ?_
                refine z_sub z_drop6 ?_
                rw [nI_1 i]
                have hx : cur 27 r.length = x := hst.2.1
                have hy : cur 27 (r.length + 1) = y := hst.1
                rw [nI_clamp (show r.length < 2 ^ 31 by simp at hl; omega), nI_clamp (show r.length + 1 < 2 ^ 31 by simp at hl; omega), hx, hy]
                refine ih (i + 1) (zjoin kd x y :: r) _ (by omega) (zu27 ho) ?_ (by simp at hl ⊢; omega) ?_
                · rw [zu_s]; exact zstk_p _ hst.2.2
                · rw [← hr, zev, ← ekd]
                  have es : zit (iv 28) kd (y :: x :: r) = zjoin kd x y :: r := by
                    unfold zit
                    rw [if_neg (show ¬ zisop kd from by
                    rintro (z | z)
                    · omega
                    · exact q43 z), if_neg q77]
                  rw [es]
            · refine z_iload C dX1_worth_80 rfl ?_
              refine zt_if_le (tgt := 153) C dX1_worth_82 (nI_toInt (by omega)) (by decide) (fun q82 => ?_) (fun q82 => ?_)
              · refine z_iinc (y := 1) (lv' := [some (.ref 23), some (.int _), some (.int _), some (.ref 28), some (.int _), some (.int _), some (.int kd)]) C dX1_worth_153 rfl (by decide) (by decide) rfl ?_
                refine z_goto (tgt := 6) C dX1_worth_156 (by decide) ?_
                refine z_sub z_drop6 ?_
                rw [nI_1 i]
                refine ih (i + 1) s cur (by omega) ho hst hl ?_
                rw [← hr, zev, ← ekd]
                have hs0 : s = [] := List.eq_nil_of_length_eq_zero (by omega)
                have es : zit (iv 28) kd s = s := by
                  subst hs0
                  unfold zit
                  rw [if_neg (show ¬ zisop kd from by
                    rintro (z | z)
                    · omega
                    · exact q43 z), if_pos q77]
                rw [es]
              · obtain ⟨x, r, rfl⟩ : ∃ x r, s = x :: r := by
                  cases s with
                  | nil => simp at q82
                  | cons x r => exact ⟨x, r, rfl⟩
                have hl1 : nI (x :: r).length - 1 = nI r.length := nI_pred _
                refine z_aload_n C dX1_worth_85 rfl ?_
                refine zs_getR C dX1_worth_86 zf_X1_19 zk_23 (by decide) (zr_23_5 n) ?_
                refine z_iload C dX1_worth_89 rfl ?_
                refine z_iconst (v := 1) C dX1_worth_91 (by decide) ?_
                refine z_isub C dX1_worth_92 ?_
                rw [hl1]
                refine z_aload_n C dX1_worth_93 rfl ?_
                refine zs_getR C dX1_worth_94 zf_X1_19 zk_23 (by decide) (zr_23_5 n) ?_
                refine z_iload C dX1_worth_97 rfl ?_
                refine z_iconst (v := 1) C dX1_worth_99 (by decide) ?_
                refine z_isub C dX1_worth_100 ?_
                rw [hl1]
                refine z_iald C dX1_worth_101 zk_27 (by decide) ?_ ?_
                · exact vp_in_nI (by simp at hl; omega) (by decide)
                refine z_if_ne (tgt := 109) C dX1_worth_102 (by decide) (fun q102 => ?_) (fun q102 => ?_)
                · refine z_iconst (v := 0) C dX1_worth_109 (by decide) ?_
                  refine z_iast C dX1_worth_110 zk_27 (by decide) ?_ ?_
                  · exact vp_in_nI (by simp at hl; omega) (by decide)
                  refine z_goto (tgt := 153) C dX1_worth_111 (by decide) ?_
                  refine z_iinc (y := 1) (lv' := [some (.ref 23), some (.int _), some (.int _), some (.ref 28), some (.int _), some (.int _), some (.int kd)]) C dX1_worth_153 rfl (by decide) (by decide) rfl ?_
                  refine z_goto (tgt := 6) C dX1_worth_156 (by decide) ?_
                  refine z_sub z_drop6 ?_
                  rw [nI_1 i]
                  rw [nI_clamp (show r.length < 2 ^ 31 by simp at hl; omega)]
                  have hx : cur 27 r.length = x := hst.1
                  rw [nI_clamp (show r.length < 2 ^ 31 by simp at hl; omega), hx] at q102
                  refine ih (i + 1) (0 :: r) _ (by omega) (zu27 ho) ?_ (by simpa using hl) ?_
                  · rw [zu_s]; exact zstk_p _ hst.2
                  · rw [← hr, zev, ← ekd]
                    have es : zit (iv 28) kd (x :: r) = 0 :: r := by
                      unfold zit
                      rw [if_neg (show ¬ zisop kd from by
                      rintro (z | z)
                      · omega
                      · exact q43 z), if_pos q77]
                      show (if x = 0 then 1 else 0) :: r = _
                      rw [if_neg q102]
                    rw [es]
                · refine z_iconst (v := 1) C dX1_worth_105 (by decide) ?_
                  refine z_goto (tgt := 110) C dX1_worth_106 (by decide) ?_
                  refine z_iast C dX1_worth_110 zk_27 (by decide) ?_ ?_
                  · exact vp_in_nI (by simp at hl; omega) (by decide)
                  refine z_goto (tgt := 153) C dX1_worth_111 (by decide) ?_
                  refine z_iinc (y := 1) (lv' := [some (.ref 23), some (.int _), some (.int _), some (.ref 28), some (.int _), some (.int _), some (.int kd)]) C dX1_worth_153 rfl (by decide) (by decide) rfl ?_
                  refine z_goto (tgt := 6) C dX1_worth_156 (by decide) ?_
                  refine z_sub z_drop6 ?_
                  rw [nI_1 i]
                  rw [nI_clamp (show r.length < 2 ^ 31 by simp at hl; omega)]
                  have hx : cur 27 r.length = x := hst.1
                  rw [nI_clamp (show r.length < 2 ^ 31 by simp at hl; omega), hx] at q102
                  refine ih (i + 1) (1 :: r) _ (by omega) (zu27 ho) ?_ (by simpa using hl) ?_
                  · rw [zu_s]; exact zstk_p _ hst.2
                  · rw [← hr, zev, ← ekd]
                    have es : zit (iv 28) kd (x :: r) = 1 :: r := by
                      unfold zit
                      rw [if_neg (show ¬ zisop kd from by
                      rintro (z | z)
                      · omega
                      · exact q43 z), if_pos q77]
                      show (if x = 0 then 1 else 0) :: r = _
                      rw [if_pos q102]
                    rw [es]
          · refine z_iload C dX1_worth_46 rfl ?_
            refine z_bipush (v := 100) C dX1_worth_48 (by decide) ?_
            refine zt_icmp_ge (tgt := 153) C dX1_worth_50 (nI_toInt (by omega)) (show (100 : Int32).toInt = 100 by decide) (by decide) (fun q50 => ?_) (fun q50 => ?_)
            · refine z_iinc (y := 1) (lv' := [some (.ref 23), some (.int _), some (.int _), some (.ref 28), some (.int _), some (.int _), some (.int kd)]) C dX1_worth_153 rfl (by decide) (by decide) rfl ?_
              refine z_goto (tgt := 6) C dX1_worth_156 (by decide) ?_
              refine z_sub z_drop6 ?_
              rw [nI_1 i]
              refine ih (i + 1) s cur (by omega) ho hst hl ?_
              rw [← hr, zev, ← ekd]
              have es : zit (iv 28) kd s = s := by
                unfold zit
                rw [if_pos (show zisop kd from Or.inr q43), if_neg (by omega)]
              rw [es]
            · refine z_aload_n C dX1_worth_53 rfl ?_
              refine zs_getR C dX1_worth_54 zf_X1_19 zk_23 (by decide) (zr_23_5 n) ?_
              refine z_iload C dX1_worth_57 rfl ?_
              refine z_iload C dX1_worth_59 rfl ?_
              refine z_aload_n C dX1_worth_61 rfl ?_
              refine zs_callSi C dX1_worth_62 zm_X1_46 zyX1_operand (c_operand _ _ _ _) (by decide) rfl rfl (Nat.le_of_ble_eq_true rfl) (by decide) (by decide) ?_
              refine z_iast C dX1_worth_65 zk_27 (by decide) ?_ ?_
              · exact vp_in_nI (by omega) (by decide)
              refine z_iinc (y := 1) (lv' := [some (.ref 23), some (.int _), some (.int _), some (.ref 28), some (.int _), some (.int _), some (.int kd)]) C dX1_worth_66 rfl (by decide) (by decide) rfl ?_
              refine z_goto (tgt := 153) C dX1_worth_69 (by decide) ?_
              refine z_iinc (y := 1) (lv' := [some (.ref 23), some (.int _), some (.int _), some (.ref 28), some (.int _), some (.int _), some (.int kd)]) C dX1_worth_153 rfl (by decide) (by decide) rfl ?_
              refine z_goto (tgt := 6) C dX1_worth_156 (by decide) ?_
              refine z_sub z_drop6 ?_
              rw [nI_1 i]
              rw [nI_clamp (by omega), nI_1]
              refine ih (i + 1) (zopd (iv 28) kd :: s) _ (by omega) (zu27 ho) ?_ (by simp; omega) ?_
              · rw [zu_s]
                show zstk (upd (cur 27) s.length (if 1000 ≤ kd.toInt then kd - 1000 else if 0 ≤ (kd - 208).toInt ∧ (kd - 208).toInt < 10 then cur 28 (kd - 208).toNatClampNeg else 0)) _
                rw [ho 28 (by decide)]
                exact zstk_p (zopd (iv 28) kd) hst
              · rw [← hr, zev, ← ekd]
                have es : zit (iv 28) kd s = zopd (iv 28) kd :: s := by
                  unfold zit
                  rw [if_pos (show zisop kd from Or.inr q43), if_pos (by omega)]
                rw [es]

set_option maxRecDepth 4000 in
theorem c_worth (n : Nat) (iv : zI) (lw : zG) (fr e m : Nat) (he : e ≤ m) (hm : iv 23 3 = nI m) (hm2 : m ≤ 400) (hf : fr ≤ e) : zMs yX1_worth cX1_worth 7 (some .int) 1 [.ref 23, .int (nI fr), .int (nI e), .ref 28] n iv lw (fun v iv2 lw2 => v = some (.int (zbot (zev (iv 28) (iv 26) fr (e - fr) []))) ∧ lw2 = lw ∧ ∀ c, c ≠ 27 → iv2 c = iv c) := by
  refine zM.of (by decide) (Nat.le_of_ble_eq_true rfl) (fun X C E => ?_)
  change zJs X n 7 0 [some (.ref 23), some (.int (nI fr)), some (.int (nI e)), some (.ref 28), none, none, none] [] iv lw
  refine z_iconst (v := 0) C dX1_worth_0 (by decide) ?_
  refine z_istore (lv' := [some (.ref 23), some (.int _), some (.int _), some (.ref 28), some (.int _), none, none]) C dX1_worth_1 (by decide) rfl ?_
  refine z_iload_n C dX1_worth_3 rfl ?_
  refine z_istore (lv' := [some (.ref 23), some (.int _), some (.int _), some (.ref 28), some (.int _), some (.int _), none]) C dX1_worth_4 (by decide) rfl ?_
  exact lp_worth n iv lw fr e m he hm hm2 _ C E (e - fr) fr [] iv (by omega) (fun _ _ => rfl) trivial (by simp) rfl
