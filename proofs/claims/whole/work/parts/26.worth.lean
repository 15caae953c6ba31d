/-! orders: the worth of an e, its operators behind what they join -/
def zjoin (kd l r : Int32) : Int32 := if kd = 43 then l + r else if kd = 45 then l - r else if kd = 60 then zb (l.toInt < r.toInt) else if kd = 61 then zb (l = r) else if kd = 62 then zb (r.toInt < l.toInt) else if kd = 205 then zb (¬ l = 0 ∨ ¬ r = 0) else if kd = 206 then zb (¬ l = 0 ∧ ¬ r = 0) else 0
def zopd (seen : Nat → Int32) (kd : Int32) : Int32 := if 1000 ≤ kd.toInt then kd - 1000 else if 0 ≤ (kd - 208).toInt ∧ (kd - 208).toInt < 10 then seen (kd - 208).toNatClampNeg else 0
abbrev zisop (kd : Int32) : Prop := 1000 ≤ kd.toInt ∨ (208 ≤ kd.toInt ∧ kd.toInt < 218)
def zit (seen : Nat → Int32) (kd : Int32) (s : List Int32) : List Int32 :=
  if zisop kd then (if s.length < 100 then zopd seen kd :: s else s)
  else if kd = 207 then (match s with
    | x :: r => (if x = 0 then 1 else 0) :: r
    | [] => [])
  else (match s with
    | y :: x :: r => zjoin kd x y :: r
    | s => s)
def zev (seen K : Nat → Int32) : Nat → Nat → List Int32 → List Int32
  | _, 0, s => s
  | i, k + 1, s => zev seen K (i + 1) k (zit seen (K i) s)
def zbot : List Int32 → Int32
  | [] => 0
  | [x] => x
  | _ :: y :: r => zbot (y :: r)
/-- a pile in an array -/
def zstk (f : Nat → Int32) : List Int32 → Prop
  | [] => True
  | x :: r => f r.length = x ∧ zstk f r
theorem zstk_u {f : Nat → Int32} {v : Int32} : ∀ {r : List Int32} {k : Nat}, zstk f r → r.length ≤ k → zstk (upd f k v) r
  | [], _, _, _ => trivial
  | x :: r, k, h, hk => ⟨by
      have hk' : r.length + 1 ≤ k := hk
      rw [pk_un (by omega)]; exact h.1, zstk_u h.2 (by
      have hk' : r.length + 1 ≤ k := hk
      omega)⟩
theorem zstk_p {f : Nat → Int32} {s : List Int32} (v : Int32) (h : zstk f s) : zstk (upd f s.length v) (v :: s) := ⟨pk_us, zstk_u h (Nat.le_refl _)⟩
theorem zstk_b {f : Nat → Int32} : ∀ {s : List Int32}, zstk f s → 0 < s.length → f 0 = zbot s
  | [], _, h => absurd h (by simp)
  | [x], h, _ => h.1
  | x :: y :: r, h, _ => zstk_b (s := y :: r) h.2 (by simp)
theorem zit_len (seen : Nat → Int32) (kd : Int32) (s : List Int32) (h : s.length ≤ 100) : (zit seen kd s).length ≤ 100 := by
  unfold zit
  split
  · split
    · simp; omega
    · exact h
  · split
    · cases s with
      | nil => simp
      | cons x r => simpa using h
    · match s, h with
      | [], h => simpa using h
      | [x], h => simpa using h
      | y :: x :: r, h => simp at h ⊢; omega

set_option maxRecDepth 4000 in
theorem c_isName (n : Nat) (iv : zI) (lw : zG) (kd : Int32) : zMi yX6_isName cX6_isName 1 (some .boolean) 0 [.int kd] n iv lw (zb (208 ≤ kd.toInt ∧ kd.toInt < 218)) iv lw := by
  refine zM.of (by decide) (Nat.le_of_ble_eq_true rfl) (fun X C E => ?_)
  change zJs X n 1 0 [some (.int kd)] [] iv lw
  refine z_iload_n C dX6_isName_0 rfl ?_
  refine z_sipush (v := 208) C dX6_isName_1 (by decide) ?_
  refine zt_icmp_lt (tgt := 18) C dX6_isName_4 rfl (show (208 : Int32).toInt = 208 by decide) (by decide) (fun q4 => ?_) (fun q4 => ?_)
  · refine z_iconst (v := 0) C dX6_isName_18 (by decide) ?_
    refine zs_iret C E dX6_isName_19 rfl ?_ ?_ ?_
    · exact (zb_f (by omega)).symm
    · rfl
    · rfl
  · refine z_iload_n C dX6_isName_7 rfl ?_
    refine z_sipush (v := 218) C dX6_isName_8 (by decide) ?_
    refine zt_icmp_ge (tgt := 18) C dX6_isName_11 rfl (show (218 : Int32).toInt = 218 by decide) (by decide) (fun q11 => ?_) (fun q11 => ?_)
    · refine z_iconst (v := 0) C dX6_isName_18 (by decide) ?_
      refine zs_iret C E dX6_isName_19 rfl ?_ ?_ ?_
      · exact (zb_f (by omega)).symm
      · rfl
      · rfl
    · refine z_iconst (v := 1) C dX6_isName_14 (by decide) ?_
      refine z_goto (tgt := 19) C dX6_isName_15 (by decide) ?_
      refine zs_iret C E dX6_isName_19 rfl ?_ ?_ ?_
      · exact (zb_t (by omega)).symm
      · rfl
      · rfl

set_option maxRecDepth 4000 in
theorem c_join (n : Nat) (iv : zI) (lw : zG) (kd l r : Int32) : zMi yX1_join cX1_join 3 (some .int) 0 [.int kd, .int l, .int r] n iv lw (zjoin kd l r) iv lw := by
  refine zM.of (by decide) (Nat.le_of_ble_eq_true rfl) (fun X C E => ?_)
  change zJs X n 3 0 [some (.int kd), some (.int l), some (.int r)] [] iv lw
  refine z_iload_n C dX1_join_0 rfl ?_
  by_cases qs1_43 : kd = 43
  · refine z_lookup (tgt := 68) C dX1_join_1 (by decide) (by rw [qs1_43]; try rfl) (by decide) ?_
    refine z_iload_n C dX1_join_68 rfl ?_
    refine z_iload_n C dX1_join_69 rfl ?_
    refine z_iadd C dX1_join_70 ?_
    refine zs_iret C E dX1_join_71 rfl ?_ ?_ ?_
    · unfold zjoin
      rw [if_pos qs1_43]
    · rfl
    · rfl
  by_cases qs1_45 : kd = 45
  · refine z_lookup (tgt := 72) C dX1_join_1 (by decide) (by rw [qs1_45]; try rfl) (by decide) ?_
    refine z_iload_n C dX1_join_72 rfl ?_
    refine z_iload_n C dX1_join_73 rfl ?_
    refine z_isub C dX1_join_74 ?_
    refine zs_iret C E dX1_join_75 rfl ?_ ?_ ?_
    · unfold zjoin
      rw [if_neg (by rw [qs1_45]; decide), if_pos qs1_45]
    · rfl
    · rfl
  by_cases qs1_60 : kd = 60
  · refine z_lookup (tgt := 76) C dX1_join_1 (by decide) (by rw [qs1_60]; try rfl) (by decide) ?_
    refine z_iload_n C dX1_join_76 rfl ?_
    refine z_iload_n C dX1_join_77 rfl ?_
    refine zt_icmp_ge (tgt := 85) C dX1_join_78 rfl rfl (by decide) (fun q78 => ?_) (fun q78 => ?_)
    · refine z_iconst (v := 0) C dX1_join_85 (by decide) ?_
      refine zs_iret C E dX1_join_86 rfl ?_ ?_ ?_
      · unfold zjoin
        rw [if_neg (by rw [qs1_60]; decide), if_neg (by rw [qs1_60]; decide), if_pos qs1_60]
        first | exact (zb_t (by omega)).symm | exact (zb_f (by omega)).symm
      · rfl
      · rfl
    · refine z_iconst (v := 1) C dX1_join_81 (by decide) ?_
      refine z_goto (tgt := 86) C dX1_join_82 (by decide) ?_
      refine zs_iret C E dX1_join_86 rfl ?_ ?_ ?_
      · unfold zjoin
        rw [if_neg (by rw [qs1_60]; decide), if_neg (by rw [qs1_60]; decide), if_pos qs1_60]
        first | exact (zb_t (by omega)).symm | exact (zb_f (by omega)).symm
      · rfl
      · rfl
  by_cases qs1_61 : kd = 61
  · refine z_lookup (tgt := 98) C dX1_join_1 (by decide) (by rw [qs1_61]; try rfl) (by decide) ?_
    refine z_iload_n C dX1_join_98 rfl ?_
    refine z_iload_n C dX1_join_99 rfl ?_
    refine z_icmp_ne (tgt := 107) C dX1_join_100 (by decide) (fun q100 => ?_) (fun q100 => ?_)
    · refine z_iconst (v := 0) C dX1_join_107 (by decide) ?_
      refine zs_iret C E dX1_join_108 rfl ?_ ?_ ?_
      · unfold zjoin
        rw [if_neg (by rw [qs1_61]; decide), if_neg (by rw [qs1_61]; decide), if_neg (by rw [qs1_61]; decide), if_pos qs1_61]
        first | exact (zb_t q100).symm | exact (zb_f q100).symm
      · rfl
      · rfl
    · refine z_iconst (v := 1) C dX1_join_103 (by decide) ?_
      refine z_goto (tgt := 108) C dX1_join_104 (by decide) ?_
      refine zs_iret C E dX1_join_108 rfl ?_ ?_ ?_
      · unfold zjoin
        rw [if_neg (by rw [qs1_61]; decide), if_neg (by rw [qs1_61]; decide), if_neg (by rw [qs1_61]; decide), if_pos qs1_61]
        first | exact (zb_t q100).symm | exact (zb_f q100).symm
      · rfl
      · rfl
  by_cases qs1_62 : kd = 62
  · refine z_lookup (tgt := 87) C dX1_join_1 (by decide) (by rw [qs1_62]; try rfl) (by decide) ?_
    refine z_iload_n C dX1_join_87 rfl ?_
    refine z_iload_n C dX1_join_88 rfl ?_
    refine zt_icmp_le (tgt := 96) C dX1_join_89 rfl rfl (by decide) (fun q89 => ?_) (fun q89 => ?_)
    · refine z_iconst (v := 0) C dX1_join_96 (by decide) ?_
      refine zs_iret C E dX1_join_97 rfl ?_ ?_ ?_
      · unfold zjoin
        rw [if_neg (by rw [qs1_62]; decide), if_neg (by rw [qs1_62]; decide), if_neg (by rw [qs1_62]; decide), if_neg (by rw [qs1_62]; decide), if_pos qs1_62]
        first | exact (zb_t (by omega)).symm | exact (zb_f (by omega)).symm
      · rfl
      · rfl
    · refine z_iconst (v := 1) C dX1_join_92 (by decide) ?_
      refine z_goto (tgt := 97) C dX1_join_93 (by decide) ?_
      refine zs_iret C E dX1_join_97 rfl ?_ ?_ ?_
      · unfold zjoin
        rw [if_neg (by rw [qs1_62]; decide), if_neg (by rw [qs1_62]; decide), if_neg (by rw [qs1_62]; decide), if_neg (by rw [qs1_62]; decide), if_pos qs1_62]
        first | exact (zb_t (by omega)).symm | exact (zb_f (by omega)).symm
      · rfl
      · rfl
  by_cases qs1_205 : kd = 205
  · refine z_lookup (tgt := 123) C dX1_join_1 (by decide) (by rw [qs1_205]; try rfl) (by decide) ?_
    refine z_iload_n C dX1_join_123 rfl ?_
    refine z_if_ne (tgt := 131) C dX1_join_124 (by decide) (fun q124 => ?_) (fun q124 => ?_)
    · refine z_iconst (v := 1) C dX1_join_131 (by decide) ?_
      refine z_goto (tgt := 136) C dX1_join_132 (by decide) ?_
      refine zs_iret C E dX1_join_136 rfl ?_ ?_ ?_
      · unfold zjoin
        rw [if_neg (by rw [qs1_205]; decide), if_neg (by rw [qs1_205]; decide), if_neg (by rw [qs1_205]; decide), if_neg (by rw [qs1_205]; decide), if_neg (by rw [qs1_205]; decide), if_pos qs1_205]
        exact (zb_t (Or.inl q124)).symm
      · rfl
      · rfl
    · refine z_iload_n C dX1_join_127 rfl ?_
      refine z_if_eq (tgt := 135) C dX1_join_128 (by decide) (fun q128 => ?_) (fun q128 => ?_)
      · refine z_iconst (v := 0) C dX1_join_135 (by decide) ?_
        refine zs_iret C E dX1_join_136 rfl ?_ ?_ ?_
        · unfold zjoin
          rw [if_neg (by rw [qs1_205]; decide), if_neg (by rw [qs1_205]; decide), if_neg (by rw [qs1_205]; decide), if_neg (by rw [qs1_205]; decide), if_neg (by rw [qs1_205]; decide), if_pos qs1_205]
          exact (zb_f (fun z => by
            rcases z with z | z
            · exact z q124
            · exact z q128)).symm
        · rfl
        · rfl
      · refine z_iconst (v := 1) C dX1_join_131 (by decide) ?_
        refine z_goto (tgt := 136) C dX1_join_132 (by decide) ?_
        refine zs_iret C E dX1_join_136 rfl ?_ ?_ ?_
        · unfold zjoin
          rw [if_neg (by rw [qs1_205]; decide), if_neg (by rw [qs1_205]; decide), if_neg (by rw [qs1_205]; decide), if_neg (by rw [qs1_205]; decide), if_neg (by rw [qs1_205]; decide), if_pos qs1_205]
          exact (zb_t (Or.inr q128)).symm
        · rfl
        · rfl
  by_cases qs1_206 : kd = 206
  · refine z_lookup (tgt := 109) C dX1_join_1 (by decide) (by rw [qs1_206]; try rfl) (by decide) ?_
    refine z_iload_n C dX1_join_109 rfl ?_
    refine z_if_eq (tgt := 121) C dX1_join_110 (by decide) (fun q110 => ?_) (fun q110 => ?_)
    · refine z_iconst (v := 0) C dX1_join_121 (by decide) ?_
      refine zs_iret C E dX1_join_122 rfl ?_ ?_ ?_
      · unfold zjoin
        rw [if_neg (by rw [qs1_206]; decide), if_neg (by rw [qs1_206]; decide), if_neg (by rw [qs1_206]; decide), if_neg (by rw [qs1_206]; decide), if_neg (by rw [qs1_206]; decide), if_neg (by rw [qs1_206]; decide), if_pos qs1_206]
        exact (zb_f (fun z => z.1 q110)).symm
      · rfl
      · rfl
    · refine z_iload_n C dX1_join_113 rfl ?_
      refine z_if_eq (tgt := 121) C dX1_join_114 (by decide) (fun q114 => ?_) (fun q114 => ?_)
      · refine z_iconst (v := 0) C dX1_join_121 (by decide) ?_
        refine zs_iret C E dX1_join_122 rfl ?_ ?_ ?_
        · unfold zjoin
          rw [if_neg (by rw [qs1_206]; decide), if_neg (by rw [qs1_206]; decide), if_neg (by rw [qs1_206]; decide), if_neg (by rw [qs1_206]; decide), if_neg (by rw [qs1_206]; decide), if_neg (by rw [qs1_206]; decide), if_pos qs1_206]
          exact (zb_f (fun z => z.2 q114)).symm
        · rfl
        · rfl
      · refine z_iconst (v := 1) C dX1_join_117 (by decide) ?_
        refine z_goto (tgt := 122) C dX1_join_118 (by decide) ?_
        refine zs_iret C E dX1_join_122 rfl ?_ ?_ ?_
        · unfold zjoin
          rw [if_neg (by rw [qs1_206]; decide), if_neg (by rw [qs1_206]; decide), if_neg (by rw [qs1_206]; decide), if_neg (by rw [qs1_206]; decide), if_neg (by rw [qs1_206]; decide), if_neg (by rw [qs1_206]; decide), if_pos qs1_206]
          exact (zb_t ⟨q110, q114⟩).symm
        · rfl
        · rfl
  refine z_lookup (off := 136) (tgt := 137) C dX1_join_1 (by decide) (by show Op.lookupswitch.offset [(43, 67), (45, 71), (60, 75), (61, 97), (62, 86), (205, 122), (206, 108)] 136 _ = _; rw [lv_osw qs1_43 (by decide), lv_osw qs1_45 (by decide), lv_osw qs1_60 (by decide), lv_osw qs1_61 (by decide), lv_osw qs1_62 (by decide), lv_osw qs1_205 (by decide), lv_osw qs1_206 (by decide)]; rfl) (by decide) ?_
  refine z_iconst (v := 0) C dX1_join_137 (by decide) ?_
  refine zs_iret C E dX1_join_138 rfl ?_ ?_ ?_
  · unfold zjoin
    simp [*]
  · rfl
  · rfl

