/-! a coach's own numbers -/
def zstep (f t : Int32) : Int32 := if f.toInt < t.toInt then 1 else -1
def znext (f t inn : Int32) : Int32 := if f.toInt < t.toInt then inn else inn - 1
def zpace (k : Int32) : Int32 := if k = 1 then 6 else if k = 2 then 9 else 7
def zseats (k : Int32) : Int32 := if k = 1 then 4 else if k = 2 then 8 else 12
def zlo (f t : Int32) : Int32 := if t < f then t else f
def zhi (f t : Int32) : Int32 := if f < t then t else f
/-- from a on, f j more for each j below m -/
def zacc (a : Int32) (f : Nat → Int32) : Nat → Int32
  | 0 => a
  | m + 1 => zacc a f m + f m
def zmin (s a w l e : Int32) : Int32 := if s = 1 then a else if s = 3 then l else -1
def zwhere (s inn te la a l w wh : Int32) : Int32 := if wh = 0 then s else if wh = 1 then inn else if wh = 2 then te else if wh = 3 then la else if wh = 4 then (if s = 1 then a else if s = 3 then l else -1) else if wh = 5 then (if s = 1 then 0 else w) else -1
/-- the parts get what was coming -/
def zaddp (iv : zI) (c : Nat) : Nat → zI
  | 0 => iv
  | m + 1 => zu (zaddp iv c m) (c + 1) m (zaddp iv c m (c + 1) m + iv (c + 2) m)
theorem zaddp_o (iv : zI) (c : Nat) {q : Nat} (h : q ≠ c + 1) : ∀ m, zaddp iv c m q = iv q
  | 0 => rfl
  | m + 1 => by rw [zaddp, zu_n _ _ _ h, zaddp_o iv c h m]

set_option maxRecDepth 4000 in
theorem c_step (n : Nat) (iv : zI) (lw : zG) (i : Nat) (hi : i < n) (hn : n ≤ 8) : zMi yX0_step cX0_step 1 (some .int) 0 [.ref (91 + 3 * i)] n iv lw (zstep (iv (91 + 3 * i) 2) (iv (91 + 3 * i) 3)) iv lw := by
  refine zM.of (by decide) (Nat.le_of_ble_eq_true rfl) (fun X C E => ?_)
  change zJs X n 1 0 [some (.ref (91 + 3 * i))] [] iv lw
  refine z_aload_n C dX0_step_0 rfl ?_
  refine z_getI C dX0_step_1 zf_X0_21 (zkc i) (by omega) ?_
  refine z_aload_n C dX0_step_4 rfl ?_
  refine z_getI C dX0_step_5 zf_X0_18 (zkc i) (by omega) ?_
  refine zt_icmp_le (tgt := 15) C dX0_step_8 rfl rfl (by decide) (fun q8 => ?_) (fun q8 => ?_)
  · refine z_iconst (v := (-1)) C dX0_step_15 (by decide) ?_
    refine zs_iret C E dX0_step_16 rfl ?_ ?_ ?_
    · unfold zstep
      first | (rw [if_pos (by omega)]) | (rw [if_neg (by omega)])
    · rfl
    · rfl
  · refine z_iconst (v := 1) C dX0_step_11 (by decide) ?_
    refine z_goto (tgt := 16) C dX0_step_12 (by decide) ?_
    refine zs_iret C E dX0_step_16 rfl ?_ ?_ ?_
    · unfold zstep
      first | (rw [if_pos (by omega)]) | (rw [if_neg (by omega)])
    · rfl
    · rfl

set_option maxRecDepth 4000 in
theorem c_nextStage (n : Nat) (iv : zI) (lw : zG) (i : Nat) (hi : i < n) (hn : n ≤ 8) : zMi yX0_nextStage cX0_nextStage 1 (some .int) 0 [.ref (91 + 3 * i)] n iv lw (znext (iv (91 + 3 * i) 2) (iv (91 + 3 * i) 3) (iv (91 + 3 * i) 6)) iv lw := by
  refine zM.of (by decide) (Nat.le_of_ble_eq_true rfl) (fun X C E => ?_)
  change zJs X n 1 0 [some (.ref (91 + 3 * i))] [] iv lw
  refine z_aload_n C dX0_nextStage_0 rfl ?_
  refine z_getI C dX0_nextStage_1 zf_X0_21 (zkc i) (by omega) ?_
  refine z_aload_n C dX0_nextStage_4 rfl ?_
  refine z_getI C dX0_nextStage_5 zf_X0_18 (zkc i) (by omega) ?_
  refine zt_icmp_le (tgt := 18) C dX0_nextStage_8 rfl rfl (by decide) (fun q8 => ?_) (fun q8 => ?_)
  · refine z_aload_n C dX0_nextStage_18 rfl ?_
    refine z_getI C dX0_nextStage_19 zf_X0_30 (zkc i) (by omega) ?_
    refine z_iconst (v := 1) C dX0_nextStage_22 (by decide) ?_
    refine z_isub C dX0_nextStage_23 ?_
    refine zs_iret C E dX0_nextStage_24 rfl ?_ ?_ ?_
    · unfold znext
      first | (rw [if_pos (by omega)]) | (rw [if_neg (by omega)])
    · rfl
    · rfl
  · refine z_aload_n C dX0_nextStage_11 rfl ?_
    refine z_getI C dX0_nextStage_12 zf_X0_30 (zkc i) (by omega) ?_
    refine z_goto (tgt := 24) C dX0_nextStage_15 (by decide) ?_
    refine zs_iret C E dX0_nextStage_24 rfl ?_ ?_ ?_
    · unfold znext
      first | (rw [if_pos (by omega)]) | (rw [if_neg (by omega)])
    · rfl
    · rfl

set_option maxRecDepth 4000 in
theorem c_pace (n : Nat) (iv : zI) (lw : zG) (i : Nat) (hi : i < n) (hn : n ≤ 8) : zMi yX0_pace cX0_pace 1 (some .int) 0 [.ref (91 + 3 * i)] n iv lw (zpace (iv (91 + 3 * i) 0)) iv lw := by
  refine zM.of (by decide) (Nat.le_of_ble_eq_true rfl) (fun X C E => ?_)
  change zJs X n 1 0 [some (.ref (91 + 3 * i))] [] iv lw
  refine z_aload_n C dX0_pace_0 rfl ?_
  refine z_getI C dX0_pace_1 zf_X0_9 (zkc i) (by omega) ?_
  refine z_iconst (v := 1) C dX0_pace_4 (by decide) ?_
  refine z_icmp_ne (tgt := 11) C dX0_pace_5 (by decide) (fun q5 => ?_) (fun q5 => ?_)
  · refine z_aload_n C dX0_pace_11 rfl ?_
    refine z_getI C dX0_pace_12 zf_X0_9 (zkc i) (by omega) ?_
    refine z_iconst (v := 2) C dX0_pace_15 (by decide) ?_
    refine z_icmp_ne (tgt := 24) C dX0_pace_16 (by decide) (fun q16 => ?_) (fun q16 => ?_)
    · refine z_bipush (v := 7) C dX0_pace_24 (by decide) ?_
      refine zs_iret C E dX0_pace_26 rfl ?_ ?_ ?_
      · unfold zpace
        simp [*]
      · rfl
      · rfl
    · refine z_bipush (v := 9) C dX0_pace_19 (by decide) ?_
      refine z_goto (tgt := 26) C dX0_pace_21 (by decide) ?_
      refine zs_iret C E dX0_pace_26 rfl ?_ ?_ ?_
      · unfold zpace
        simp [*]
      · rfl
      · rfl
  · refine z_bipush (v := 6) C dX0_pace_8 (by decide) ?_
    refine zs_iret C E dX0_pace_10 rfl ?_ ?_ ?_
    · unfold zpace
      simp [*]
    · rfl
    · rfl

set_option maxRecDepth 4000 in
theorem c_seats (n : Nat) (iv : zI) (lw : zG) (i : Nat) (hi : i < n) (hn : n ≤ 8) : zMi yX0_seats cX0_seats 1 (some .int) 0 [.ref (91 + 3 * i)] n iv lw (zseats (iv (91 + 3 * i) 0)) iv lw := by
  refine zM.of (by decide) (Nat.le_of_ble_eq_true rfl) (fun X C E => ?_)
  change zJs X n 1 0 [some (.ref (91 + 3 * i))] [] iv lw
  refine z_aload_n C dX0_seats_0 rfl ?_
  refine z_getI C dX0_seats_1 zf_X0_9 (zkc i) (by omega) ?_
  refine z_iconst (v := 1) C dX0_seats_4 (by decide) ?_
  refine z_icmp_ne (tgt := 10) C dX0_seats_5 (by decide) (fun q5 => ?_) (fun q5 => ?_)
  · refine z_aload_n C dX0_seats_10 rfl ?_
    refine z_getI C dX0_seats_11 zf_X0_9 (zkc i) (by omega) ?_
    refine z_iconst (v := 2) C dX0_seats_14 (by decide) ?_
    refine z_icmp_ne (tgt := 23) C dX0_seats_15 (by decide) (fun q15 => ?_) (fun q15 => ?_)
    · refine z_bipush (v := 12) C dX0_seats_23 (by decide) ?_
      refine zs_iret C E dX0_seats_25 rfl ?_ ?_ ?_
      · unfold zseats
        simp [*]
      · rfl
      · rfl
    · refine z_bipush (v := 8) C dX0_seats_18 (by decide) ?_
      refine z_goto (tgt := 25) C dX0_seats_20 (by decide) ?_
      refine zs_iret C E dX0_seats_25 rfl ?_ ?_ ?_
      · unfold zseats
        simp [*]
      · rfl
      · rfl
  · refine z_iconst (v := 4) C dX0_seats_8 (by decide) ?_
    refine zs_iret C E dX0_seats_9 rfl ?_ ?_ ?_
    · unfold zseats
      simp [*]
    · rfl
    · rfl

set_option maxRecDepth 4000 in
theorem c_passesInn (n : Nat) (iv : zI) (lw : zG) (i : Nat) (hi : i < n) (hn : n ≤ 8) (wh : Int32) : zMi yX0_passesInn cX0_passesInn 2 (some .boolean) 1 [.ref (91 + 3 * i), .int wh] n iv lw (zb ((zlo (iv (91 + 3 * i) 2) (iv (91 + 3 * i) 3)).toInt ≤ wh.toInt ∧ wh.toInt ≤ (zhi (iv (91 + 3 * i) 2) (iv (91 + 3 * i) 3)).toInt)) iv lw := by
  refine zM.of (by decide) (Nat.le_of_ble_eq_true rfl) (fun X C E => ?_)
  change zJs X n 2 0 [some (.ref (91 + 3 * i)), some (.int wh)] [] iv lw
  refine z_iload_n C dX0_passesInn_0 rfl ?_
  refine z_aload_n C dX0_passesInn_1 rfl ?_
  refine z_getI C dX0_passesInn_2 zf_X0_18 (zkc i) (by omega) ?_
  refine z_aload_n C dX0_passesInn_5 rfl ?_
  refine z_getI C dX0_passesInn_6 zf_X0_21 (zkc i) (by omega) ?_
  refine z_mmin C dX0_passesInn_9 zm_X0_46 (by decide) (Nat.le_of_ble_eq_true rfl) (by decide) (by decide) ?_
  refine zt_icmp_lt (tgt := 34) C dX0_passesInn_12 rfl (show _ = (zlo (iv (91 + 3 * i) 2) (iv (91 + 3 * i) 3)).toInt from rfl) (by decide) (fun q12 => ?_) (fun q12 => ?_)
  · refine z_iconst (v := 0) C dX0_passesInn_34 (by decide) ?_
    refine zs_iret C E dX0_passesInn_35 rfl ?_ ?_ ?_
    · exact (zb_f (by omega)).symm
    · rfl
    · rfl
  · refine z_iload_n C dX0_passesInn_15 rfl ?_
    refine z_aload_n C dX0_passesInn_16 rfl ?_
    refine z_getI C dX0_passesInn_17 zf_X0_18 (zkc i) (by omega) ?_
    refine z_aload_n C dX0_passesInn_20 rfl ?_
    refine z_getI C dX0_passesInn_21 zf_X0_21 (zkc i) (by omega) ?_
    refine z_mmax C dX0_passesInn_24 zm_X0_52 (by decide) (Nat.le_of_ble_eq_true rfl) (by decide) (by decide) ?_
    refine zt_icmp_gt (tgt := 34) C dX0_passesInn_27 rfl (show _ = (zhi (iv (91 + 3 * i) 2) (iv (91 + 3 * i) 3)).toInt from rfl) (by decide) (fun q27 => ?_) (fun q27 => ?_)
    · refine z_iconst (v := 0) C dX0_passesInn_34 (by decide) ?_
      refine zs_iret C E dX0_passesInn_35 rfl ?_ ?_ ?_
      · exact (zb_f (by omega)).symm
      · rfl
      · rfl
    · refine z_iconst (v := 1) C dX0_passesInn_30 (by decide) ?_
      refine z_goto (tgt := 35) C dX0_passesInn_31 (by decide) ?_
      refine zs_iret C E dX0_passesInn_35 rfl ?_ ?_ ?_
      · exact (zb_t (by omega)).symm
      · rfl
      · rfl

set_option maxRecDepth 4000 in
theorem c_passesStage (n : Nat) (iv : zI) (lw : zG) (i : Nat) (hi : i < n) (hn : n ≤ 8) (wh : Int32) : zMi yX0_passesStage cX0_passesStage 2 (some .boolean) 1 [.ref (91 + 3 * i), .int wh] n iv lw (zb ((zlo (iv (91 + 3 * i) 2) (iv (91 + 3 * i) 3)).toInt ≤ wh.toInt ∧ wh.toInt < (zhi (iv (91 + 3 * i) 2) (iv (91 + 3 * i) 3)).toInt)) iv lw := by
  refine zM.of (by decide) (Nat.le_of_ble_eq_true rfl) (fun X C E => ?_)
  change zJs X n 2 0 [some (.ref (91 + 3 * i)), some (.int wh)] [] iv lw
  refine z_iload_n C dX0_passesStage_0 rfl ?_
  refine z_aload_n C dX0_passesStage_1 rfl ?_
  refine z_getI C dX0_passesStage_2 zf_X0_18 (zkc i) (by omega) ?_
  refine z_aload_n C dX0_passesStage_5 rfl ?_
  refine z_getI C dX0_passesStage_6 zf_X0_21 (zkc i) (by omega) ?_
  refine z_mmin C dX0_passesStage_9 zm_X0_46 (by decide) (Nat.le_of_ble_eq_true rfl) (by decide) (by decide) ?_
  refine zt_icmp_lt (tgt := 34) C dX0_passesStage_12 rfl (show _ = (zlo (iv (91 + 3 * i) 2) (iv (91 + 3 * i) 3)).toInt from rfl) (by decide) (fun q12 => ?_) (fun q12 => ?_)
  · refine z_iconst (v := 0) C dX0_passesStage_34 (by decide) ?_
    refine zs_iret C E dX0_passesStage_35 rfl ?_ ?_ ?_
    · exact (zb_f (by omega)).symm
    · rfl
    · rfl
  · refine z_iload_n C dX0_passesStage_15 rfl ?_
    refine z_aload_n C dX0_passesStage_16 rfl ?_
    refine z_getI C dX0_passesStage_17 zf_X0_18 (zkc i) (by omega) ?_
    refine z_aload_n C dX0_passesStage_20 rfl ?_
    refine z_getI C dX0_passesStage_21 zf_X0_21 (zkc i) (by omega) ?_
    refine z_mmax C dX0_passesStage_24 zm_X0_52 (by decide) (Nat.le_of_ble_eq_true rfl) (by decide) (by decide) ?_
    refine zt_icmp_ge (tgt := 34) C dX0_passesStage_27 rfl (show _ = (zhi (iv (91 + 3 * i) 2) (iv (91 + 3 * i) 3)).toInt from rfl) (by decide) (fun q27 => ?_) (fun q27 => ?_)
    · refine z_iconst (v := 0) C dX0_passesStage_34 (by decide) ?_
      refine zs_iret C E dX0_passesStage_35 rfl ?_ ?_ ?_
      · exact (zb_f (by omega)).symm
      · rfl
      · rfl
    · refine z_iconst (v := 1) C dX0_passesStage_30 (by decide) ?_
      refine z_goto (tgt := 35) C dX0_passesStage_31 (by decide) ?_
      refine zs_iret C E dX0_passesStage_35 rfl ?_ ?_ ?_
      · exact (zb_t (by omega)).symm
      · rfl
      · rfl

set_option maxRecDepth 4000 in
theorem c_goesBetween (n : Nat) (iv : zI) (lw : zG) (i : Nat) (hi : i < n) (hn : n ≤ 8) (a b : Int32) : zMi yX0_goesBetween cX0_goesBetween 3 (some .boolean) 2 [.ref (91 + 3 * i), .int a, .int b] n iv lw (zb (((zlo (iv (91 + 3 * i) 2) (iv (91 + 3 * i) 3)).toInt ≤ a.toInt ∧ a.toInt ≤ (zhi (iv (91 + 3 * i) 2) (iv (91 + 3 * i) 3)).toInt) ∧ ((zlo (iv (91 + 3 * i) 2) (iv (91 + 3 * i) 3)).toInt ≤ b.toInt ∧ b.toInt ≤ (zhi (iv (91 + 3 * i) 2) (iv (91 + 3 * i) 3)).toInt) ∧ (((iv (91 + 3 * i) 2).toInt < (iv (91 + 3 * i) 3).toInt ∧ a.toInt < b.toInt) ∨ (¬ (iv (91 + 3 * i) 2).toInt < (iv (91 + 3 * i) 3).toInt ∧ b.toInt < a.toInt)))) iv lw := by
  refine zM.of (by decide) (Nat.le_of_ble_eq_true rfl) (fun X C E => ?_)
  change zJs X n 3 0 [some (.ref (91 + 3 * i)), some (.int a), some (.int b)] [] iv lw
  refine z_aload_n C dX0_goesBetween_0 rfl ?_
  refine z_iload_n C dX0_goesBetween_1 rfl ?_
  refine zs_callVi C dX0_goesBetween_2 zm_X0_55 zyX0_passesInn (c_passesInn _ _ _ i hi hn _) zc_0 rfl (zkc i) (by omega) (by decide) rfl rfl (Nat.le_of_ble_eq_true rfl) (by decide) (by decide) ?_
  refine zb_if_eq (tgt := 44) C dX0_goesBetween_5 (by decide) (fun q5 => ?_) (fun q5 => ?_)
  · refine z_iconst (v := 0) C dX0_goesBetween_44 (by decide) ?_
    refine zs_iret C E dX0_goesBetween_45 rfl ?_ ?_ ?_
    · exact (zb_f (by omega)).symm
    · rfl
    · rfl
  · refine z_aload_n C dX0_goesBetween_8 rfl ?_
    refine z_iload_n C dX0_goesBetween_9 rfl ?_
    refine zs_callVi C dX0_goesBetween_10 zm_X0_55 zyX0_passesInn (c_passesInn _ _ _ i hi hn _) zc_0 rfl (zkc i) (by omega) (by decide) rfl rfl (Nat.le_of_ble_eq_true rfl) (by decide) (by decide) ?_
    refine zb_if_eq (tgt := 44) C dX0_goesBetween_13 (by decide) (fun q13 => ?_) (fun q13 => ?_)
    · refine z_iconst (v := 0) C dX0_goesBetween_44 (by decide) ?_
      refine zs_iret C E dX0_goesBetween_45 rfl ?_ ?_ ?_
      · exact (zb_f (by omega)).symm
      · rfl
      · rfl
    · refine z_aload_n C dX0_goesBetween_16 rfl ?_
      refine z_getI C dX0_goesBetween_17 zf_X0_21 (zkc i) (by omega) ?_
      refine z_aload_n C dX0_goesBetween_20 rfl ?_
      refine z_getI C dX0_goesBetween_21 zf_X0_18 (zkc i) (by omega) ?_
      refine zt_icmp_le (tgt := 35) C dX0_goesBetween_24 rfl rfl (by decide) (fun q24 => ?_) (fun q24 => ?_)
      · refine z_iload_n C dX0_goesBetween_35 rfl ?_
        refine z_iload_n C dX0_goesBetween_36 rfl ?_
        refine zt_icmp_le (tgt := 44) C dX0_goesBetween_37 rfl rfl (by decide) (fun q37 => ?_) (fun q37 => ?_)
        · refine z_iconst (v := 0) C dX0_goesBetween_44 (by decide) ?_
          refine zs_iret C E dX0_goesBetween_45 rfl ?_ ?_ ?_
          · exact (zb_f (by omega)).symm
          · rfl
          · rfl
        · refine z_iconst (v := 1) C dX0_goesBetween_40 (by decide) ?_
          refine z_goto (tgt := 45) C dX0_goesBetween_41 (by decide) ?_
          refine zs_iret C E dX0_goesBetween_45 rfl ?_ ?_ ?_
          · exact (zb_t (by omega)).symm
          · rfl
          · rfl
      · refine z_iload_n C dX0_goesBetween_27 rfl ?_
        refine z_iload_n C dX0_goesBetween_28 rfl ?_
        refine zt_icmp_ge (tgt := 44) C dX0_goesBetween_29 rfl rfl (by decide) (fun q29 => ?_) (fun q29 => ?_)
        · refine z_iconst (v := 0) C dX0_goesBetween_44 (by decide) ?_
          refine zs_iret C E dX0_goesBetween_45 rfl ?_ ?_ ?_
          · exact (zb_f (by omega)).symm
          · rfl
          · rfl
        · refine z_goto (tgt := 40) C dX0_goesBetween_32 (by decide) ?_
          refine z_iconst (v := 1) C dX0_goesBetween_40 (by decide) ?_
          refine z_goto (tgt := 45) C dX0_goesBetween_41 (by decide) ?_
          refine zs_iret C E dX0_goesBetween_45 rfl ?_ ?_ ?_
          · exact (zb_t (by omega)).symm
          · rfl
          · rfl

/-- what is coming, by its makers -/
def zreck (iv : zI) (c : Nat) (mu we ch : Int32) : zI := zu (zu (zu (zu (zu iv (c + 2) 0 mu) (c + 2) 1 (iv c 1 / 10)) (c + 2) 2 we) (c + 2) 3 (iv c 10)) (c + 2) 4 ((if ch = 0 then 0 else 2) - (if iv c 6 = iv c 2 then 0 else 2))

set_option maxRecDepth 4000 in
theorem c_reckon (n : Nat) (iv : zI) (lw : zG) (i : Nat) (hi : i < n) (hn : n ≤ 8) (mu we ch : Int32) : zMv yX0_reckon cX0_reckon 4 none 0 [.ref (91 + 3 * i), .int mu, .int we, .int ch] n iv lw (zreck iv (91 + 3 * i) mu we ch) lw := by
  refine zM.of (by decide) (Nat.le_of_ble_eq_true rfl) (fun X C E => ?_)
  change zJs X n 4 0 [some (.ref (91 + 3 * i)), some (.int mu), some (.int we), some (.int ch)] [] iv lw
  refine z_aload_n C dX0_reckon_0 rfl ?_
  refine zs_getR C dX0_reckon_1 zf_X0_43 (zkc i) (by omega) (zrc14 hi) ?_
  refine z_iconst (v := 0) C dX0_reckon_4 (by decide) ?_
  refine z_iload_n C dX0_reckon_5 rfl ?_
  refine z_iast C dX0_reckon_6 (zkc2 i) (by omega) ?_ ?_
  · exact vp_in_iff.mpr (by decide)
  refine z_aload_n C dX0_reckon_7 rfl ?_
  refine zs_getR C dX0_reckon_8 zf_X0_43 (zkc i) (by omega) (zrc14 hi) ?_
  refine z_iconst (v := 1) C dX0_reckon_11 (by decide) ?_
  refine z_aload_n C dX0_reckon_12 rfl ?_
  refine z_getI C dX0_reckon_13 zf_X0_15 (zkc i) (by omega) ?_
  refine z_bipush (v := 10) C dX0_reckon_16 (by decide) ?_
  refine z_idiv C dX0_reckon_18 (by decide) ?_
  refine z_iast C dX0_reckon_19 (zkc2 i) (by omega) ?_ ?_
  · exact vp_in_iff.mpr (by decide)
  refine z_aload_n C dX0_reckon_20 rfl ?_
  refine zs_getR C dX0_reckon_21 zf_X0_43 (zkc i) (by omega) (zrc14 hi) ?_
  refine z_iconst (v := 2) C dX0_reckon_24 (by decide) ?_
  refine z_iload_n C dX0_reckon_25 rfl ?_
  refine z_iast C dX0_reckon_26 (zkc2 i) (by omega) ?_ ?_
  · exact vp_in_iff.mpr (by decide)
  refine z_aload_n C dX0_reckon_27 rfl ?_
  refine zs_getR C dX0_reckon_28 zf_X0_43 (zkc i) (by omega) (zrc14 hi) ?_
  refine z_iconst (v := 3) C dX0_reckon_31 (by decide) ?_
  refine z_aload_n C dX0_reckon_32 rfl ?_
  refine z_getI C dX0_reckon_33 zf_X0_68 (zkc i) (by omega) ?_
  refine z_iast C dX0_reckon_36 (zkc2 i) (by omega) ?_ ?_
  · exact vp_in_iff.mpr (by decide)
  refine z_aload_n C dX0_reckon_37 rfl ?_
  refine zs_getR C dX0_reckon_38 zf_X0_43 (zkc i) (by omega) (zrc14 hi) ?_
  refine z_iconst (v := 4) C dX0_reckon_41 (by decide) ?_
  refine z_iload_n C dX0_reckon_42 rfl ?_
  refine z_if_eq (tgt := 50) C dX0_reckon_43 (by decide) (fun q43 => ?_) (fun q43 => ?_)
  · refine z_iconst (v := 0) C dX0_reckon_50 (by decide) ?_
    refine z_aload_n C dX0_reckon_51 rfl ?_
    refine z_getI C dX0_reckon_52 zf_X0_30 (zkc i) (by omega) ?_
    refine z_aload_n C dX0_reckon_55 rfl ?_
    refine z_getI C dX0_reckon_56 zf_X0_18 (zkc i) (by omega) ?_
    refine z_icmp_ne (tgt := 66) C dX0_reckon_59 (by decide) (fun q59 => ?_) (fun q59 => ?_)
    · simp only [zu_n _ _ _ (show 91 + 3 * i ≠ 91 + 3 * i + 2 by omega)] at q59
      refine z_iconst (v := 2) C dX0_reckon_66 (by decide) ?_
      refine z_isub C dX0_reckon_67 ?_
      refine z_iast C dX0_reckon_68 (zkc2 i) (by omega) ?_ ?_
      · exact vp_in_iff.mpr (by decide)
      refine zs_vret C E dX0_reckon_69 ?_ rfl
      unfold zreck
      simp only [zu_n _ _ _ (show 91 + 3 * i ≠ 91 + 3 * i + 2 by omega)]
      simp [*]
    · simp only [zu_n _ _ _ (show 91 + 3 * i ≠ 91 + 3 * i + 2 by omega)] at q59
      refine z_iconst (v := 0) C dX0_reckon_62 (by decide) ?_
      refine z_goto (tgt := 67) C dX0_reckon_63 (by decide) ?_
      refine z_isub C dX0_reckon_67 ?_
      refine z_iast C dX0_reckon_68 (zkc2 i) (by omega) ?_ ?_
      · exact vp_in_iff.mpr (by decide)
      refine zs_vret C E dX0_reckon_69 ?_ rfl
      unfold zreck
      simp only [zu_n _ _ _ (show 91 + 3 * i ≠ 91 + 3 * i + 2 by omega)]
      simp [*]
  · refine z_iconst (v := 2) C dX0_reckon_46 (by decide) ?_
    refine z_goto (tgt := 51) C dX0_reckon_47 (by decide) ?_
    refine z_aload_n C dX0_reckon_51 rfl ?_
    refine z_getI C dX0_reckon_52 zf_X0_30 (zkc i) (by omega) ?_
    refine z_aload_n C dX0_reckon_55 rfl ?_
    refine z_getI C dX0_reckon_56 zf_X0_18 (zkc i) (by omega) ?_
    refine z_icmp_ne (tgt := 66) C dX0_reckon_59 (by decide) (fun q59 => ?_) (fun q59 => ?_)
    · simp only [zu_n _ _ _ (show 91 + 3 * i ≠ 91 + 3 * i + 2 by omega)] at q59
      refine z_iconst (v := 2) C dX0_reckon_66 (by decide) ?_
      refine z_isub C dX0_reckon_67 ?_
      refine z_iast C dX0_reckon_68 (zkc2 i) (by omega) ?_ ?_
      · exact vp_in_iff.mpr (by decide)
      refine zs_vret C E dX0_reckon_69 ?_ rfl
      unfold zreck
      simp only [zu_n _ _ _ (show 91 + 3 * i ≠ 91 + 3 * i + 2 by omega)]
      simp [*]
    · simp only [zu_n _ _ _ (show 91 + 3 * i ≠ 91 + 3 * i + 2 by omega)] at q59
      refine z_iconst (v := 0) C dX0_reckon_62 (by decide) ?_
      refine z_goto (tgt := 67) C dX0_reckon_63 (by decide) ?_
      refine z_isub C dX0_reckon_67 ?_
      refine z_iast C dX0_reckon_68 (zkc2 i) (by omega) ?_ ?_
      · exact vp_in_iff.mpr (by decide)
      refine zs_vret C E dX0_reckon_69 ?_ rfl
      unfold zreck
      simp only [zu_n _ _ _ (show 91 + 3 * i ≠ 91 + 3 * i + 2 by omega)]
      simp [*]

set_option maxRecDepth 4000 in
theorem c_extra (n : Nat) (iv : zI) (lw : zG) (i : Nat) (hi : i < n) (hn : n ≤ 8) : zMi yX0_extraMinutes cX0_extraMinutes 1 (some .int) 0 [.ref (91 + 3 * i)] n iv lw (iv (91 + 3 * i + 2) 0 + iv (91 + 3 * i + 2) 1 + iv (91 + 3 * i + 2) 2) iv lw := by
  refine zM.of (by decide) (Nat.le_of_ble_eq_true rfl) (fun X C E => ?_)
  change zJs X n 1 0 [some (.ref (91 + 3 * i))] [] iv lw
  refine z_aload_n C dX0_extraMinutes_0 rfl ?_
  refine zs_getR C dX0_extraMinutes_1 zf_X0_43 (zkc i) (by omega) (zrc14 hi) ?_
  refine z_iconst (v := 0) C dX0_extraMinutes_4 (by decide) ?_
  refine z_iald C dX0_extraMinutes_5 (zkc2 i) (by omega) ?_ ?_
  · exact vp_in_iff.mpr (by decide)
  refine z_aload_n C dX0_extraMinutes_6 rfl ?_
  refine zs_getR C dX0_extraMinutes_7 zf_X0_43 (zkc i) (by omega) (zrc14 hi) ?_
  refine z_iconst (v := 1) C dX0_extraMinutes_10 (by decide) ?_
  refine z_iald C dX0_extraMinutes_11 (zkc2 i) (by omega) ?_ ?_
  · exact vp_in_iff.mpr (by decide)
  refine z_iadd C dX0_extraMinutes_12 ?_
  refine z_aload_n C dX0_extraMinutes_13 rfl ?_
  refine zs_getR C dX0_extraMinutes_14 zf_X0_43 (zkc i) (by omega) (zrc14 hi) ?_
  refine z_iconst (v := 2) C dX0_extraMinutes_17 (by decide) ?_
  refine z_iald C dX0_extraMinutes_18 (zkc2 i) (by omega) ?_ ?_
  · exact vp_in_iff.mpr (by decide)
  refine z_iadd C dX0_extraMinutes_19 ?_
  refine zs_iret C E dX0_extraMinutes_20 rfl ?_ ?_ ?_
  · rfl
  · rfl
  · rfl

set_option maxRecDepth 4000 in
theorem c_nextMinute (n : Nat) (iv : zI) (lw : zG) (i : Nat) (hi : i < n) (hn : n ≤ 8) : zMi yX0_nextMinute cX0_nextMinute 1 (some .int) 0 [.ref (91 + 3 * i)] n iv lw (if iv (91 + 3 * i) 5 = 1 then iv (91 + 3 * i) 9 else if iv (91 + 3 * i) 5 = 3 then iv (91 + 3 * i) 8 else -1) iv lw := by
  refine zM.of (by decide) (Nat.le_of_ble_eq_true rfl) (fun X C E => ?_)
  change zJs X n 1 0 [some (.ref (91 + 3 * i))] [] iv lw
  refine z_aload_n C dX0_nextMinute_0 rfl ?_
  refine z_getI C dX0_nextMinute_1 zf_X0_27 (zkc i) (by omega) ?_
  refine z_iconst (v := 1) C dX0_nextMinute_4 (by decide) ?_
  refine z_icmp_ne (tgt := 13) C dX0_nextMinute_5 (by decide) (fun q5 => ?_) (fun q5 => ?_)
  · refine z_aload_n C dX0_nextMinute_13 rfl ?_
    refine z_getI C dX0_nextMinute_14 zf_X0_27 (zkc i) (by omega) ?_
    refine z_iconst (v := 3) C dX0_nextMinute_17 (by decide) ?_
    refine z_icmp_ne (tgt := 28) C dX0_nextMinute_18 (by decide) (fun q18 => ?_) (fun q18 => ?_)
    · refine z_iconst (v := (-1)) C dX0_nextMinute_28 (by decide) ?_
      refine zs_iret C E dX0_nextMinute_29 rfl ?_ ?_ ?_
      · simp [*]
      · rfl
      · rfl
    · refine z_aload_n C dX0_nextMinute_21 rfl ?_
      refine z_getI C dX0_nextMinute_22 zf_X0_83 (zkc i) (by omega) ?_
      refine z_goto (tgt := 29) C dX0_nextMinute_25 (by decide) ?_
      refine zs_iret C E dX0_nextMinute_29 rfl ?_ ?_ ?_
      · simp [*]
      · rfl
      · rfl
  · refine z_aload_n C dX0_nextMinute_8 rfl ?_
    refine z_getI C dX0_nextMinute_9 zf_X0_80 (zkc i) (by omega) ?_
    refine zs_iret C E dX0_nextMinute_12 rfl ?_ ?_ ?_
    · simp [*]
    · rfl
    · rfl

set_option maxRecDepth 4000 in
theorem c_ctell (n : Nat) (iv : zI) (lw : zG) (i : Nat) (hi : i < n) (hn : n ≤ 8) (wh : Int32) : zMi yX0_tell cX0_tell 2 (some .int) 1 [.ref (91 + 3 * i), .int wh] n iv lw (zwhere (iv (91 + 3 * i) 5) (iv (91 + 3 * i) 6) (iv (91 + 3 * i) 7) (iv (91 + 3 * i) 12) (iv (91 + 3 * i) 9) (iv (91 + 3 * i) 8) (iv (91 + 3 * i) 10) wh) iv lw := by
  refine zM.of (by decide) (Nat.le_of_ble_eq_true rfl) (fun X C E => ?_)
  change zJs X n 2 0 [some (.ref (91 + 3 * i)), some (.int wh)] [] iv lw
  refine z_iload_n C dX0_tell_0 rfl ?_
  by_cases qs1_0 : wh = 0
  · refine z_tabIn (tgt := 40) C dX0_tell_1 (by rw [qs1_0]; decide) (by rw [qs1_0]; decide) (by rw [qs1_0]; rfl) (by decide) ?_
    refine z_aload_n C dX0_tell_40 rfl ?_
    refine z_getI C dX0_tell_41 zf_X0_27 (zkc i) (by omega) ?_
    refine zs_iret C E dX0_tell_44 rfl ?_ ?_ ?_
    · unfold zwhere
      simp [*]
    · rfl
    · rfl
  by_cases qs1_1 : wh = 1
  · refine z_tabIn (tgt := 45) C dX0_tell_1 (by rw [qs1_1]; decide) (by rw [qs1_1]; decide) (by rw [qs1_1]; rfl) (by decide) ?_
    refine z_aload_n C dX0_tell_45 rfl ?_
    refine z_getI C dX0_tell_46 zf_X0_30 (zkc i) (by omega) ?_
    refine zs_iret C E dX0_tell_49 rfl ?_ ?_ ?_
    · unfold zwhere
      simp [*]
    · rfl
    · rfl
  by_cases qs1_2 : wh = 2
  · refine z_tabIn (tgt := 50) C dX0_tell_1 (by rw [qs1_2]; decide) (by rw [qs1_2]; decide) (by rw [qs1_2]; rfl) (by decide) ?_
    refine z_aload_n C dX0_tell_50 rfl ?_
    refine z_getI C dX0_tell_51 zf_X0_33 (zkc i) (by omega) ?_
    refine zs_iret C E dX0_tell_54 rfl ?_ ?_ ?_
    · unfold zwhere
      simp [*]
    · rfl
    · rfl
  by_cases qs1_3 : wh = 3
  · refine z_tabIn (tgt := 55) C dX0_tell_1 (by rw [qs1_3]; decide) (by rw [qs1_3]; decide) (by rw [qs1_3]; rfl) (by decide) ?_
    refine z_aload_n C dX0_tell_55 rfl ?_
    refine z_getI C dX0_tell_56 zf_X0_74 (zkc i) (by omega) ?_
    refine zs_iret C E dX0_tell_59 rfl ?_ ?_ ?_
    · unfold zwhere
      simp [*]
    · rfl
    · rfl
  by_cases qs1_4 : wh = 4
  · refine z_tabIn (tgt := 60) C dX0_tell_1 (by rw [qs1_4]; decide) (by rw [qs1_4]; decide) (by rw [qs1_4]; rfl) (by decide) ?_
    refine z_aload_n C dX0_tell_60 rfl ?_
    refine zs_callVi C dX0_tell_61 zm_X0_77 zyX0_nextMinute (c_nextMinute _ _ _ i hi hn) zc_0 rfl (zkc i) (by omega) (by decide) rfl rfl (Nat.le_of_ble_eq_true rfl) (by decide) (by decide) ?_
    refine zs_iret C E dX0_tell_64 rfl ?_ ?_ ?_
    · unfold zwhere
      simp [*]
    · rfl
    · rfl
  by_cases qs1_5 : wh = 5
  · refine z_tabIn (tgt := 65) C dX0_tell_1 (by rw [qs1_5]; decide) (by rw [qs1_5]; decide) (by rw [qs1_5]; rfl) (by decide) ?_
    refine z_aload_n C dX0_tell_65 rfl ?_
    refine z_getI C dX0_tell_66 zf_X0_27 (zkc i) (by omega) ?_
    refine z_iconst (v := 1) C dX0_tell_69 (by decide) ?_
    refine z_icmp_ne (tgt := 77) C dX0_tell_70 (by decide) (fun q70 => ?_) (fun q70 => ?_)
    · refine z_aload_n C dX0_tell_77 rfl ?_
      refine z_getI C dX0_tell_78 zf_X0_68 (zkc i) (by omega) ?_
      refine zs_iret C E dX0_tell_81 rfl ?_ ?_ ?_
      · unfold zwhere
        simp [*]
      · rfl
      · rfl
    · refine z_iconst (v := 0) C dX0_tell_73 (by decide) ?_
      refine z_goto (tgt := 81) C dX0_tell_74 (by decide) ?_
      refine zs_iret C E dX0_tell_81 rfl ?_ ?_ ?_
      · unfold zwhere
        simp [*]
      · rfl
      · rfl
  have qo : (wh : Int32).toInt < 0 ∨ 5 < (wh : Int32).toInt := by
    have h0 : ¬ (wh : Int32).toInt = 0 := fun z => qs1_0 (Int32.toInt_inj.mp z)
    have h1 : ¬ (wh : Int32).toInt = 1 := fun z => qs1_1 (Int32.toInt_inj.mp z)
    have h2 : ¬ (wh : Int32).toInt = 2 := fun z => qs1_2 (Int32.toInt_inj.mp z)
    have h3 : ¬ (wh : Int32).toInt = 3 := fun z => qs1_3 (Int32.toInt_inj.mp z)
    have h4 : ¬ (wh : Int32).toInt = 4 := fun z => qs1_4 (Int32.toInt_inj.mp z)
    have h5 : ¬ (wh : Int32).toInt = 5 := fun z => qs1_5 (Int32.toInt_inj.mp z)
    omega
  refine z_tabOut (tgt := 82) C dX0_tell_1 qo (by decide) ?_
  refine z_iconst (v := (-1)) C dX0_tell_82 (by decide) ?_
  refine zs_iret C E dX0_tell_83 rfl ?_ ?_ ?_
  · unfold zwhere
    simp [*]
  · rfl
  · rfl

set_option maxRecDepth 4000 in
theorem lp_reach (n : Nat) (iv : zI) (lw : zG) (i : Nat) (hi : i < n) (hn : n ≤ 8) {X : zX} (C : zC X cX0_reachNextInn 2 RX0 none "reachNextInn" 0 0 0) (E : zEnd X (91 + 3 * n) 0 0 (zQ n (zQv (zaddp iv (91 + 3 * i) 5) lw))) : ∀ (k : Nat) (j : Nat), j + k = 5 → zJs X n 2 20 [some (.ref (91 + 3 * i)), some (.int (nI j))] [] (zaddp iv (91 + 3 * i) j) lw := by
  intro k
  induction k with
  | zero =>
    intro j hk
    refine z_iload_n C dX0_reachNextInn_20 rfl ?_
    refine z_iconst (v := 5) C dX0_reachNextInn_21 (by decide) ?_
    refine zt_icmp_ge (tgt := 46) C dX0_reachNextInn_22 (nI_toInt (by omega)) (show (5 : Int32).toInt = 5 by decide) (by decide) (fun q22 => ?_) (fun q22 => ?_)
    · refine zs_vret C E dX0_reachNextInn_46 ?_ rfl
      rw [show j = 5 by omega]
    · exfalso; omega
  | succ k ih =>
    intro j hk
    refine z_iload_n C dX0_reachNextInn_20 rfl ?_
    refine z_iconst (v := 5) C dX0_reachNextInn_21 (by decide) ?_
    refine zt_icmp_ge (tgt := 46) C dX0_reachNextInn_22 (nI_toInt (by omega)) (show (5 : Int32).toInt = 5 by decide) (by decide) (fun q22 => ?_) (fun q22 => ?_)
    · exfalso; omega
    · refine z_aload_n C dX0_reachNextInn_25 rfl ?_
      refine zs_getR C dX0_reachNextInn_26 zf_X0_39 (zkc i) (by omega) (zrc13 hi) ?_
      refine z_iload_n C dX0_reachNextInn_29 rfl ?_
      refine z_dup2 C dX0_reachNextInn_30 rfl rfl ?_
      refine z_iald C dX0_reachNextInn_31 (zkc1 i) (by omega) ?_ ?_
      · exact vp_in_nI (by omega) (by decide)
      refine z_aload_n C dX0_reachNextInn_32 rfl ?_
      refine zs_getR C dX0_reachNextInn_33 zf_X0_43 (zkc i) (by omega) (zrc14 hi) ?_
      refine z_iload_n C dX0_reachNextInn_36 rfl ?_
      refine z_iald C dX0_reachNextInn_37 (zkc2 i) (by omega) ?_ ?_
      · exact vp_in_nI (by omega) (by decide)
      refine z_iadd C dX0_reachNextInn_38 ?_
      refine z_iast C dX0_reachNextInn_39 (zkc1 i) (by omega) ?_ ?_
      · exact vp_in_nI (by omega) (by decide)
      refine z_iinc (y := 1) (lv' := [some (.ref (91 + 3 * i)), some (.int _)]) C dX0_reachNextInn_40 rfl (by decide) (by decide) rfl ?_
      refine z_goto (tgt := 20) C dX0_reachNextInn_43 (by decide) ?_
      rw [nI_1 j]
      simp only [nI_clamp (show j < 2 ^ 31 by omega)]
      have e5 : zaddp iv (91 + 3 * i) j (91 + 3 * i + 2) = iv (91 + 3 * i + 2) := zaddp_o iv _ (by omega) j
      rw [e5]
      exact ih (j + 1) (by omega)

set_option maxRecDepth 4000 in
theorem c_reach (n : Nat) (iv : zI) (lw : zG) (i : Nat) (hi : i < n) (hn : n ≤ 8) : zMv yX0_reachNextInn cX0_reachNextInn 2 none 1 [.ref (91 + 3 * i)] n iv lw (zaddp (zu (zu iv (91 + 3 * i) 6 (iv (91 + 3 * i) 6 + zstep (iv (91 + 3 * i) 2) (iv (91 + 3 * i) 3))) (91 + 3 * i) 10 0) (91 + 3 * i) 5) lw := by
  refine zM.of (by decide) (Nat.le_of_ble_eq_true rfl) (fun X C E => ?_)
  change zJs X n 2 0 [some (.ref (91 + 3 * i)), none] [] iv lw
  refine z_aload_n C dX0_reachNextInn_0 rfl ?_
  refine z_dup C dX0_reachNextInn_1 rfl ?_
  refine z_getI C dX0_reachNextInn_2 zf_X0_30 (zkc i) (by omega) ?_
  refine z_aload_n C dX0_reachNextInn_5 rfl ?_
  refine zs_callVi C dX0_reachNextInn_6 zm_X0_71 zyX0_step (c_step _ _ _ i hi hn) zc_0 rfl (zkc i) (by omega) (by decide) rfl rfl (Nat.le_of_ble_eq_true rfl) (by decide) (by decide) ?_
  refine z_iadd C dX0_reachNextInn_9 ?_
  refine z_putI C dX0_reachNextInn_10 zf_X0_30 (zkc i) (by omega) ?_
  refine z_aload_n C dX0_reachNextInn_13 rfl ?_
  refine z_iconst (v := 0) C dX0_reachNextInn_14 (by decide) ?_
  refine z_putI C dX0_reachNextInn_15 zf_X0_68 (zkc i) (by omega) ?_
  refine z_iconst (v := 0) C dX0_reachNextInn_18 (by decide) ?_
  refine z_istore_n (lv' := [some (.ref (91 + 3 * i)), some (.int _)]) C dX0_reachNextInn_19 (by decide) rfl ?_
  exact lp_reach n _ lw i hi hn (zC_le (by decide) C) E 5 0 (by omega)

set_option maxRecDepth 4000 in
theorem lp_told (n : Nat) (iv : zI) (lw : zG) (i : Nat) (hi : i < n) (hn : n ≤ 8) (wh : Int32) (hI : 2 ≤ (iv 1 0).toInt ∧ (iv 1 0).toInt ≤ 8) (a d : Nat) (hL : (zlo (iv (91 + 3 * i) 2) wh) = nI a) (hH : (zhi (iv (91 + 3 * i) 2) wh) = nI (a + d)) (hB : ((a + d : Nat) : Int) < (iv 1 0).toInt) {X : zX} (C : zC X cX0_toldAt 7 RX0 (some .int) "toldAt" 2 0 0) (E : zEnd X (91 + 3 * n) 0 0 (zQ n (zQi (zacc (iv (91 + 3 * i) 4) (fun j => iv 2 (a + j) * zpace (iv (91 + 3 * i) 0) + 2 * iv 3 (a + j)) d + 2 * (if 0 < nI (a + d) - nI a - 1 then nI (a + d) - nI a - 1 else 0)) iv lw))) : ∀ (k : Nat) (j : Nat), j + k = d → zJs X n 7 28 [some (.ref (91 + 3 * i)), some (.int wh), some (.ref 1), some (.int (nI a)), some (.int (nI (a + d))), some (.int (zacc (iv (91 + 3 * i) 4) (fun j => iv 2 (a + j) * zpace (iv (91 + 3 * i) 0) + 2 * iv 3 (a + j)) j)), some (.int (nI (a + j)))] [] iv lw := by
  intro k
  induction k with
  | zero =>
    intro j hk
    refine z_iload C dX0_toldAt_28 rfl ?_
    refine z_iload C dX0_toldAt_30 rfl ?_
    refine zt_icmp_ge (tgt := 56) C dX0_toldAt_32 (nI_toInt (by omega)) (nI_toInt (by omega)) (by decide) (fun q32 => ?_) (fun q32 => ?_)
    · refine z_iload C dX0_toldAt_56 rfl ?_
      refine z_iconst (v := 2) C dX0_toldAt_58 (by decide) ?_
      refine z_iconst (v := 0) C dX0_toldAt_59 (by decide) ?_
      refine z_iload C dX0_toldAt_60 rfl ?_
      refine z_iload_n C dX0_toldAt_62 rfl ?_
      refine z_isub C dX0_toldAt_63 ?_
      refine z_iconst (v := 1) C dX0_toldAt_64 (by decide) ?_
      refine z_isub C dX0_toldAt_65 ?_
      refine z_mmax C dX0_toldAt_66 zm_X0_52 (by decide) (Nat.le_of_ble_eq_true rfl) (by decide) (by decide) ?_
      refine z_imul C dX0_toldAt_69 ?_
      refine z_iadd C dX0_toldAt_70 ?_
      refine zs_iret C E dX0_toldAt_71 rfl ?_ ?_ ?_
      · rw [show j = d by omega]
      · rfl
      · rfl
    · exfalso; omega
  | succ k ih =>
    intro j hk
    refine z_iload C dX0_toldAt_28 rfl ?_
    refine z_iload C dX0_toldAt_30 rfl ?_
    refine zt_icmp_ge (tgt := 56) C dX0_toldAt_32 (nI_toInt (by omega)) (nI_toInt (by omega)) (by decide) (fun q32 => ?_) (fun q32 => ?_)
    · exfalso; omega
    · refine z_iload C dX0_toldAt_35 rfl ?_
      refine z_aload_n C dX0_toldAt_37 rfl ?_
      refine z_iload C dX0_toldAt_38 rfl ?_
      refine z_aload_n C dX0_toldAt_40 rfl ?_
      refine zs_callVi C dX0_toldAt_41 zm_X0_59 zyX0_pace (c_pace _ _ _ i hi hn) zc_0 rfl (zkc i) (by omega) (by decide) rfl rfl (Nat.le_of_ble_eq_true rfl) (by decide) (by decide) ?_
      refine zs_callVi C dX0_toldAt_44 zm_X0_63 zyX2_plainMinutes (c_plainMinutes _ _ _ (nI (a + j)) _ hI (by rw [nI_toInt (by omega)]; omega)) zc_2 rfl zk_1 (by decide) (by decide) rfl rfl (Nat.le_of_ble_eq_true rfl) (by decide) (by decide) ?_
      refine z_iadd C dX0_toldAt_47 ?_
      refine z_istore (lv' := [some (.ref (91 + 3 * i)), some (.int wh), some (.ref 1), some (.int _), some (.int _), some (.int _), some (.int _)]) C dX0_toldAt_48 (by decide) rfl ?_
      refine z_iinc (y := 1) (lv' := [some (.ref (91 + 3 * i)), some (.int wh), some (.ref 1), some (.int _), some (.int _), some (.int _), some (.int _)]) C dX0_toldAt_50 rfl (by decide) (by decide) rfl ?_
      refine z_goto (tgt := 28) C dX0_toldAt_53 (by decide) ?_
      rw [nI_clamp (by omega), nI_1 (a + j), show a + j + 1 = a + (j + 1) by omega]
      exact ih (j + 1) (by omega)

set_option maxRecDepth 4000 in
theorem c_toldAt (n : Nat) (iv : zI) (lw : zG) (i : Nat) (hi : i < n) (hn : n ≤ 8) (wh : Int32) (hI : 2 ≤ (iv 1 0).toInt ∧ (iv 1 0).toInt ≤ 8) (a d : Nat) (hL : (zlo (iv (91 + 3 * i) 2) wh) = nI a) (hH : (zhi (iv (91 + 3 * i) 2) wh) = nI (a + d)) (hB : ((a + d : Nat) : Int) < (iv 1 0).toInt) : zMi yX0_toldAt cX0_toldAt 7 (some .int) 2 [.ref (91 + 3 * i), .int wh, .ref 1] n iv lw (zacc (iv (91 + 3 * i) 4) (fun j => iv 2 (a + j) * zpace (iv (91 + 3 * i) 0) + 2 * iv 3 (a + j)) d + 2 * (if 0 < nI (a + d) - nI a - 1 then nI (a + d) - nI a - 1 else 0)) iv lw := by
  refine zM.of (by decide) (Nat.le_of_ble_eq_true rfl) (fun X C E => ?_)
  change zJs X n 7 0 [some (.ref (91 + 3 * i)), some (.int wh), some (.ref 1), none, none, none, none] [] iv lw
  refine z_aload_n C dX0_toldAt_0 rfl ?_
  refine z_getI C dX0_toldAt_1 zf_X0_18 (zkc i) (by omega) ?_
  refine z_iload_n C dX0_toldAt_4 rfl ?_
  refine z_mmin C dX0_toldAt_5 zm_X0_46 (by decide) (Nat.le_of_ble_eq_true rfl) (by decide) (by decide) ?_
  refine z_istore_n (lv' := [some (.ref (91 + 3 * i)), some (.int wh), some (.ref 1), some (.int _), none, none, none]) C dX0_toldAt_8 (by decide) rfl ?_
  refine z_aload_n C dX0_toldAt_9 rfl ?_
  refine z_getI C dX0_toldAt_10 zf_X0_18 (zkc i) (by omega) ?_
  refine z_iload_n C dX0_toldAt_13 rfl ?_
  refine z_mmax C dX0_toldAt_14 zm_X0_52 (by decide) (Nat.le_of_ble_eq_true rfl) (by decide) (by decide) ?_
  refine z_istore (lv' := [some (.ref (91 + 3 * i)), some (.int wh), some (.ref 1), some (.int _), some (.int _), none, none]) C dX0_toldAt_17 (by decide) rfl ?_
  refine z_aload_n C dX0_toldAt_19 rfl ?_
  refine z_getI C dX0_toldAt_20 zf_X0_24 (zkc i) (by omega) ?_
  refine z_istore (lv' := [some (.ref (91 + 3 * i)), some (.int wh), some (.ref 1), some (.int _), some (.int _), some (.int _), none]) C dX0_toldAt_23 (by decide) rfl ?_
  refine z_iload_n C dX0_toldAt_25 rfl ?_
  refine z_istore (lv' := [some (.ref (91 + 3 * i)), some (.int wh), some (.ref 1), some (.int _), some (.int _), some (.int _), some (.int _)]) C dX0_toldAt_26 (by decide) rfl ?_
  rw [show (if wh < iv (91 + 3 * i) 2 then wh else iv (91 + 3 * i) 2) = nI a from hL, show (if iv (91 + 3 * i) 2 < wh then wh else iv (91 + 3 * i) 2) = nI (a + d) from hH]
  exact lp_told n iv lw i hi hn wh hI a d hL hH hB C E d 0 (by omega)
