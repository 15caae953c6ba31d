theorem zstr_r (inn st : Nat → Int32) (a : Int32) : ∀ m, (zstr inn st a m).1 = -1 ∨ ∃ j, j < m ∧ (zstr inn st a m).1 = nI j ∧ inn j = a
  | 0 => Or.inl rfl
  | m + 1 => by
    rw [zstr_s]
    split
    · next h => exact Or.inr ⟨m, by omega, rfl, h.1⟩
    · rcases zstr_r inn st a m with h | ⟨j, h1, h2⟩
      · exact Or.inl h
      · exact Or.inr ⟨j, by omega, h2⟩
/-- the team that a coach would take -/
def zbest (iv : zI) (i t : Nat) : Int32 := (zstr (iv 9) (iv 8) (iv (91 + 3 * i) 6) t).1
theorem zbest_in {iv : zI} {i t : Nat} (ht : t ≤ 20) (h : ¬ zbest iv i t = -1) : 0 ≤ (zbest iv i t).toInt ∧ (zbest iv i t).toInt < t := by
  rcases zstr_r (iv 9) (iv 8) (iv (91 + 3 * i) 6) t with h1 | ⟨j, h1, h2, -⟩
  · exact absurd h1 h
  · unfold zbest
    rw [h2, nI_toInt (by omega)]
    omega
/-- team te is harnessed to coach i -/
def zharn (iv : zI) (i : Nat) (te : Int32) : zI := zu (zu (zu iv 9 te.toNatClampNeg (-1)) 10 te.toNatClampNeg (nI i)) (91 + 3 * i) 7 te
def zset (iv : zI) (i t : Nat) : zI := if zbest iv i t = -1 then zu iv (91 + 3 * i) 10 (iv (91 + 3 * i) 10 + 1) else zdep (zharn iv i (zbest iv i t)) i 0
theorem zharn_c (iv : zI) (i : Nat) (te : Int32) {j : Nat} (h : j ≠ 7) : zharn iv i te (91 + 3 * i) j = iv (91 + 3 * i) j := by
  unfold zharn
  rw [zu_s, pk_un h, zu_n _ _ _ (by omega), zu_n _ _ _ (by omega)]
theorem zharn_7 (iv : zI) (i : Nat) (te : Int32) : zharn iv i te (91 + 3 * i) 7 = te := by
  unfold zharn
  rw [zu_s]; exact pk_us
theorem zharn_o (iv : zI) (i : Nat) (te : Int32) {q : Nat} (h9 : q ≠ 9) (h10 : q ≠ 10) (hc : q ≠ 91 + 3 * i) : zharn iv i te q = iv q := by
  unfold zharn
  rw [zu_n _ _ _ hc, zu_n _ _ _ h10, zu_n _ _ _ h9]
theorem zharn_sg (iv : zI) (i : Nat) (te : Int32) : zsg (zharn iv i te) i = zsg iv i := by
  unfold zsg
  rw [zharn_c _ _ _ (by decide), zharn_c _ _ _ (by decide), zharn_c _ _ _ (by decide)]

set_option maxRecDepth 4000 in
theorem c_setOut (n : Nat) (iv : zI) (lw : zG) (i : Nat) (hi : i < n) (hn : n ≤ 8) (hI : 2 ≤ (iv 1 0).toInt ∧ (iv 1 0).toInt ≤ 8) (t : Nat) (ht : iv 7 0 = nI t) (ht2 : t ≤ 20) (hs : 0 ≤ (zsg iv i).toInt ∧ (zsg iv i).toInt < (iv 1 0).toInt - 1) : zMv yX9_setOut cX9_setOut 4 none 3 [.ref 0, .ref (91 + 3 * i), .int (nI i)] n iv lw (zset iv i t) lw := by
  refine zM.of (by decide) (Nat.le_of_ble_eq_true rfl) (fun X C E => ?_)
  change zJs X n 4 0 [some (.ref 0), some (.ref (91 + 3 * i)), some (.int (nI i)), none] [] iv lw
  refine z_aload_n C dX9_setOut_0 rfl ?_
  refine zs_getR C dX9_setOut_1 zf_X9_19 zk_0 (by decide) (zr_0_1 n) ?_
  refine z_aload_n C dX9_setOut_4 rfl ?_
  refine z_getI C dX9_setOut_5 zf_X9_200 (zkc i) (by omega) ?_
  refine zs_callVi C dX9_setOut_8 zm_X9_203 zyX7_strongest (c_strongest _ _ _ _ t ht ht2) zc_7 rfl zk_7 (by decide) (by decide) rfl rfl (Nat.le_of_ble_eq_true rfl) (by decide) (by decide) ?_
  show zJs X n 4 11 _ (.int (zbest iv i t) :: []) iv lw
  refine z_istore_n (lv' := [some (.ref 0), some (.ref (91 + 3 * i)), some (.int _), some (.int _)]) C dX9_setOut_11 (by decide) rfl ?_
  refine z_iload_n C dX9_setOut_12 rfl ?_
  refine z_iconst (v := (-1)) C dX9_setOut_13 (by decide) ?_
  refine z_icmp_ne (tgt := 28) C dX9_setOut_14 (by decide) (fun q14 => ?_) (fun q14 => ?_)
  · have hb := zbest_in ht2 q14
    refine z_aload_n C dX9_setOut_28 rfl ?_
    refine zs_getR C dX9_setOut_29 zf_X9_19 zk_0 (by decide) (zr_0_1 n) ?_
    refine z_iload_n C dX9_setOut_32 rfl ?_
    refine z_iload_n C dX9_setOut_33 rfl ?_
    refine zs_callVv C dX9_setOut_34 zm_X9_209 zyX7_harness (c_harness _ _ _ (zbest iv i t) _ (by rw [zt_nI ht (by omega)]; omega) (by rw [zt_nI ht (by omega)]; exact hb)) zc_7 rfl zk_7 (by decide) (by decide) rfl rfl (Nat.le_of_ble_eq_true rfl) (by decide) (by decide) ?_
    refine z_aload_n C dX9_setOut_37 rfl ?_
    refine z_iload_n C dX9_setOut_38 rfl ?_
    refine z_putI C dX9_setOut_39 zf_X9_213 (zkc i) (by omega) ?_
    show zJs X n 4 42 _ [] (zharn iv i (zbest iv i t)) lw
    refine z_aload_n C dX9_setOut_42 rfl ?_
    refine z_aload_n C dX9_setOut_43 rfl ?_
    refine z_iconst (v := 0) C dX9_setOut_44 (by decide) ?_
    refine zs_callVv C dX9_setOut_45 zm_X9_216 zyX9_depart (c_depart n (zharn iv i (zbest iv i t)) _ i hi hn 0 (by rw [zharn_o _ _ _ (by decide) (by decide) (by omega)]; exact hI) (by rw [zharn_sg, zharn_o _ _ _ (show 1 ≠ 9 by decide) (by decide) (by omega)]; exact hs) (by rw [zharn_o _ _ _ (by decide) (by decide) (by omega), zt_nI ht (by omega)]; omega) (by rw [zharn_7, zharn_o _ _ _ (show 7 ≠ 9 by decide) (by decide) (by omega), zt_nI ht (by omega)]; exact hb)) zc_9 rfl zk_0 (by decide) (by decide) rfl rfl (Nat.le_of_ble_eq_true rfl) (by decide) (by decide) ?_
    refine zs_vret C E dX9_setOut_48 ?_ rfl
    exact (if_neg q14).symm
  · refine z_aload_n C dX9_setOut_17 rfl ?_
    refine z_dup C dX9_setOut_18 rfl ?_
    refine z_getI C dX9_setOut_19 zf_X9_206 (zkc i) (by omega) ?_
    refine z_iconst (v := 1) C dX9_setOut_22 (by decide) ?_
    refine z_iadd C dX9_setOut_23 ?_
    refine z_putI C dX9_setOut_24 zf_X9_206 (zkc i) (by omega) ?_
    refine zs_vret C E dX9_setOut_27 ?_ rfl
    exact (if_pos q14).symm

/-- at the next inn, its numbers and parts -/
def zar1 (iv : zI) (i : Nat) : zI := zaddp (zu (zu iv (91 + 3 * i) 6 (iv (91 + 3 * i) 6 + zstep (iv (91 + 3 * i) 2) (iv (91 + 3 * i) 3))) (91 + 3 * i) 10 0) (91 + 3 * i) 5
/-- what TOLD is, from place a on, d stages -/
def ztoldx (iv : zI) (i a d : Nat) : Int32 := zacc (iv (91 + 3 * i) 4) (fun j => iv 2 (a + j) * zpace (iv (91 + 3 * i) 0) + 2 * iv 3 (a + j)) d + 2 * (if 0 < nI (a + d) - nI a - 1 then nI (a + d) - nI a - 1 else 0)
def zar2 (iv : zI) (i a d : Nat) : zI := zu (zu (zar1 iv i) (91 + 3 * i) 11 (ztoldx iv i a d)) (91 + 3 * i) 12 (iv 0 10 - ztoldx iv i a d)
def zarr (iv : zI) (i a d : Nat) : zI := if iv (91 + 3 * i) 6 + zstep (iv (91 + 3 * i) 2) (iv (91 + 3 * i) 3) = iv (91 + 3 * i) 3 then zu (zu (zu (zu (zar2 iv i a d) 9 (iv (91 + 3 * i) 7).toNatClampNeg (iv (91 + 3 * i) 6 + zstep (iv (91 + 3 * i) 2) (iv (91 + 3 * i) 3))) 10 (iv (91 + 3 * i) 7).toNatClampNeg (-1)) (91 + 3 * i) 7 (-1)) (91 + 3 * i) 5 4 else zu (zar2 iv i a d) (91 + 3 * i) 5 2
theorem zar1_o (iv : zI) (i : Nat) {q : Nat} (h : q ≠ 91 + 3 * i) (h1 : q ≠ 91 + 3 * i + 1) : zar1 iv i q = iv q := by
  unfold zar1
  rw [zaddp_o _ _ h1, zu_n _ _ _ h, zu_n _ _ _ h]
theorem zar1_c (iv : zI) (i : Nat) {j : Nat} (h : j ≠ 6) (h1 : j ≠ 10) : zar1 iv i (91 + 3 * i) j = iv (91 + 3 * i) j := by
  unfold zar1
  rw [zaddp_o _ _ (by omega), zu_s, pk_un h1, zu_s, pk_un h]
theorem zar1_6 (iv : zI) (i : Nat) : zar1 iv i (91 + 3 * i) 6 = iv (91 + 3 * i) 6 + zstep (iv (91 + 3 * i) 2) (iv (91 + 3 * i) 3) := by
  unfold zar1
  rw [zaddp_o _ _ (by omega), zu_s, pk_un (by decide), zu_s]; exact pk_us
theorem ztoldx_c {u v : zI} {i a d : Nat} (h2 : u 2 = v 2) (h3 : u 3 = v 3) (h0 : u (91 + 3 * i) 0 = v (91 + 3 * i) 0) (h4 : u (91 + 3 * i) 4 = v (91 + 3 * i) 4) : ztoldx u i a d = ztoldx v i a d := by
  unfold ztoldx
  rw [h2, h3, h0, h4]
theorem zar2_o (iv : zI) (i a d : Nat) {q : Nat} (h : q ≠ 91 + 3 * i) (h1 : q ≠ 91 + 3 * i + 1) : zar2 iv i a d q = iv q := by
  unfold zar2
  rw [zu_n _ _ _ h, zu_n _ _ _ h, zar1_o _ _ h h1]
theorem zar2_c (iv : zI) (i a d : Nat) {j : Nat} (h : j ≠ 11) (h1 : j ≠ 12) : zar2 iv i a d (91 + 3 * i) j = zar1 iv i (91 + 3 * i) j := by
  unfold zar2
  rw [zu_s, pk_un h1, zu_s, pk_un h]

set_option maxHeartbeats 1000000 in
set_option maxRecDepth 4000 in
theorem c_arrive (n : Nat) (iv : zI) (lw : zG) (i : Nat) (hi : i < n) (hn : n ≤ 8) (hI : 2 ≤ (iv 1 0).toInt ∧ (iv 1 0).toInt ≤ 8) (a d : Nat) (hL : zlo (iv (91 + 3 * i) 2) (iv (91 + 3 * i) 6 + zstep (iv (91 + 3 * i) 2) (iv (91 + 3 * i) 3)) = nI a) (hH : zhi (iv (91 + 3 * i) 2) (iv (91 + 3 * i) 6 + zstep (iv (91 + 3 * i) 2) (iv (91 + 3 * i) 3)) = nI (a + d)) (hB : ((a + d : Nat) : Int) < (iv 1 0).toInt) (hT : (iv 7 0).toInt ≤ 20) (ht : 0 ≤ (iv (91 + 3 * i) 7).toInt ∧ (iv (91 + 3 * i) 7).toInt < (iv 7 0).toInt) : zMv yX9_arrive cX9_arrive 2 none 3 [.ref 0, .ref (91 + 3 * i)] n iv lw (zarr iv i a d) lw := by
  refine zM.of (by decide) (Nat.le_of_ble_eq_true rfl) (fun X C E => ?_)
  change zJs X n 2 0 [some (.ref 0), some (.ref (91 + 3 * i))] [] iv lw
  refine z_aload_n C dX9_arrive_0 rfl ?_
  refine zs_callVv C dX9_arrive_1 zm_X9_220 zyX0_reachNextInn (c_reach _ _ _ i hi hn) zc_0 rfl (zkc i) (by omega) (by decide) rfl rfl (Nat.le_of_ble_eq_true rfl) (by decide) (by decide) ?_
  show zJs X n 2 4 _ [] (zar1 iv i) lw
  have e1 : zar1 iv i 1 = iv 1 := zar1_o iv i (by omega) (by omega)
  have e2 : zar1 iv i (91 + 3 * i) 2 = iv (91 + 3 * i) 2 := zar1_c iv i (by decide) (by decide)
  have e0 : zar1 iv i 0 = iv 0 := zar1_o iv i (by omega) (by omega)
  have etx : ztoldx (zar1 iv i) i a d = ztoldx iv i a d := ztoldx_c (zar1_o iv i (by omega) (by omega)) (zar1_o iv i (by omega) (by omega)) (zar1_c iv i (by decide) (by decide)) (zar1_c iv i (by decide) (by decide))
  refine z_aload_n C dX9_arrive_4 rfl ?_
  refine z_aload_n C dX9_arrive_5 rfl ?_
  refine z_aload_n C dX9_arrive_6 rfl ?_
  refine z_getI C dX9_arrive_7 zf_X9_200 (zkc i) (by omega) ?_
  rw [zar1_6]
  refine z_aload_n C dX9_arrive_10 rfl ?_
  refine zs_getR C dX9_arrive_11 zf_X9_10 zk_0 (by decide) (zr_0_0 n) ?_
  refine zs_callVi C dX9_arrive_14 zm_X9_135 zyX0_toldAt (c_toldAt n (zar1 iv i) _ i hi hn _ (by rw [e1]; exact hI) a d (by rw [e2]; exact hL) (by rw [e2]; exact hH) (by rw [e1]; exact hB)) zc_0 rfl (zkc i) (by omega) (by decide) rfl rfl (Nat.le_of_ble_eq_true rfl) (by decide) (by decide) ?_
  refine z_eqi (show _ = ztoldx iv i a d from etx) ?_
  refine z_putI C dX9_arrive_17 zf_X9_223 (zkc i) (by omega) ?_
  refine z_aload_n C dX9_arrive_20 rfl ?_
  refine z_aload_n C dX9_arrive_21 rfl ?_
  refine z_getI C dX9_arrive_22 zf_X9_115 zk_0 (by decide) ?_
  refine z_aload_n C dX9_arrive_25 rfl ?_
  refine z_getI C dX9_arrive_26 zf_X9_223 (zkc i) (by omega) ?_
  rw [zu_n _ _ _ (show 0 ≠ 91 + 3 * i by omega), e0, zu_s, show ∀ f : Nat → Int32, upd f 11 (ztoldx iv i a d) 11 = ztoldx iv i a d from fun _ => pk_us]
  refine z_isub C dX9_arrive_29 ?_
  refine z_putI C dX9_arrive_30 zf_X9_226 (zkc i) (by omega) ?_
  show zJs X n 2 33 _ [] (zar2 iv i a d) lw
  have f6 : zar2 iv i a d (91 + 3 * i) 6 = (iv (91 + 3 * i) 6 + zstep (iv (91 + 3 * i) 2) (iv (91 + 3 * i) 3)) := by rw [zar2_c iv i a d (by decide) (by decide), zar1_6]
  have f3 : zar2 iv i a d (91 + 3 * i) 3 = iv (91 + 3 * i) 3 := by rw [zar2_c iv i a d (by decide) (by decide), zar1_c iv i (by decide) (by decide)]
  have f7t : zar2 iv i a d (91 + 3 * i) 7 = iv (91 + 3 * i) 7 := by rw [zar2_c iv i a d (by decide) (by decide), zar1_c iv i (by decide) (by decide)]
  have f7 : zar2 iv i a d 7 = iv 7 := zar2_o iv i a d (by omega) (by omega)
  refine z_aload_n C dX9_arrive_33 rfl ?_
  refine z_getI C dX9_arrive_34 zf_X9_200 (zkc i) (by omega) ?_
  rw [f6]
  refine z_aload_n C dX9_arrive_37 rfl ?_
  refine z_getI C dX9_arrive_38 zf_X9_229 (zkc i) (by omega) ?_
  rw [f3]
  refine z_icmp_ne (tgt := 72) C dX9_arrive_41 (by decide) (fun q41 => ?_) (fun q41 => ?_)
  · refine z_aload_n C dX9_arrive_72 rfl ?_
    refine z_iconst (v := 2) C dX9_arrive_73 (by decide) ?_
    refine z_putI C dX9_arrive_74 zf_X9_174 (zkc i) (by omega) ?_
    refine zs_vret C E dX9_arrive_77 ?_ rfl
    unfold zarr
    rw [if_neg q41]
  · refine z_aload_n C dX9_arrive_44 rfl ?_
    refine zs_getR C dX9_arrive_45 zf_X9_19 zk_0 (by decide) (zr_0_1 n) ?_
    refine z_aload_n C dX9_arrive_48 rfl ?_
    refine z_getI C dX9_arrive_49 zf_X9_213 (zkc i) (by omega) ?_
    rw [f7t]
    refine z_aload_n C dX9_arrive_52 rfl ?_
    refine z_getI C dX9_arrive_53 zf_X9_200 (zkc i) (by omega) ?_
    rw [f6]
    refine zs_callVv C dX9_arrive_56 zm_X9_232 zyX7_stable (c_stable n (zar2 iv i a d) _ _ _ (by rw [f7]; exact hT) (by rw [f7]; exact ht)) zc_7 rfl zk_7 (by decide) (by decide) rfl rfl (Nat.le_of_ble_eq_true rfl) (by decide) (by decide) ?_
    refine z_aload_n C dX9_arrive_59 rfl ?_
    refine z_iconst (v := (-1)) C dX9_arrive_60 (by decide) ?_
    refine z_putI C dX9_arrive_61 zf_X9_213 (zkc i) (by omega) ?_
    refine z_aload_n C dX9_arrive_64 rfl ?_
    refine z_iconst (v := 4) C dX9_arrive_65 (by decide) ?_
    refine z_putI C dX9_arrive_66 zf_X9_174 (zkc i) (by omega) ?_
    refine z_goto (tgt := 77) C dX9_arrive_69 (by decide) ?_
    refine zs_vret C E dX9_arrive_77 ?_ rfl
    unfold zarr
    rw [if_pos q41]
