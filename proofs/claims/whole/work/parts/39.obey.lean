/-- the strength of the team that a coach would take; NONE without -/
def zfrs (iv : zI) (i t : Nat) : Int32 := if 0 ≤ (zbest iv i t).toInt ∧ (zbest iv i t).toInt < (iv 7 0).toInt then iv 8 (zbest iv i t).toNatClampNeg else -1
def zord0 (iv : zI) (i t tl : Nat) : Int32 := zcho (zlook iv i (zfrs iv i t) 28) (iv 26) (iv 24) (iv 25) 0 0 tl
/-- what the guard of a coach that is held does -/
def zord (iv : zI) (i t tl : Nat) : Int32 := if zord0 iv i t tl = 3 then (if (zsv iv i).toInt < (zfrs iv i t).toInt then 204 else 203) else zord0 iv i t tl
def zstb (iv : zI) (i : Nat) : zI := zu (zu iv 9 (iv (91 + 3 * i) 7).toNatClampNeg (iv (91 + 3 * i) 6)) 10 (iv (91 + 3 * i) 7).toNatClampNeg (-1)
def zobf (iv : zI) (i : Nat) (be od : Int32) : zI := if od = 203 then zdep iv i 0 else if od = 204 ∧ ¬ be = -1 then zdep (zharn (zstb iv i) i be) i 1 else zu iv (91 + 3 * i) 10 (iv (91 + 3 * i) 10 + 1)
theorem zlook_o (iv : zI) (i : Nat) (fr : Int32) {q : Nat} (h : q ≠ 28) : zlook iv i fr q = iv q := by
  unfold zlook
  simp only [zu_n _ _ _ h]
theorem zstb_o (iv : zI) (i : Nat) {q : Nat} (h9 : q ≠ 9) (h10 : q ≠ 10) : zstb iv i q = iv q := by
  unfold zstb
  rw [zu_n _ _ _ h10, zu_n _ _ _ h9]
theorem zsg_c {u v : zI} {i : Nat} (h : u (91 + 3 * i) = v (91 + 3 * i)) : zsg u i = zsg v i := by
  unfold zsg
  rw [h]

set_option maxHeartbeats 2000000 in
set_option maxRecDepth 4000 in
theorem c_obey (n : Nat) (iv : zI) (lw : zG) (i : Nat) (hi : i < n) (hn : n ≤ 8) (hI : 2 ≤ (iv 1 0).toInt ∧ (iv 1 0).toInt ≤ 8) (t : Nat) (ht : iv 7 0 = nI t) (ht2 : t ≤ 20) (hs : 0 ≤ (zsg iv i).toInt ∧ (zsg iv i).toInt < (iv 1 0).toInt - 1) (hte : 0 ≤ (iv (91 + 3 * i) 7).toInt ∧ (iv (91 + 3 * i) 7).toInt < (iv 7 0).toInt) (m tl : Nat) (hm : iv 23 3 = nI m) (hm2 : m ≤ 400) (htl : iv 23 0 = nI tl) (htl2 : tl ≤ 10) (en : Nat → Nat) (hen : ∀ l, l < tl → iv 24 l = nI (en l) ∧ en l ≤ m) (hmo : ∀ j j2, j ≤ j2 → j2 < tl → en j ≤ en j2) : zMs yX9_obey cX9_obey 6 none 3 [.ref 0, .ref (91 + 3 * i), .int (nI i)] n iv lw (fun v iv2 lw2 => v = none ∧ lw2 = lw ∧ ∃ iv1, (∀ q, q ≠ 27 → q ≠ 28 → iv1 q = iv q) ∧ iv2 = zobf iv1 i (zbest iv i t) (zord iv i t tl)) := by
  refine zM.of (by decide) (Nat.le_of_ble_eq_true rfl) (fun X C E => ?_)
  change zJs X n 6 0 [some (.ref 0), some (.ref (91 + 3 * i)), some (.int (nI i)), none, none, none] [] iv lw
  refine z_aload_n C dX9_obey_0 rfl ?_
  refine zs_getR C dX9_obey_1 zf_X9_19 zk_0 (by decide) (zr_0_1 n) ?_
  refine z_aload_n C dX9_obey_4 rfl ?_
  refine z_getI C dX9_obey_5 zf_X9_200 (zkc i) (by omega) ?_
  refine zs_callVi C dX9_obey_8 zm_X9_203 zyX7_strongest (c_strongest _ _ _ _ t ht ht2) zc_7 rfl zk_7 (by decide) (by decide) rfl rfl (Nat.le_of_ble_eq_true rfl) (by decide) (by decide) ?_
  show zJs X n 6 11 _ (.int (zbest iv i t) :: []) iv lw
  refine z_istore_n (lv' := [some (.ref 0), some (.ref (91 + 3 * i)), some (.int _), some (.int _), none, none]) C dX9_obey_11 (by decide) rfl ?_
  refine z_aload_n C dX9_obey_12 rfl ?_
  refine z_aload_n C dX9_obey_13 rfl ?_
  refine z_aload_n C dX9_obey_14 rfl ?_
  refine zs_getR C dX9_obey_15 zf_X9_19 zk_0 (by decide) (zr_0_1 n) ?_
  refine z_iload_n C dX9_obey_18 rfl ?_
  refine zs_callVi C dX9_obey_19 zm_X9_235 zyX7_strengthOf (c_strengthOf _ _ _ (zbest iv i t) (by rw [zt_nI ht (by omega)]; omega)) zc_7 rfl zk_7 (by decide) (by decide) rfl rfl (Nat.le_of_ble_eq_true rfl) (by decide) (by decide) ?_
  show zJs X n 6 22 _ (.int (zfrs iv i t) :: .ref (91 + 3 * i) :: .ref 0 :: []) iv lw
  refine zs_callVv C dX9_obey_22 zm_X9_238 zyX9_look (c_look _ _ _ i hi hn (zfrs iv i t) hI hs (by rw [zt_nI ht (by omega)]; omega) hte) zc_9 rfl zk_0 (by decide) (by decide) rfl rfl (Nat.le_of_ble_eq_true rfl) (by decide) (by decide) ?_
  refine z_aload_n C dX9_obey_25 rfl ?_
  refine zs_getR C dX9_obey_26 zf_X9_52 zk_0 (by decide) (zr_0_6 n) ?_
  refine z_aload_n C dX9_obey_29 rfl ?_
  refine zs_getR C dX9_obey_30 zf_X9_58 zk_0 (by decide) (zr_0_7 n) ?_
  refine zs_callVq C dX9_obey_33 zm_X9_241 zyX1_choose (c_choose n (zlook iv i (zfrs iv i t)) _ m tl (by rw [zlook_o _ _ _ (by decide)]; exact hm) hm2 (by rw [zlook_o _ _ _ (by decide)]; exact htl) htl2 en (by rw [zlook_o _ _ _ (by decide)]; exact hen) hmo) zc_1 rfl zk_23 (by decide) (by decide) rfl rfl (Nat.le_of_ble_eq_true rfl) (by decide) (by decide) (fun v33 iv33 lw33 hq33 => ?_)
  obtain ⟨rfl, rfl, hb33⟩ := hq33
  have ho : ∀ q, q ≠ 27 → q ≠ 28 → iv33 q = iv q := fun q h1 h2 => by rw [hb33 q h1, zlook_o _ _ _ h2]
  rw [zlook_o _ _ _ (show 26 ≠ 28 by decide), zlook_o _ _ _ (show 24 ≠ 28 by decide), zlook_o _ _ _ (show 25 ≠ 28 by decide)]
  refine z_eqi (show _ = zord0 iv i t tl from rfl) ?_
  have o1 : iv33 1 = iv 1 := ho 1 (by decide) (by decide)
  have o7 : iv33 7 = iv 7 := ho 7 (by decide) (by decide)
  have o8 : iv33 8 = iv 8 := ho 8 (by decide) (by decide)
  have oc : iv33 (91 + 3 * i) = iv (91 + 3 * i) := ho _ (by omega) (by omega)
  have osg : zsg iv33 i = zsg iv i := zsg_c oc
  have i7 : (iv 7 0).toInt = t := zt_nI ht (by omega)
  refine z_istore (lv' := [some (.ref 0), some (.ref (91 + 3 * i)), some (.int _), some (.int _), some (.int _), none]) C dX9_obey_36 (by decide) rfl ?_
  refine z_iload C dX9_obey_38 rfl ?_
  refine z_iconst (v := 3) C dX9_obey_40 (by decide) ?_
  refine z_icmp_ne (tgt := 89) C dX9_obey_41 (by decide) (fun q41 => ?_) (fun q41 => ?_)
  · refine z_iload C dX9_obey_89 rfl ?_
    refine z_sipush (v := 203) C dX9_obey_91 (by decide) ?_
    refine z_icmp_ne (tgt := 106) C dX9_obey_94 (by decide) (fun q94 => ?_) (fun q94 => ?_)
    · refine z_iload C dX9_obey_106 rfl ?_
      refine z_sipush (v := 204) C dX9_obey_108 (by decide) ?_
      refine z_icmp_ne (tgt := 157) C dX9_obey_111 (by decide) (fun q111 => ?_) (fun q111 => ?_)
      · refine z_aload_n C dX9_obey_157 rfl ?_
        refine z_dup C dX9_obey_158 rfl ?_
        refine z_getI C dX9_obey_159 zf_X9_206 (zkc i) (by omega) ?_
        refine z_iconst (v := 1) C dX9_obey_162 (by decide) ?_
        refine z_iadd C dX9_obey_163 ?_
        refine z_putI C dX9_obey_164 zf_X9_206 (zkc i) (by omega) ?_
        refine zs_qvret C E dX9_obey_167 ?_
        have ez : zord iv i t tl = zord0 iv i t tl := if_neg q41
        refine ⟨rfl, rfl, iv33, ho, ?_⟩
        rw [ez]
        unfold zobf
        rw [if_neg q94, if_neg (fun z => q111 z.1)]
      · refine z_iload_n C dX9_obey_114 rfl ?_
        refine z_iconst (v := (-1)) C dX9_obey_115 (by decide) ?_
        refine z_icmp_eq (tgt := 157) C dX9_obey_116 (by decide) (fun q116 => ?_) (fun q116 => ?_)
        · refine z_aload_n C dX9_obey_157 rfl ?_
          refine z_dup C dX9_obey_158 rfl ?_
          refine z_getI C dX9_obey_159 zf_X9_206 (zkc i) (by omega) ?_
          refine z_iconst (v := 1) C dX9_obey_162 (by decide) ?_
          refine z_iadd C dX9_obey_163 ?_
          refine z_putI C dX9_obey_164 zf_X9_206 (zkc i) (by omega) ?_
          refine zs_qvret C E dX9_obey_167 ?_
          have ez : zord iv i t tl = zord0 iv i t tl := if_neg q41
          refine ⟨rfl, rfl, iv33, ho, ?_⟩
          rw [ez]
          unfold zobf
          rw [if_neg q94, if_neg (fun z => z.2 q116)]
        · have hb := zbest_in ht2 q116
          refine z_aload_n C dX9_obey_119 rfl ?_
          refine zs_getR C dX9_obey_120 zf_X9_19 zk_0 (by decide) (zr_0_1 n) ?_
          refine z_aload_n C dX9_obey_123 rfl ?_
          refine z_getI C dX9_obey_124 zf_X9_213 (zkc i) (by omega) ?_
          refine z_aload_n C dX9_obey_127 rfl ?_
          refine z_getI C dX9_obey_128 zf_X9_200 (zkc i) (by omega) ?_
          refine zs_callVv C dX9_obey_131 zm_X9_232 zyX7_stable (c_stable n iv33 _ _ _ (by rw [o7, i7]; omega) (by rw [oc, o7]; exact hte)) zc_7 rfl zk_7 (by decide) (by decide) rfl rfl (Nat.le_of_ble_eq_true rfl) (by decide) (by decide) ?_
          show zJs X n 6 134 _ [] (zstb iv33 i) _
          refine z_aload_n C dX9_obey_134 rfl ?_
          refine zs_getR C dX9_obey_135 zf_X9_19 zk_0 (by decide) (zr_0_1 n) ?_
          refine z_iload_n C dX9_obey_138 rfl ?_
          refine z_iload_n C dX9_obey_139 rfl ?_
          refine zs_callVv C dX9_obey_140 zm_X9_209 zyX7_harness (c_harness n (zstb iv33 i) _ (zbest iv i t) (nI i) (by rw [zstb_o _ _ (by decide) (by decide), o7, i7]; omega) (by rw [zstb_o _ _ (by decide) (by decide), o7, i7]; exact hb)) zc_7 rfl zk_7 (by decide) (by decide) rfl rfl (Nat.le_of_ble_eq_true rfl) (by decide) (by decide) ?_
          refine z_aload_n C dX9_obey_143 rfl ?_
          refine z_iload_n C dX9_obey_144 rfl ?_
          refine z_putI C dX9_obey_145 zf_X9_213 (zkc i) (by omega) ?_
          show zJs X n 6 148 _ [] (zharn (zstb iv33 i) i (zbest iv i t)) _
          refine z_aload_n C dX9_obey_148 rfl ?_
          refine z_aload_n C dX9_obey_149 rfl ?_
          refine z_iconst (v := 1) C dX9_obey_150 (by decide) ?_
          refine zs_callVv C dX9_obey_151 zm_X9_216 zyX9_depart (c_depart n (zharn (zstb iv33 i) i (zbest iv i t)) _ i hi hn 1 (by rw [zharn_o _ _ _ (by decide) (by decide) (by omega), zstb_o _ _ (by decide) (by decide), o1]; exact hI) (by rw [zharn_sg, zsg_c (zstb_o iv33 i (show 91 + 3 * i ≠ 9 by omega) (by omega)), osg, zharn_o _ _ _ (show 1 ≠ 9 by decide) (by decide) (by omega), zstb_o _ _ (show 1 ≠ 9 by decide) (by decide), o1]; exact hs) (by rw [zharn_o _ _ _ (by decide) (by decide) (by omega), zstb_o _ _ (by decide) (by decide), o7, i7]; omega) (by rw [zharn_7, zharn_o _ _ _ (show 7 ≠ 9 by decide) (by decide) (by omega), zstb_o _ _ (show 7 ≠ 9 by decide) (by decide), o7, i7]; exact hb)) zc_9 rfl zk_0 (by decide) (by decide) rfl rfl (Nat.le_of_ble_eq_true rfl) (by decide) (by decide) ?_
          refine z_goto (tgt := 167) C dX9_obey_154 (by decide) ?_
          refine zs_qvret C E dX9_obey_167 ?_
          have ez : zord iv i t tl = zord0 iv i t tl := if_neg q41
          refine ⟨rfl, rfl, iv33, ho, ?_⟩
          rw [ez]
          unfold zobf
          rw [if_neg q94, if_pos ⟨q111, q116⟩]
    · refine z_aload_n C dX9_obey_97 rfl ?_
      refine z_aload_n C dX9_obey_98 rfl ?_
      refine z_iconst (v := 0) C dX9_obey_99 (by decide) ?_
      refine zs_callVv C dX9_obey_100 zm_X9_216 zyX9_depart (c_depart n iv33 _ i hi hn 0 (by rw [o1]; exact hI) (by rw [osg, o1]; exact hs) (by rw [o7, i7]; omega) (by rw [oc, o7]; exact hte)) zc_9 rfl zk_0 (by decide) (by decide) rfl rfl (Nat.le_of_ble_eq_true rfl) (by decide) (by decide) ?_
      refine z_goto (tgt := 167) C dX9_obey_103 (by decide) ?_
      refine zs_qvret C E dX9_obey_167 ?_
      have ez : zord iv i t tl = zord0 iv i t tl := if_neg q41
      refine ⟨rfl, rfl, iv33, ho, ?_⟩
      rw [ez]
      unfold zobf
      rw [if_pos q94]
  · refine z_aload_n C dX9_obey_44 rfl ?_
    refine zs_getR C dX9_obey_45 zf_X9_19 zk_0 (by decide) (zr_0_1 n) ?_
    refine z_iload_n C dX9_obey_48 rfl ?_
    refine zs_callVi C dX9_obey_49 zm_X9_235 zyX7_strengthOf (c_strengthOf n iv33 _ (zbest iv i t) (by rw [o7, i7]; omega)) zc_7 rfl zk_7 (by decide) (by decide) rfl rfl (Nat.le_of_ble_eq_true rfl) (by decide) (by decide) ?_
    refine z_eqi (show _ = zfrs iv i t by rw [o7, o8]; rfl) ?_
    refine z_aload_n C dX9_obey_52 rfl ?_
    refine zs_getR C dX9_obey_53 zf_X9_19 zk_0 (by decide) (zr_0_1 n) ?_
    refine z_aload_n C dX9_obey_56 rfl ?_
    refine z_getI C dX9_obey_57 zf_X9_213 (zkc i) (by omega) ?_
    refine zs_callVi C dX9_obey_60 zm_X9_235 zyX7_strengthOf (c_strengthOf n iv33 _ _ (by rw [o7, i7]; omega)) zc_7 rfl zk_7 (by decide) (by decide) rfl rfl (Nat.le_of_ble_eq_true rfl) (by decide) (by decide) ?_
    refine z_eqi (show _ = zsv iv i by rw [o7, o8, oc, if_pos hte]; rfl) ?_
    refine zt_icmp_le (tgt := 70) C dX9_obey_63 rfl rfl (by decide) (fun q63 => ?_) (fun q63 => ?_)
    · refine z_iconst (v := 0) C dX9_obey_70 (by decide) ?_
      refine z_istore (lv' := [some (.ref 0), some (.ref (91 + 3 * i)), some (.int _), some (.int _), some (.int _), some (.int _)]) C dX9_obey_71 (by decide) rfl ?_
      refine z_iload C dX9_obey_73 rfl ?_
      refine z_if_eq (tgt := 84) C dX9_obey_75 (by decide) (fun q75 => ?_) (fun q75 => ?_)
      · refine z_sipush (v := 203) C dX9_obey_84 (by decide) ?_
        refine z_istore (lv' := [some (.ref 0), some (.ref (91 + 3 * i)), some (.int _), some (.int _), some (.int _), some (.int _)]) C dX9_obey_87 (by decide) rfl ?_
        refine z_iload C dX9_obey_89 rfl ?_
        refine z_sipush (v := 203) C dX9_obey_91 (by decide) ?_
        refine z_icmp_ne (tgt := 106) C dX9_obey_94 (by decide) (fun q94 => ?_) (fun q94 => ?_)
        · exact absurd rfl q94
        · refine z_aload_n C dX9_obey_97 rfl ?_
          refine z_aload_n C dX9_obey_98 rfl ?_
          refine z_iconst (v := 0) C dX9_obey_99 (by decide) ?_
          refine zs_callVv C dX9_obey_100 zm_X9_216 zyX9_depart (c_depart n iv33 _ i hi hn 0 (by rw [o1]; exact hI) (by rw [osg, o1]; exact hs) (by rw [o7, i7]; omega) (by rw [oc, o7]; exact hte)) zc_9 rfl zk_0 (by decide) (by decide) rfl rfl (Nat.le_of_ble_eq_true rfl) (by decide) (by decide) ?_
          refine z_goto (tgt := 167) C dX9_obey_103 (by decide) ?_
          refine zs_qvret C E dX9_obey_167 ?_
          have ez : zord iv i t tl = 203 := by unfold zord; rw [if_pos q41, if_neg (by omega)]
          refine ⟨rfl, rfl, iv33, ho, ?_⟩
          rw [ez]
          unfold zobf
          rw [if_pos rfl]
      · exact absurd q75 (by decide)
    · refine z_iconst (v := 1) C dX9_obey_66 (by decide) ?_
      refine z_goto (tgt := 71) C dX9_obey_67 (by decide) ?_
      refine z_istore (lv' := [some (.ref 0), some (.ref (91 + 3 * i)), some (.int _), some (.int _), some (.int _), some (.int _)]) C dX9_obey_71 (by decide) rfl ?_
      refine z_iload C dX9_obey_73 rfl ?_
      refine z_if_eq (tgt := 84) C dX9_obey_75 (by decide) (fun q75 => ?_) (fun q75 => ?_)
      · exact absurd q75 (by decide)
      · refine z_sipush (v := 204) C dX9_obey_78 (by decide) ?_
        refine z_goto (tgt := 87) C dX9_obey_81 (by decide) ?_
        refine z_istore (lv' := [some (.ref 0), some (.ref (91 + 3 * i)), some (.int _), some (.int _), some (.int _), some (.int _)]) C dX9_obey_87 (by decide) rfl ?_
        refine z_iload C dX9_obey_89 rfl ?_
        refine z_sipush (v := 203) C dX9_obey_91 (by decide) ?_
        refine z_icmp_ne (tgt := 106) C dX9_obey_94 (by decide) (fun q94 => ?_) (fun q94 => ?_)
        · refine z_iload C dX9_obey_106 rfl ?_
          refine z_sipush (v := 204) C dX9_obey_108 (by decide) ?_
          refine z_icmp_ne (tgt := 157) C dX9_obey_111 (by decide) (fun q111 => ?_) (fun q111 => ?_)
          · exact absurd rfl q111
          · refine z_iload_n C dX9_obey_114 rfl ?_
            refine z_iconst (v := (-1)) C dX9_obey_115 (by decide) ?_
            refine z_icmp_eq (tgt := 157) C dX9_obey_116 (by decide) (fun q116 => ?_) (fun q116 => ?_)
            · refine z_aload_n C dX9_obey_157 rfl ?_
              refine z_dup C dX9_obey_158 rfl ?_
              refine z_getI C dX9_obey_159 zf_X9_206 (zkc i) (by omega) ?_
              refine z_iconst (v := 1) C dX9_obey_162 (by decide) ?_
              refine z_iadd C dX9_obey_163 ?_
              refine z_putI C dX9_obey_164 zf_X9_206 (zkc i) (by omega) ?_
              refine zs_qvret C E dX9_obey_167 ?_
              have ez : zord iv i t tl = 204 := by unfold zord; rw [if_pos q41, if_pos (by omega)]
              refine ⟨rfl, rfl, iv33, ho, ?_⟩
              rw [ez]
              unfold zobf
              rw [if_neg (by decide), if_neg (fun z => z.2 q116)]
            · have hb := zbest_in ht2 q116
              refine z_aload_n C dX9_obey_119 rfl ?_
              refine zs_getR C dX9_obey_120 zf_X9_19 zk_0 (by decide) (zr_0_1 n) ?_
              refine z_aload_n C dX9_obey_123 rfl ?_
              refine z_getI C dX9_obey_124 zf_X9_213 (zkc i) (by omega) ?_
              refine z_aload_n C dX9_obey_127 rfl ?_
              refine z_getI C dX9_obey_128 zf_X9_200 (zkc i) (by omega) ?_
              refine zs_callVv C dX9_obey_131 zm_X9_232 zyX7_stable (c_stable n iv33 _ _ _ (by rw [o7, i7]; omega) (by rw [oc, o7]; exact hte)) zc_7 rfl zk_7 (by decide) (by decide) rfl rfl (Nat.le_of_ble_eq_true rfl) (by decide) (by decide) ?_
              show zJs X n 6 134 _ [] (zstb iv33 i) _
              refine z_aload_n C dX9_obey_134 rfl ?_
              refine zs_getR C dX9_obey_135 zf_X9_19 zk_0 (by decide) (zr_0_1 n) ?_
              refine z_iload_n C dX9_obey_138 rfl ?_
              refine z_iload_n C dX9_obey_139 rfl ?_
              refine zs_callVv C dX9_obey_140 zm_X9_209 zyX7_harness (c_harness n (zstb iv33 i) _ (zbest iv i t) (nI i) (by rw [zstb_o _ _ (by decide) (by decide), o7, i7]; omega) (by rw [zstb_o _ _ (by decide) (by decide), o7, i7]; exact hb)) zc_7 rfl zk_7 (by decide) (by decide) rfl rfl (Nat.le_of_ble_eq_true rfl) (by decide) (by decide) ?_
              refine z_aload_n C dX9_obey_143 rfl ?_
              refine z_iload_n C dX9_obey_144 rfl ?_
              refine z_putI C dX9_obey_145 zf_X9_213 (zkc i) (by omega) ?_
              show zJs X n 6 148 _ [] (zharn (zstb iv33 i) i (zbest iv i t)) _
              refine z_aload_n C dX9_obey_148 rfl ?_
              refine z_aload_n C dX9_obey_149 rfl ?_
              refine z_iconst (v := 1) C dX9_obey_150 (by decide) ?_
              refine zs_callVv C dX9_obey_151 zm_X9_216 zyX9_depart (c_depart n (zharn (zstb iv33 i) i (zbest iv i t)) _ i hi hn 1 (by rw [zharn_o _ _ _ (by decide) (by decide) (by omega), zstb_o _ _ (by decide) (by decide), o1]; exact hI) (by rw [zharn_sg, zsg_c (zstb_o iv33 i (show 91 + 3 * i ≠ 9 by omega) (by omega)), osg, zharn_o _ _ _ (show 1 ≠ 9 by decide) (by decide) (by omega), zstb_o _ _ (show 1 ≠ 9 by decide) (by decide), o1]; exact hs) (by rw [zharn_o _ _ _ (by decide) (by decide) (by omega), zstb_o _ _ (by decide) (by decide), o7, i7]; omega) (by rw [zharn_7, zharn_o _ _ _ (show 7 ≠ 9 by decide) (by decide) (by omega), zstb_o _ _ (show 7 ≠ 9 by decide) (by decide), o7, i7]; exact hb)) zc_9 rfl zk_0 (by decide) (by decide) rfl rfl (Nat.le_of_ble_eq_true rfl) (by decide) (by decide) ?_
              refine z_goto (tgt := 167) C dX9_obey_154 (by decide) ?_
              refine zs_qvret C E dX9_obey_167 ?_
              have ez : zord iv i t tl = 204 := by unfold zord; rw [if_pos q41, if_pos (by omega)]
              refine ⟨rfl, rfl, iv33, ho, ?_⟩
              rw [ez]
              unfold zobf
              rw [if_neg (by decide), if_pos ⟨rfl, q116⟩]
        · exact absurd q94 (by decide)
