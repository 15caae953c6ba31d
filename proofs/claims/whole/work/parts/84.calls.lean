/-! the tape, trips, money -/
theorem zbyte (x : Int32) : x &&& 255 = x.toInt8.toInt32 &&& 255 := by
  apply Int32.toBitVec_inj.mp
  rw [Int32.toBitVec_and, Int32.toBitVec_and, Int8.toBitVec_toInt32, Int32.toBitVec_toInt8]
  apply BitVec.eq_of_getLsbD_eq
  intro i hi
  rw [BitVec.getLsbD_and, BitVec.getLsbD_and]
  have key : ∀ i, i < 32 → (Int32.toBitVec 255).getLsbD i = decide (i < 8) := by decide
  rw [key i hi, BitVec.getLsbD_signExtend, BitVec.getLsbD_signExtend]
  by_cases h : i < 8
  · simp [h, hi]
  · simp [h]
theorem zbyte_r (x : Int32) : -128 ≤ x.toInt8.toInt32.toInt ∧ x.toInt8.toInt32.toInt < 128 := by
  rw [Int8.toInt_toInt32]
  exact ⟨Int8.le_toInt _, Int8.toInt_lt _⟩
theorem zwr_sim {u w : zI} {s : Nat} (v : Int32) (h1 : u 12 1 = nI s) (h2 : w 41 39 = nI s) (h3 : zBU (u 13) (w 72)) : ∀ j, s + j ≤ 800 → zwr u v j 12 1 = nI (s + j) ∧ zmwr w v j 41 39 = nI (s + j) ∧ zBU (zwr u v j 13) (zmwr w v j 72)
  | 0, _ => ⟨h1, h2, h3⟩
  | j + 1, hj => by
    obtain ⟨g1, g2, g3⟩ := zwr_sim v h1 h2 h3 j (by omega)
    rw [show zwr u v (j + 1) = zu (zu (zwr u v j) 13 (zwr u v j 12 1).toNatClampNeg (v >>> (zsh j &&& 31)).toInt8.toInt32) 12 1 (zwr u v j 12 1 + 1) from rfl, show zmwr w v (j + 1) = zu (zu (zmwr w v j) 72 (zmwr w v j 41 39).toNatClampNeg (v >>> (zsh j &&& 31) &&& 255)) 41 39 (zmwr w v j 41 39 + 1) from rfl, g1, g2, nI_clamp (by omega), nI_1]
    refine ⟨zu_ss _ _ _ _, zu_ss _ _ _ _, ?_⟩
    rw [zu_n _ _ _ (by decide), zu_s, zu_n _ _ _ (by decide), zu_s]
    intro k hk
    by_cases q : k = s + j
    · subst q
      rw [pk_us, pk_us]
      exact ⟨zbyte_r _, zbyte _⟩
    · rw [pk_un q, pk_un q]
      exact g3 k hk
theorem zFr.wr {S S41 : List Nat} {iv iv2 : zI} (h : zFr S S41 iv iv2) (h12 : 12 ∈ S) (h13 : 13 ∈ S) (v : Int32) : ∀ j, zFr S S41 iv (zwr iv2 v j)
  | 0 => h
  | j + 1 => ((zFr.wr h h12 h13 v j).u 13 _ _ h13 (by decide)).u 12 _ _ h12 (by decide)
theorem zFr.mwr {S S41 : List Nat} {iv iv2 : zI} (h : zFr S S41 iv iv2) (h72 : 72 ∈ S) (h39 : 39 ∈ S41) (v : Int32) : ∀ j, zFr S S41 iv (zmwr iv2 v j)
  | 0 => h
  | j + 1 => ((zFr.mwr h h72 h39 v j).u 72 _ _ h72 (by decide)).u41 39 _ h39
section ZK3
variable {n c : Nat} {iv : zI} {lw : zG}
theorem k_feed (hR : zRw n c iv) (a b cc d e : Int32) : zCall n c iv lw yX9_feed cX9_feed 6 (some .int) yX10_feed cX10_feed 6 (some .int) [.int a, .int b, .int cc, .int d, .int e] := by
  obtain ⟨t, ls, hs, hk, ⟨s, p1, p2, p3, p4⟩, hff, hq, hbk⟩ := id hR
  have es : (iv 12 1).toInt = s := by rw [p1, nI_toInt (by omega)]
  have es2 : (iv 41 39).toInt = s := by rw [p2, nI_toInt (by omega)]
  have hx := x_feed n iv lw a b cc d e (by omega)
  by_cases P : (iv 12 1).toInt ≤ 780
  · rw [if_pos P, if_pos P] at hx
    have hf1 : zFr [12, 13] [] iv (zwr (zwr (zwr (zwr (zwr iv a 4) b 4) cc 4) d 4) e 4) := (((((zFr.rf _ _ iv).wr (by decide) (by decide) a 4).wr (by decide) (by decide) b 4).wr (by decide) (by decide) cc 4).wr (by decide) (by decide) d 4).wr (by decide) (by decide) e 4
    generalize hi1 : zwr (zwr (zwr (zwr (zwr iv a 4) b 4) cc 4) d 4) e 4 = iv1 at hx hf1
    have e41 : iv1 41 39 = iv 41 39 := hf1.2 39 (by decide)
    have hm := m_feed n iv1 lw a b cc d e (by rw [e41]; omega)
    have Q : (iv1 41 39).toInt ≤ 780 := by rw [e41]; omega
    rw [if_pos Q, if_pos Q] at hm
    obtain ⟨a1, a2, a3⟩ := zwr_sim (u := iv) (w := iv1) a p1 (e41.trans p2) (by rw [hf1.1 72 (by decide) (by decide)]; exact p4) 4 (by omega)
    obtain ⟨b1, b2, b3⟩ := zwr_sim b a1 a2 a3 4 (by omega)
    obtain ⟨c1, c2, c3⟩ := zwr_sim cc b1 b2 b3 4 (by omega)
    obtain ⟨d1, d2, d3⟩ := zwr_sim d c1 c2 c3 4 (by omega)
    obtain ⟨e1, e2, e3⟩ := zwr_sim e d1 d2 d3 4 (by omega)
    rw [hi1] at e1 e3
    have hf : zFr [12, 13, 72] [39] iv (zmwr (zmwr (zmwr (zmwr (zmwr iv1 a 4) b 4) cc 4) d 4) e 4) := by
      have h0 : zFr [12, 13, 72] [39] iv iv1 := ⟨fun q x y => hf1.1 q x (fun z => y (by simp at z ⊢; omega)), fun j y => hf1.2 j (by simp)⟩
      exact ((((h0.mwr (by decide) (by decide) a 4).mwr (by decide) (by decide) b 4).mwr (by decide) (by decide) cc 4).mwr (by decide) (by decide) d 4).mwr (by decide) (by decide) e 4
    have hf2 : zFr [72] [39] iv1 (zmwr (zmwr (zmwr (zmwr (zmwr iv1 a 4) b 4) cc 4) d 4) e 4) := (((((zFr.rf _ _ iv1).mwr (by decide) (by decide) a 4).mwr (by decide) (by decide) b 4).mwr (by decide) (by decide) cc 4).mwr (by decide) (by decide) d 4).mwr (by decide) (by decide) e 4
    refine zCall.i hx hm (e1.trans e2.symm) ⟨t, ls, hf.s hs rfl rfl, hf.k hk rfl rfl, ⟨s + 4 + 4 + 4 + 4 + 4, ?_, e2, by omega, ?_⟩, hf.f hff rfl rfl, hf.q hq rfl rfl, hf.b hbk rfl rfl⟩
    · rw [hf2.1 12 (by decide) (by decide)]; exact e1
    · rw [hf2.1 13 (by decide) (by decide)]; exact e3
  · rw [if_neg P, if_neg P] at hx
    have hm := m_feed n iv lw a b cc d e (by omega)
    have Q : ¬ (iv 41 39).toInt ≤ 780 := by omega
    rw [if_neg Q, if_neg Q] at hm
    exact zCall.p hR hx hm rfl
theorem k_end (hR : zRw n c iv) (m : Int32) : zCall n c iv lw yX9_end cX9_end 2 (some .int) yX10_end cX10_end 2 (some .int) [.int m] := by
  obtain ⟨t, ls, hs, hk, ⟨s, p1, p2, p3, p4⟩, hff, hq, hbk⟩ := id hR
  have es : (iv 12 1).toInt = s := by rw [p1, nI_toInt (by omega)]
  have es2 : (iv 41 39).toInt = s := by rw [p2, nI_toInt (by omega)]
  have hx := x_end n iv lw m
  by_cases P : 0 ≤ m.toInt ∧ m.toInt ≤ (iv 12 1).toInt
  · rw [if_pos P, if_pos P] at hx
    have hm := m_end n (zu iv 12 1 m) lw m
    have Q : 0 ≤ m.toInt ∧ m.toInt ≤ (zu iv 12 1 m 41 39).toInt := by show 0 ≤ m.toInt ∧ m.toInt ≤ (iv 41 39).toInt; omega
    rw [if_pos Q, if_pos Q] at hm
    have hf : zFr [12] [39] iv (zu (zu iv 12 1 m) 41 39 m) := ((zFr.rf _ _ iv).u 12 _ _ (by decide) (by decide)).u41 39 _ (by decide)
    have hc := znI_cl P.1
    have hi := zcl_int P.1
    exact zCall.i hx hm rfl ⟨t, ls, hf.s hs rfl rfl, hf.k hk rfl rfl, ⟨m.toNatClampNeg, by rw [hc]; rfl, by rw [hc]; rfl, by omega, p4⟩, hf.f hff rfl rfl, hf.q hq rfl rfl, hf.b hbk rfl rfl⟩
  · rw [if_neg P, if_neg P] at hx
    have hm := m_end n iv lw m
    have Q : ¬ (0 ≤ m.toInt ∧ m.toInt ≤ (iv 41 39).toInt) := by omega
    rw [if_neg Q, if_neg Q] at hm
    exact zCall.p hR hx hm rfl
theorem k_trip (hR : zRw n c iv) (sg dn mi : Int32) (hdn : dn = 0 ∨ dn = 1) : zCall n c iv lw yX9_trip cX9_trip 4 (some .int) yX10_trip cX10_trip 4 (some .int) [.int sg, .int dn, .int mi] := by
  obtain ⟨t, ls, hs, hk, hp, hff, ⟨q, q1, q2, q3, q4⟩, hbk⟩ := id hR
  have hh := hs.2.1
  have hI := hh.2.1
  have h41 := hh.1
  have e1 : (iv 29 0).toInt = q := by rw [q1, nI_toInt (by omega)]
  have e2 : (iv 41 53).toInt = q := by rw [q2, nI_toInt (by omega)]
  have hx := x_trip n iv lw sg dn mi hI (by omega)
  have hv : vp_nar .boolean dn = dn := by rcases hdn with z | z <;> subst z <;> decide
  by_cases P : (0 ≤ sg.toInt ∧ sg.toInt < (iv 1 0).toInt - 1) ∧ (iv 29 0).toInt < 24 ∧ 0 ≤ mi.toInt ∧ mi.toInt ≤ 10000
  · rw [if_pos P, if_pos P] at hx
    have ex : ztrip iv sg dn mi = zu (zu (zu (zu iv 30 q sg) 32 q dn) 31 q mi) 29 0 (nI (q + 1)) := by unfold ztrip; rw [hv, q1, nI_clamp (by omega), nI_1]
    rw [ex, q1, nI_1] at hx
    have hm := m_trip n (zu (zu (zu (zu iv 30 q sg) 32 q dn) 31 q mi) 29 0 (nI (q + 1))) lw sg dn mi (by show 2 ≤ (iv 41 1).toInt ∧ (iv 41 1).toInt ≤ 8; rw [h41]; exact hI) (by show 0 ≤ (iv 41 53).toInt ∧ (iv 41 53).toInt ≤ 24; omega)
    have Q : ¬ zu (zu (zu (zu iv 30 q sg) 32 q dn) 31 q mi) 29 0 (nI (q + 1)) 41 53 = 24 ∧ (0 ≤ sg.toInt ∧ sg.toInt < (zu (zu (zu (zu iv 30 q sg) 32 q dn) 31 q mi) 29 0 (nI (q + 1)) 41 1).toInt - 1) ∧ 0 ≤ mi.toInt ∧ mi.toInt ≤ 10000 := by
      refine ⟨fun z => ?_, ?_, P.2.2⟩
      · have z : iv 41 53 = 24 := z
        rw [z] at e2
        rw [show Int32.toInt 24 = 24 by decide] at e2
        omega
      · show 0 ≤ sg.toInt ∧ sg.toInt < (iv 41 1).toInt - 1
        rw [h41]; exact P.1
    rw [if_pos Q, if_pos Q] at hm
    generalize hi1 : zu (zu (zu (zu iv 30 q sg) 32 q dn) 31 q mi) 29 0 (nI (q + 1)) = iv1 at hx hm
    have e53 : iv1 41 53 = nI q := by rw [← hi1]; exact q2
    have em : zmtrip iv1 sg dn mi = zu (zu (zu (zu (zu iv1 76 q (if dn = 0 then sg + 1 else sg)) 77 q (if dn = 0 then sg else sg + 1)) 78 q mi) 79 q sg) 41 53 (nI (q + 1)) := by unfold zmtrip; rw [e53, nI_clamp (by omega), nI_1]
    rw [em, e53, nI_1] at hm
    have hf : zFr [29, 30, 31, 32, 76, 77, 78, 79] [53] iv (zu (zu (zu (zu (zu iv1 76 q (if dn = 0 then sg + 1 else sg)) 77 q (if dn = 0 then sg else sg + 1)) 78 q mi) 79 q sg) 41 53 (nI (q + 1))) := by
      rw [← hi1]
      exact (((((((((zFr.rf _ _ iv).u 30 _ _ (by decide) (by decide)).u 32 _ _ (by decide) (by decide)).u 31 _ _ (by decide) (by decide)).u 29 _ _ (by decide) (by decide)).u 76 _ _ (by decide) (by decide)).u 77 _ _ (by decide) (by decide)).u 78 _ _ (by decide) (by decide)).u 79 _ _ (by decide) (by decide)).u41 53 _ (by decide)
    refine zCall.i hx hm rfl ⟨t, ls, hf.s hs rfl rfl, hf.k hk rfl rfl, hf.p hp rfl rfl, hf.f hff rfl rfl, ⟨q + 1, by rw [← hi1]; rfl, rfl, by omega, fun k hk2 => ?_⟩, hf.b hbk rfl rfl⟩
    rw [← hi1]
    show (upd (iv 79) q sg k = upd (iv 30) q sg k ∧ (0 ≤ (upd (iv 30) q sg k).toInt ∧ (upd (iv 30) q sg k).toInt < (iv 1 0).toInt - 1)) ∧ (upd (iv 78) q mi k = upd (iv 31) q mi k ∧ (0 ≤ (upd (iv 31) q mi k).toInt ∧ (upd (iv 31) q mi k).toInt ≤ 10000)) ∧ upd (iv 76) q (if dn = 0 then sg + 1 else sg) k = (if upd (iv 32) q dn k = 0 then upd (iv 30) q sg k + 1 else upd (iv 30) q sg k) ∧ upd (iv 77) q (if dn = 0 then sg else sg + 1) k = (if upd (iv 32) q dn k = 0 then upd (iv 30) q sg k else upd (iv 30) q sg k + 1)
    by_cases z : k = q
    · subst z
      rw [pk_us, pk_us, pk_us, pk_us, pk_us, pk_us, pk_us]
      exact ⟨⟨rfl, P.1⟩, ⟨rfl, P.2.2⟩, rfl, rfl⟩
    · rw [pk_un z, pk_un z, pk_un z, pk_un z, pk_un z, pk_un z, pk_un z]
      exact q4 k (by omega)
  · rw [if_neg P, if_neg P] at hx
    have hm := m_trip n iv lw sg dn mi (by rw [h41]; exact hI) (by omega)
    have Q : ¬ (¬ iv 41 53 = 24 ∧ (0 ≤ sg.toInt ∧ sg.toInt < (iv 41 1).toInt - 1) ∧ 0 ≤ mi.toInt ∧ mi.toInt ≤ 10000) := fun z => P ⟨by rw [← h41]; exact z.2.1, by
      have : ¬ (iv 41 53).toInt = 24 := fun q => z.1 (Int32.toInt_inj.mp (by rw [q]; decide))
      omega, z.2.2⟩
    rw [if_neg Q, if_neg Q] at hm
    exact zCall.p hR hx hm rfl
theorem k_clear (hR : zRw n c iv) : zCall n c iv lw yX9_clear cX9_clear 2 (some .int) yX10_clear cX10_clear 2 (some .int) [] := by
  obtain ⟨t, ls, hs, hk, hp, hff, ⟨q, q1, q2, q3, q4⟩, hbk⟩ := id hR
  have hf : zFr [29] [53] iv (zu (zu iv 29 0 0) 41 53 0) := ((zFr.rf _ _ iv).u 29 _ _ (by decide) (by decide)).u41 53 _ (by decide)
  exact zCall.i (x_clear n iv lw) (m_clear n (zu iv 29 0 0) lw) (q1.trans q2.symm) ⟨t, ls, hf.s hs rfl rfl, hf.k hk rfl rfl, hf.p hp rfl rfl, hf.f hff rfl rfl, ⟨0, rfl, rfl, by decide, fun k hk2 => absurd hk2 (by omega)⟩, hf.b hbk rfl rfl⟩
/-- the same trips are behind each other -/
theorem zbeh_same {iv1 : zI} (hR : zRw n c iv) (h : ∀ q, 41 < q → q < 80 → iv1 q = iv q) {t : Nat} (ht : iv 29 0 = nI t) (ht2 : t ≤ 24) {a b : Nat} (ha : a < t) (hb : b < t) (rest : Int32) : zbeh iv1 a b rest ↔ (zend iv a = zbeg iv b ∧ (zrdy iv a rest).toInt ≤ (iv 31 b).toInt) := by
  obtain ⟨_, ls, hs, hk, hp, hff, ⟨q, q1, q2, q3, q4⟩, hbk⟩ := hR
  have hq : q = t := nI_inj4 (by omega) (by omega) (q1.symm.trans ht)
  subst hq
  obtain ⟨⟨a1, -⟩, ⟨a2, -⟩, a3, a4⟩ := q4 a ha
  obtain ⟨⟨b1, -⟩, ⟨b2, -⟩, b3, b4⟩ := q4 b hb
  have hh := hs.2.1
  unfold zbeh zend zbeg zrdy
  rw [h 76 (by decide) (by decide), h 77 (by decide) (by decide), h 78 (by decide) (by decide), h 79 (by decide) (by decide), h 42 (by decide) (by decide), h 43 (by decide) (by decide), a1, a2, a4, b2, b3, hh.2.2.1, hh.2.2.2.1]
  have e : iv 31 a + 7 * iv 2 (iv 30 a).toNatClampNeg + 2 * iv 3 (iv 30 a).toNatClampNeg + rest = iv 31 a + (iv 2 (iv 30 a).toNatClampNeg * 7 + 2 * iv 3 (iv 30 a).toNatClampNeg) + rest := by
    rw [Int32.mul_comm 7, Int32.add_assoc (iv 31 a)]
  rw [e]
  exact and_congr eq_comm Iff.rfl
theorem k_behind (hR : zRw n c iv) (a b rest : Int32) : zCall n c iv lw yX9_behind cX9_behind 4 (some .boolean) yX10_behind cX10_behind 4 (some .boolean) [.int a, .int b, .int rest] := by
  obtain ⟨t, ls, hs, hk, hp, hff, ⟨q, q1, q2, q3, q4⟩, hbk⟩ := id hR
  have hI := hs.2.1.2.1
  have e1 : (iv 29 0).toInt = q := by rw [q1, nI_toInt (by omega)]
  refine zCall.p hR (x_behind n iv lw a b rest (by omega) hI (fun k hk2 => (q4 k (by omega)).1.2)) (m_behind n iv lw a b rest q q2 q3 (fun k hk2 => by
    obtain ⟨⟨z1, z2, z3⟩, -⟩ := q4 k hk2
    rw [z1]
    exact vp_in_iff.mpr (by omega))) (zb_c ?_)
  unfold zfol
  rw [e1]
  constructor
  · intro ⟨z1, z2, z3, z4⟩
    have ca := zcl_int z1.1
    have cb := zcl_int z2.1
    exact ⟨z1, z2, z3, (zbeh_same hR (fun _ _ _ => rfl) q1 q3 (by omega) (by omega) rest).mpr z4⟩
  · intro ⟨z1, z2, z3, z4⟩
    have ca := zcl_int z1.1
    have cb := zcl_int z2.1
    exact ⟨z1, z2, z3, (zbeh_same hR (fun _ _ _ => rfl) q1 q3 (by omega) (by omega) rest).mp z4⟩
theorem zmt_c {t : Nat} {E E2 : Nat → Nat → Prop} (h : ∀ a b, a < t → b < t → E a b → E2 a b) {g : Nat → Option Nat} (hg : zmt t E t g) : zmt t E2 t g := fun b hb a ha => by
  obtain ⟨h1, h2, h3⟩ := hg b hb a ha
  exact ⟨h1, h a b h1 hb h2, h3⟩
theorem k_fewest (hR : zRw n c iv) (rest : Int32) : zCall n c iv lw yX9_fewest cX9_fewest 2 (some .int) yX10_fewest cX10_fewest 4 (some .int) [.int rest] := by
  obtain ⟨t, ls, hs, hk, hp, hff, ⟨q, q1, q2, q3, q4⟩, hbk⟩ := id hR
  have hI := hs.2.1.2.1
  have e1 : (iv 29 0).toInt = q := by rw [q1, nI_toInt (by omega)]
  have hx := x_fewest n iv lw rest q q1 q3 hI (fun k hk2 => (q4 k (by omega)).1.2)
  by_cases P : 0 ≤ rest.toInt ∧ rest.toInt ≤ 10000
  · rw [if_pos P, if_pos P] at hx
    obtain ⟨G, g1, g2, g3⟩ := zneed_max q1 q3 P
    rw [g3] at hx
    have hfo : ∀ k, k ≠ 33 → k ≠ 34 → znv (zclr iv q) q rest q k = iv k := fun k a b => by rw [znv_o _ _ _ a b, zclr_o _ a b]
    generalize znv (zclr iv q) q rest q = iv1 at hx hfo
    refine zCall.q hx (fun v iv' lw' hq => ?_)
    obtain ⟨rfl, hqi, hql⟩ := hq
    subst hqi
    subst hql
    refine ⟨_, rfl, 2, by decide, zMs.weak (m_fewest1 n iv' lw' q (by rw [hfo 41 (by decide) (by decide)]; exact q2) q3 rest (fun a ha => by
      obtain ⟨⟨z1, z2, z3⟩, -⟩ := q4 a ha
      rw [hfo 79 (by decide) (by decide), z1]
      exact vp_in_iff.mpr (by omega)) P) (fun v2 iv2 lw2 hq2 => ?_)⟩
    obtain ⟨-, hf4, G2, k1, k2, k3⟩ := hq2
    have hE : ∀ a b, a < q → b < q → (zmE iv' rest a b ↔ zEdg iv rest a b) := fun a b ha hb => zbeh_same hR (fun k x y => hfo k (by omega) (by omega)) q1 q3 ha hb rest
    have l1 := g2 G2 (zmt_c (fun a b ha hb z => (hE a b ha hb).mp z) k1)
    have l2 := k2 G (zmt_c (fun a b ha hb z => (hE a b ha hb).mpr z) g1)
    have el : zms G2 q = zms G q := by omega
    rw [el] at k3
    have hf : zFr [33, 34, 80, 81, 82, 83] [] iv iv2 := by
      have e : ∀ k, k ≠ 33 → k ≠ 34 → k ≠ 80 → k ≠ 81 → k ≠ 82 → k ≠ 83 → iv2 k = iv k := fun k a b x y z w => (hf4 k x y z w).trans (hfo k a b)
      exact ⟨fun k a b => by
        simp only [List.mem_cons, List.not_mem_nil, or_false, not_or] at b
        exact e k b.1 b.2.1 b.2.2.1 b.2.2.2.1 b.2.2.2.2.1 b.2.2.2.2.2, fun j _ => by rw [e 41 (by decide) (by decide) (by decide) (by decide) (by decide) (by decide)]⟩
    exact ⟨k3, t, ls, hf.s hs rfl rfl, hf.k hk rfl rfl, hf.p hp rfl rfl, hf.f hff rfl rfl, hf.q ⟨q, q1, q2, q3, q4⟩ rfl rfl, hf.b hbk rfl rfl⟩
  · rw [if_neg P, if_neg P] at hx
    exact zCall.p hR hx (m_fewest0 n iv lw rest P) rfl
theorem k_untell (hR : zRw n c iv) (bo : Int32) : zCall n c iv lw yX9_untell cX9_untell 2 (some .boolean) yX10_untell cX10_untell 2 (some .boolean) [.int bo] := by
  obtain ⟨t, ls, hs, hk, hp, hff, hq, ⟨b, b1, b2, b3, b4, b5⟩⟩ := id hR
  have e1 : (iv 35 0).toInt = b := by rw [b1, nI_toInt (by omega)]
  have e2 : (iv 41 62).toInt = b := by rw [b2, nI_toInt (by omega)]
  have hck : iv 41 0 = iv 0 10 := hs.2.2.2.2.1
  have hc0 : 0 ≤ (iv 0 10).toInt := hs.2.2.2.2.2.1
  have hx := x_untell n iv lw bo (by omega)
  have hun : 0 ≤ bo.toInt → bo.toInt < b → (iv 40 bo.toNatClampNeg = -1 ↔ iv 89 bo.toNatClampNeg = 0) := fun z1 z2 => by
    have cb := zcl_int z1
    rcases (b4 bo.toNatClampNeg (by omega)).2.2.2.2 with ⟨u1, u2⟩ | ⟨u1, u2, u3⟩
    · exact ⟨fun _ => u2, fun _ => u1⟩
    · refine ⟨fun z => ?_, fun z => ?_⟩
      · rw [z] at u3; exact absurd u3 (by decide)
      · rw [u1] at z; exact absurd z (by decide)
  by_cases P : 0 ≤ bo.toInt ∧ bo.toInt < (iv 35 0).toInt ∧ iv 40 bo.toNatClampNeg = -1
  · rw [if_pos P, zb_t P] at hx
    have cb := zcl_int P.1
    have hm := m_untell n (zu iv 40 bo.toNatClampNeg (iv 0 10)) lw bo (by show (iv 41 62).toInt ≤ 100; omega)
    have Q : 0 ≤ bo.toInt ∧ bo.toInt < (zu iv 40 bo.toNatClampNeg (iv 0 10) 41 62).toInt ∧ zu iv 40 bo.toNatClampNeg (iv 0 10) 89 bo.toNatClampNeg = 0 := by
      refine ⟨P.1, ?_, (hun P.1 (by omega)).mp P.2.2⟩
      show bo.toInt < (iv 41 62).toInt
      omega
    rw [if_pos Q, zb_t Q] at hm
    have hf : zFr [40, 88, 89] [] iv (zu (zu (zu iv 40 bo.toNatClampNeg (iv 0 10)) 89 bo.toNatClampNeg 1) 88 bo.toNatClampNeg (zu iv 40 bo.toNatClampNeg (iv 0 10) 41 0)) := (((zFr.rf _ _ iv).u 40 _ _ (by decide) (by decide)).u 89 _ _ (by decide) (by decide)).u 88 _ _ (by decide) (by decide)
    refine zCall.i hx hm rfl ⟨t, ls, hf.s hs rfl rfl, hf.k hk rfl rfl, hf.p hp rfl rfl, hf.f hff rfl rfl, hf.q hq rfl rfl, ⟨b, b1, b2, b3, fun k hk2 => ?_, fun k hk2 => ?_⟩⟩
    · obtain ⟨v1, v2, v3, v4, v5⟩ := b4 k hk2
      refine ⟨v1, v2, v3, v4, ?_⟩
      show (upd (iv 40) bo.toNatClampNeg (iv 0 10) k = -1 ∧ upd (iv 89) bo.toNatClampNeg 1 k = 0) ∨ (upd (iv 89) bo.toNatClampNeg 1 k = 1 ∧ upd (iv 88) bo.toNatClampNeg (iv 41 0) k = upd (iv 40) bo.toNatClampNeg (iv 0 10) k ∧ 0 ≤ (upd (iv 40) bo.toNatClampNeg (iv 0 10) k).toInt)
      by_cases z : k = bo.toNatClampNeg
      · subst z
        rw [pk_us, pk_us, pk_us]
        exact Or.inr ⟨rfl, hck, hc0⟩
      · rw [pk_un z, pk_un z, pk_un z]
        exact v5
    · show upd (iv 89) bo.toNatClampNeg 1 k = 0
      rw [pk_un (by omega)]
      exact b5 k hk2
  · rw [if_neg P, zb_f P] at hx
    have hm := m_untell n iv lw bo (by omega)
    have Q : ¬ (0 ≤ bo.toInt ∧ bo.toInt < (iv 41 62).toInt ∧ iv 89 bo.toNatClampNeg = 0) := fun z => P ⟨z.1, by omega, (hun z.1 (by omega)).mpr z.2.2⟩
    rw [if_neg Q, zb_f Q] at hm
    exact zCall.p hR hx hm rfl
theorem zsum_b {f : Nat → Int32} : ∀ m : Nat, m ≤ 100 → (∀ k, k < m → 1 ≤ (f k).toInt ∧ (f k).toInt ≤ 20) → (m : Int) ≤ (zsum f m).toInt ∧ (zsum f m).toInt ≤ 20 * m
  | 0, _, _ => ⟨by show (0 : Int) ≤ (0 : Int32).toInt; decide, by show (0 : Int32).toInt ≤ 20 * 0; decide⟩
  | m + 1, hm, h => by
    obtain ⟨h1, h2⟩ := zsum_b m (by omega) (fun k hk => h k (by omega))
    have := h m (by omega)
    rw [zsum, zt_add (by omega) (by omega)]
    omega
theorem k_parted (hR : zRw n c iv) (am w : Int32) : zCall n c iv lw yX9_parted cX9_parted 3 (some .int) yX10_parted cX10_parted 13 (some .int) [.int am, .int w] := by
  obtain ⟨t, ls, hs, hk, hp, hff, hq, hbk⟩ := id hR
  obtain ⟨r1, r2, r42, r43, r44, r45, rb, rm⟩ := hs.2.1
  by_cases P : (0 ≤ am.toInt ∧ am.toInt ≤ 1000000000) ∧ (0 ≤ w.toInt ∧ w.toInt < 4)
  · obtain ⟨m, hm⟩ : ∃ m : Nat, (m : Int) = (iv 1 0).toInt - 1 := ⟨((iv 1 0).toInt - 1).toNat, by omega⟩
    have hsum := zsum_b (f := iv 2) m (by omega) (fun k hk2 => ⟨rm k (by omega), (rb k).1.2⟩)
    have hx := x_parted1 n iv lw am w r2 m hm (by omega) P.1 P.2
    refine zCall.q hx (fun v iv' lw' hq2 => ?_)
    obtain ⟨rfl, rfl, rfl⟩ := hq2
    refine ⟨_, rfl, 0, by decide, zMs.weak (m_parted1 n _ _ am w m (by rw [r1]; exact hm) (by omega) (by rw [r42]; omega) (fun j hj => by rw [r45]; exact (rb j).2.2.2) P.1 P.2) (fun v2 iv2 lw2 hq2 => ?_)⟩
    obtain ⟨e1, -, e3⟩ := hq2
    rw [r42, r45] at e1
    have hf : zFr [90] [] iv' iv2 := ⟨fun q a b => e3 q (fun z => b (by rw [z]; decide)), fun j _ => by rw [e3 41 (by decide)]⟩
    exact ⟨e1, t, ls, hf.s hs rfl rfl, hf.k hk rfl rfl, hf.p hp rfl rfl, hf.f hff rfl rfl, hf.q hq rfl rfl, hf.b hbk rfl rfl⟩
  · exact zCall.p hR (x_parted0 n iv lw am w P) (m_parted0 n iv lw am w P) rfl
end ZK3
