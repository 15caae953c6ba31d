/-! String constants: cells 1000 + i, their bytes at 1010 + i -/
def zsl (i : Nat) : Nat := ([88, 8] : List Nat).getD i 0
def zsb (i j : Nat) : Int32 := (zbyt.getD i []).getD j 0
theorem zvK {N k : Nat} (h : 1000 ≤ k) : zvok N (.ref k) := Or.inr h
section ZT
variable {X : zX} {cc : ByteArray} {N0 nL pc pc' : Nat} {own : String} {ret : Option FieldType} {nm : String} {lvl MC MS : Nat} {lv lv' : zLs} {st : List Value} {N : Nat} {kd : zD} {iv : zI} {rf : zF} {lw : zG} {cells slots : Nat}
theorem z_ldcSW (C : zC X cc nL RX6 ret nm lvl MC MS) (hd : zd cc pc (.ldc 72) 2 pc') (k : zJ X N0 nL pc' lv (.ref 1000 :: st) N kd iv rf lw cells slots) : zJ X N0 nL pc lv st N kd iv rf lw cells slots := by
  obtain ⟨p, l, e, R, s, m, args, below, meth, c, D, cA, A, ad0, Q⟩ := X
  obtain ⟨hx, hb, hml, hown, hts, hK, hA, hR, hZ, hr, hlk, hnm⟩ := C
  intro ad locs H ls g1 g2 g3 g4 g5 g6 hP hD hS hl
  obtain ⟨hd, rfl⟩ := hd
  refine va_ldcS hx hb hown hZ.2.1 hd ?_
  rw [← g1 1000 (Or.inr (Nat.le_refl _))]
  exact k ad locs H ls g1 g2 g3 g4 g5 (zst1 g6 (zvK (Nat.le_refl _))) hP hD hS hl
theorem z_ldcSS (C : zC X cc nL RX6 ret nm lvl MC MS) (hd : zd cc pc (.ldc 62) 2 pc') (k : zJ X N0 nL pc' lv (.ref 1001 :: st) N kd iv rf lw cells slots) : zJ X N0 nL pc lv st N kd iv rf lw cells slots := by
  obtain ⟨p, l, e, R, s, m, args, below, meth, c, D, cA, A, ad0, Q⟩ := X
  obtain ⟨hx, hb, hml, hown, hts, hK, hA, hR, hZ, hr, hlk, hnm⟩ := C
  intro ad locs H ls g1 g2 g3 g4 g5 g6 hP hD hS hl
  obtain ⟨hd, rfl⟩ := hd
  refine va_ldcS hx hb hown hZ.2.2.1 hd ?_
  rw [← g1 1001 (Or.inr (by omega))]
  exact k ad locs H ls g1 g2 g3 g4 g5 (zst1 g6 (zvK (by omega))) hP hD hS hl
theorem z_getSv (i : Nat) (hi : i < 2) (C : zC X cc nL RJ0 ret nm lvl MC MS) (hd : zd cc pc (.getfield 9) 3 pc') (k : zJ X N0 nL pc' lv (.ref (1010 + i) :: st) N kd iv rf lw cells slots) : zJ X N0 nL pc lv (.ref (1000 + i) :: st) N kd iv rf lw cells slots := by
  obtain ⟨p, l, e, R, s, m, args, below, meth, c, D, cA, A, ad0, Q⟩ := X
  obtain ⟨hx, hb, hml, hown, hts, hK, hA, hR, hZ, hr, hlk, hnm⟩ := C
  intro ad locs H ls g1 g2 g3 g4 g5 g6 hP hD hS hl
  obtain ⟨hd, rfl⟩ := hd
  have k1 := k ad locs H ls g1 g2 g3 g4 g5 (zst1 (ztl g6) (zvK (by omega))) hP hD hS hl
  show W p l e R s m args below meth c H locs cells slots Q (F0 m pc ls (.ref (ad (1000 + i)) :: st.map (zv ad)))
  rw [g1 (1000 + i) (Or.inr (by omega))]
  refine vk_getf hx hb (hZ.1.1 i hi).2.2.1 hS hown (hts _ zfj_J0_9) (fun _ h => h) hd ?_
  show W p l e R s m args below meth c H locs cells slots Q (F0 m (pc + 3) ls (.ref (ad0 (1010 + i)) :: st.map (zv ad)))
  rw [← g1 (1010 + i) (Or.inr (by omega))]
  exact k1
theorem z_getSc (i : Nat) (hi : i < 2) (C : zC X cc nL RJ0 ret nm lvl MC MS) (hd : zd cc pc (.getfield 15) 3 pc') (k : zJ X N0 nL pc' lv (.int 0 :: st) N kd iv rf lw cells slots) : zJ X N0 nL pc lv (.ref (1000 + i) :: st) N kd iv rf lw cells slots := by
  obtain ⟨p, l, e, R, s, m, args, below, meth, c, D, cA, A, ad0, Q⟩ := X
  obtain ⟨hx, hb, hml, hown, hts, hK, hA, hR, hZ, hr, hlk, hnm⟩ := C
  intro ad locs H ls g1 g2 g3 g4 g5 g6 hP hD hS hl
  obtain ⟨hd, rfl⟩ := hd
  have k1 := k ad locs H ls g1 g2 g3 g4 g5 (zst1 (ztl g6) trivial) hP hD hS hl
  show W p l e R s m args below meth c H locs cells slots Q (F0 m pc ls (.ref (ad (1000 + i)) :: st.map (zv ad)))
  rw [g1 (1000 + i) (Or.inr (by omega))]
  exact vk_getf hx hb (hZ.1.1 i hi).2.1 hS hown (hts _ zfj_J0_15) (fun _ h => h) hd k1
theorem z_alenS (i : Nat) (hi : i < 2) (C : zC X cc nL own ret nm lvl MC MS) (hd : zd cc pc .arraylength 1 pc') (k : zJ X N0 nL pc' lv (.int (nI (zsl i)) :: st) N kd iv rf lw cells slots) : zJ X N0 nL pc lv (.ref (1010 + i) :: st) N kd iv rf lw cells slots := by
  obtain ⟨p, l, e, R, s, m, args, below, meth, c, D, cA, A, ad0, Q⟩ := X
  obtain ⟨hx, hb, hml, hown, hts, hK, hA, hR, hZ, hr, hlk, hnm⟩ := C
  intro ad locs H ls g1 g2 g3 g4 g5 g6 hP hD hS hl
  obtain ⟨hd, rfl⟩ := hd
  have k1 := k ad locs H ls g1 g2 g3 g4 g5 (zst1 (ztl g6) trivial) hP hD hS hl
  show W p l e R s m args below meth c H locs cells slots Q (F0 m pc ls (.ref (ad (1010 + i)) :: st.map (zv ad)))
  rw [g1 (1010 + i) (Or.inr (by omega))]
  exact va_tlen hx hb (hZ.1.1 i hi).2.2.2 hS rfl hd k1
theorem z_baldS (i : Nat) (hi : i < 2) {x : Int32} (C : zC X cc nL own ret nm lvl MC MS) (hd : zd cc pc .baload 1 pc') (hin : vp_in x (zsl i)) (k : zJ X N0 nL pc' lv (.int (zsb i x.toNatClampNeg) :: st) N kd iv rf lw cells slots) : zJ X N0 nL pc lv (.int x :: .ref (1010 + i) :: st) N kd iv rf lw cells slots := by
  obtain ⟨p, l, e, R, s, m, args, below, meth, c, D, cA, A, ad0, Q⟩ := X
  obtain ⟨hx, hb, hml, hown, hts, hK, hA, hR, hZ, hr, hlk, hnm⟩ := C
  intro ad locs H ls g1 g2 g3 g4 g5 g6 hP hD hS hl
  obtain ⟨hd, rfl⟩ := hd
  have k1 := k ad locs H ls g1 g2 g3 g4 g5 (zst1 (ztl (ztl g6)) trivial) hP hD hS hl
  show W p l e R s m args below meth c H locs cells slots Q (F0 m pc ls (.int x :: .ref (ad (1010 + i)) :: st.map (zv ad)))
  rw [g1 (1010 + i) (Or.inr (by omega))]
  exact va_tb hx hb (hZ.1.1 i hi).2.2.2 hS hin rfl hd k1
theorem z_gets_COMPACT_STRINGS (C : zC X cc nL RJ0 ret nm lvl MC MS) (hd : zd cc pc (.getstatic 38) 3 pc') (hl : Cond.fieldLink RJ0 38 "java/lang/String" "COMPACT_STRINGS" "Z" ∈ zw) (k : zJ X N0 nL pc' lv (.int 1 :: st) N kd iv rf lw cells slots) : zJ X N0 nL pc lv st N kd iv rf lw cells slots := by
  obtain ⟨p, l, e, R, s, m, args, below, meth, c, D, cA, A, ad0, Q⟩ := X
  obtain ⟨hx, hb, hml, hown, hts, hK, hA, hR, hZ, hr, hlk, hnm⟩ := C
  intro ad locs H ls g1 g2 g3 g4 g5 g6 hP hD hS hl2
  obtain ⟨hd, rfl⟩ := hd
  exact va_gets hx hb hZ.2.2.2.1 hS hown (hts _ hl) (fun _ h => h) hd (k ad locs H ls g1 g2 g3 g4 g5 (zst1 g6 trivial) hP hD hS hl2)
theorem z_gets_SIOOBE (C : zC X cc nL RJ0 ret nm lvl MC MS) (hd : zd cc pc (.getstatic 1053) 3 pc') (k : ∀ v : Value, v = .null ∨ v = .ref 1020 → zJ X N0 nL pc' lv (v :: st) N kd iv rf lw cells slots) : zJ X N0 nL pc lv st N kd iv rf lw cells slots := by
  obtain ⟨p, l, e, R, s, m, args, below, meth, c, D, cA, A, ad0, Q⟩ := X
  obtain ⟨hx, hb, hml, hown, hts, hK, hA, hR, hZ, hr, hlk, hnm⟩ := C
  intro ad locs H ls g1 g2 g3 g4 g5 g6 hP hD hS hl2
  obtain ⟨hd, rfl⟩ := hd
  obtain ⟨v, hv, h5⟩ := hZ.2.2.2.2.1
  rcases hv with rfl | rfl
  · exact va_gets hx hb h5 hS hown (hts _ zfj_J0_1053) (fun _ h => h) hd (k .null (Or.inl rfl) ad locs H ls g1 g2 g3 g4 g5 (zst1 g6 trivial) hP hD hS hl2)
  · have k1 := k (.ref 1020) (Or.inr rfl) ad locs H ls g1 g2 g3 g4 g5 (zst1 g6 (zvK (by omega))) hP hD hS hl2
    refine va_gets hx hb h5 hS hown (hts _ zfj_J0_1053) (fun _ h => h) hd ?_
    rw [← g1 1020 (Or.inr (by omega))]
    exact k1
theorem z_callVS (i : Nat) (hi : i < 2) {y : MethodName} {cb : ByteArray} {nb : Nat} {rb : Option FieldType} {n index : Nat} {lb mc ms : Nat} {As : List Value} {st0 : List Value} {Qc : zP} (C : zC X cc nL own ret nm lvl MC MS) (hd : zd cc pc (.invokevirtual index) 3 pc') (hm : Cond.methodLink own index y ∈ zw) (hY : zYv y cb nb rb n) (hM : zM y cb nb rb lb mc ms (.ref (1000 + i) :: As) N kd iv rf lw Qc) (hcy : y.cls = "java/lang/String") (hlb : lb + 1 ≤ lvl) (hst : st0 = As.reverse ++ .ref (1000 + i) :: st) (hn : As.length = n) (hrm : (st.map fun v => v.category).sum ≤ 8) (hc : cells + mc ≤ MC) (hs : slots + ms ≤ MS)
    (k : ∀ (v : Option Value) (N' : Nat) (kd' : zD) (iv' : zI) (rf' : zF) (lw' : zG), Qc v N' kd' iv' rf' lw' → zJ X N0 nL pc' lv (v.toList ++ st) N' kd' iv' rf' lw' (cells + mc) (slots + ms)) : zJ X N0 nL pc lv st0 N kd iv rf lw cells slots := by
  obtain ⟨p, l, e, R, s, m, args, below, meth, c, D, cA, A, ad0, Q⟩ := X
  obtain ⟨hx, hb, hml, hown, hts, hK, hA, hR, hZ, hr, hlk, hnm⟩ := C
  intro ad locs H ls g1 g2 g3 g4 g5 g6 hP hD hS hl
  obtain ⟨hd, rfl⟩ := hd
  obtain ⟨r1, r2, r3, r4⟩ := hR
  subst hst
  have h6 : (∀ v ∈ (.ref (1000 + i) :: As : List Value), zvok N v) ∧ ∀ v ∈ st, zvok N v := ⟨fun v hv => g6 v (by
    rcases List.mem_cons.mp hv with rfl | hv
    · simp
    · simp [hv]), fun v hv => g6 v (by simp [hv])⟩
  have hYb := hY.1
  obtain ⟨y1, y2, y3, y4, y5⟩ := hY.1
  refine zrun (N0 := N0) (nL := nL) (a := (Value.ref (ad (1000 + i)) :: As.map (zv ad)).toArray) (va_runV (C := y.cls) (b := ad (1000 + i)) (As := As.map (zv ad)) (n := n) (nL := nL) ⟨hx, hb, hml, hown, hts⟩ (hM l D cA ad H.size) ⟨callB_of n hts (zgin hYb) rfl rfl rfl (hts _ y2) (hts _ hm) y3 ⟨by show lb + 1 ≤ _; omega, by show 8 + (nb + 11) + 60 * lb ≤ _; omega⟩, hts _ hY.2.1, hts _ hY.2.2⟩ ⟨zPre.blind _ _ _ _ _ _ _ _ _ _, by
    rw [hcy, g1 (1000 + i) (Or.inr (by omega))]
    exact vk_recv (adK := fun i => ad0 (1000 + i)) (i := i) hZ.1 hi hS, zpre (p := p) g1 g2 g4 h6.1 hP hD hK hZ hS hA⟩ rfl (by rw [List.length_map]; exact hn) hl.1 (by show List.map (zv ad) _ = _; rw [List.map_append, List.map_reverse]; rfl) (lv_room (by rw [zv_cats]; exact hrm)) hd ⟨by omega, by omega⟩) g1 g3 g5 h6.2 hD hS hA hl k
theorem zs_callTi (i : Nat) (hi : i < 2) {y : MethodName} {cb : ByteArray} {nb : Nat} {rb : Option FieldType} {na index : Nat} {lb n : Nat} {As : List Value} {st0 : List Value} {r : Int32} {iv1 : zI} {lw1 : zG} (C : zC X cc nL own ret nm lvl MC MS) (hd : zd cc pc (.invokevirtual index) 3 pc') (hm : Cond.methodLink own index y ∈ zw) (hY : zYv y cb nb rb na) (hM : zMs y cb nb rb lb (.ref (1000 + i) :: As) n iv lw (zQi r iv1 lw1)) (hcy : y.cls = "java/lang/String") (hlb : lb + 1 ≤ lvl) (hst : st0 = As.reverse ++ .ref (1000 + i) :: st) (hn : As.length = na) (hrm : (st.map fun v => v.category).sum ≤ 8) (hc : cells ≤ MC) (hs : slots ≤ MS) (k : zJ X N0 nL pc' lv (.int r :: st) (91 + 3 * n) skd iv1 (srf n) lw1 cells slots) : zJ X N0 nL pc lv st0 (91 + 3 * n) skd iv (srf n) lw cells slots := by
  refine z_callVS i hi C hd hm hY hM hcy hlb hst hn hrm (by omega) (by omega) (fun v N' kd' iv' rf' lw' hq => ?_)
  obtain ⟨rfl, rfl, rfl, rfl, rfl, rfl⟩ := hq
  exact k
end ZT
