/-! rows that touch the heap -/
theorem ztc0 {t : FieldType} (h : ztc t = 0) : t = .int := by
  cases t <;> simp [ztc] at h ⊢
theorem ztc1 {t : FieldType} (h : ztc t = 1) : t = .long := by
  cases t <;> simp [ztc] at h ⊢
theorem zobj_len {ad : Nat → Nat} {ci : Nat} {x : Nat → Int32} {r : Nat → Option Nat} {w : Nat → Int64} : (zobj ad ci x r w).length = znf ci := by simp [zobj]
theorem zobj_get {ad : Nat → Nat} {ci j : Nat} {x : Nat → Int32} {r : Nat → Option Nat} {w : Nat → Int64} (h : j < znf ci) : (zobj ad ci x r w)[j]? = some (zfv ad (zft ci j) (x j) (r j) (w j)) := by
  simp [zobj, h]
theorem zfv_r {ad : Nat → Nat} {t : FieldType} {x : Int32} {r : Option Nat} {w : Int64} (h : ztc t = 2) : zfv ad t x r w = va_rf (r.map ad) := by
  cases t <;> first | rfl | (simp [ztc] at h)
theorem zobj_set {ad : Nat → Nat} {ci j : Nat} {x x' : Nat → Int32} {r r' : Nat → Option Nat} {w w' : Nat → Int64} {v : Value} (hv : zfv ad (zft ci j) (x' j) (r' j) (w' j) = v) (h : ∀ i, i ≠ j → x' i = x i ∧ r' i = r i ∧ w' i = w i) : (zobj ad ci x r w).set j v = zobj ad ci x' r' w' := by
  apply List.ext_getElem?
  intro i
  by_cases hl : i < znf ci
  · by_cases hi : i = j
    · subst hi
      rw [List.getElem?_set_self (by rw [zobj_len]; exact hl), zobj_get hl, hv]
    · obtain ⟨a, b, c⟩ := h i hi
      rw [List.getElem?_set_ne (Ne.symm hi), zobj_get hl, zobj_get hl, a, b, c]
  · rw [List.getElem?_eq_none (by rw [List.length_set, zobj_len]; omega), List.getElem?_eq_none (by rw [zobj_len]; omega)]
theorem zE_obj {cA : Nat → ClassId} {ad : Nat → Nat} {ci : Nat} {q : Nat × Nat} {x : Nat → Int32} {r : Nat → Option Nat} {w : Nat → Int64} (h : q = (ci + 4, 0)) : zE cA ad q x r w = .inr (ci, zobj ad ci x r w) := by
  rw [h]; rfl
theorem zu_s (iv : zI) (k i : Nat) (x : Int32) : zu iv k i x k = upd (iv k) i x := if_pos rfl
theorem zu_n (iv : zI) {k c : Nat} (i : Nat) (x : Int32) (h : c ≠ k) : zu iv k i x c = iv c := if_neg h
theorem zuR_s (iv : zF) (k i : Nat) (x : Option Nat) : zuR iv k i x k = va_up (iv k) i x := if_pos rfl
theorem zuR_n (iv : zF) {k c : Nat} (i : Nat) (x : Option Nat) (h : c ≠ k) : zuR iv k i x c = iv c := if_neg h
theorem zuL_s (iv : zG) (k i : Nat) (x : Int64) : zuL iv k i x k = vp_updL (iv k) i x := if_pos rfl
theorem zuL_n (iv : zG) {k c : Nat} (i : Nat) (x : Int64) (h : c ≠ k) : zuL iv k i x c = iv c := if_neg h
theorem zok.put {N : Nat} {rf : zF} (h : zok N rf) {b j r : Nat} (hr : r < N) : zok N (zuR rf b j (some r)) := by
  intro k i q hq
  by_cases hk : k = b
  · subst hk
    rw [zuR_s] at hq
    unfold va_up at hq
    by_cases hi : i = j
    · rw [if_pos hi] at hq; cases hq; exact hr
    · rw [if_neg hi] at hq; exact h k i q hq
  · rw [zuR_n _ _ _ hk] at hq
    exact h k i q hq
theorem zrok {N : Nat} {rf : zF} (h : zok N rf) (b j : Nat) : zvok N (va_rf (rf b j)) := by
  cases hr : rf b j with
  | none => trivial
  | some r => exact Or.inl (h b j r hr)
theorem zlt {N b : Nat} (h : zvok N (.ref b)) (hb : b < 1000) : b < N := by
  have h' : b < N ∨ 1000 ≤ b := h
  omega
theorem zW_push {cA : Nat → ClassId} {ad : Nat → Nat} {N q : Nat} {kd : zD} {iv : zI} {rf : zF} {lw : zG} {t : Nat × Nat} {x : Nat → Int32} {r : Nat → Option Nat} {w : Nat → Int64} {e : va_E} (hk : zok N rf) (he : zE cA (va_up ad N q) t x r w = e) : zW cA (va_up ad N q) (N + 1) (va_up kd N t) (va_up iv N x) (va_up rf N r) (va_up lw N w) = zW cA ad N kd iv rf lw ++ [(q, e)] := by
  have e0 : ∀ {α : Type} (f : Nat → α) (k : Nat) (v : α), va_up f k v k = v := fun f k v => if_pos rfl
  have e1 : ∀ {α : Type} (f : Nat → α) (k j : Nat) (v : α), j < k → va_up f k v j = f j := fun f k j v h => if_neg (by omega)
  unfold zW
  rw [List.range_succ, List.map_append]
  have h1 : (List.range N).map (fun k => (va_up ad N q k, zE cA (va_up ad N q) (va_up kd N t k) (va_up iv N x k) (va_up rf N r k) (va_up lw N w k))) = (List.range N).map (fun k => (ad k, zE cA ad (kd k) (iv k) (rf k) (lw k))) := by
    refine List.map_congr_left fun k hk' => ?_
    have hlt := List.mem_range.mp hk'
    rw [e1 _ _ _ _ hlt, e1 _ _ _ _ hlt, e1 _ _ _ _ hlt, e1 _ _ _ _ hlt, e1 _ _ _ _ hlt]
    rw [zE_ad (fun j r' hr => e1 _ _ _ _ (hk k j r' hr))]
  rw [h1]
  simp only [List.map_cons, List.map_nil, e0, he]
theorem zok.push {N : Nat} {rf : zF} (h : zok N rf) : zok (N + 1) (va_up rf N (fun _ => none)) := by
  intro k j r hr
  unfold va_up at hr
  by_cases hk : k = N
  · rw [if_pos hk] at hr; cases hr
  · rw [if_neg hk] at hr
    exact Nat.lt_succ_of_lt (h k j r hr)
theorem zcb {n k : Nat} (h : n ≤ 1000) (hk : k ≤ 8) : n * k ≤ 536870912 := Nat.le_trans (Nat.mul_le_mul h hk) (by decide)
section ZH
variable {X : zX} {cc : ByteArray} {N0 nL pc pc' : Nat} {own : String} {ret : Option FieldType} {nm : String} {lvl MC MS : Nat} {lv lv' : zLs} {st : List Value} {N : Nat} {kd : zD} {iv : zI} {rf : zF} {lw : zG} {cells slots : Nat}
theorem z_getI {index ci j b : Nat} {fin : Bool} (C : zC X cc nL own ret nm lvl MC MS) (hd : zd cc pc (.getfield index) 3 pc') (hf : zFl own index ci j 0 fin) (hk : kd b = (ci + 4, 0)) (hbb : b < 1000) (k : zJ X N0 nL pc' lv (.int (iv b j) :: st) N kd iv rf lw cells slots) : zJ X N0 nL pc lv (.ref b :: st) N kd iv rf lw cells slots := by
  obtain ⟨p, l, e, R, s, m, args, below, meth, c, D, cA, A, ad0, Q⟩ := X
  obtain ⟨hx, hb, hml, hown, hts, hK, hA, hR, hZ, hr, hlk, hnm⟩ := C
  intro ad locs H ls g1 g2 g3 g4 g5 g6 hP hD hS hl
  obtain ⟨hd, rfl⟩ := hd
  obtain ⟨CN, T, n, ⟨c1, c2, c3, c4, c5, c6, c7⟩, hlk2, hj, ht, hfi, hde⟩ := hf
  have hbN := zlt (zhd g6) hbb
  refine va_get (C := CN) (T := T) (N := n) (ci := ci) (index := index) (ref := (T j).1) (v := zv ad (.int (iv b j))) hx hb hts c3 hown hK hP b (by rw [zW_get hbN, zE_obj hk]) c1 j hj (hts _ hlk2) (fun _ h => h) ?_ hd (k ad locs H ls g1 g2 g3 g4 g5 (zst1 (ztl g6) trivial) hP hD hS hl)
  rw [zobj_get (by omega)]
  exact congrArg some (by rw [ztc0 ht]; rfl)

theorem z_getL {index ci j b : Nat} {fin : Bool} (C : zC X cc nL own ret nm lvl MC MS) (hd : zd cc pc (.getfield index) 3 pc') (hf : zFl own index ci j 1 fin) (hk : kd b = (ci + 4, 0)) (hbb : b < 1000) (k : zJ X N0 nL pc' lv (.long (lw b j) :: st) N kd iv rf lw cells slots) : zJ X N0 nL pc lv (.ref b :: st) N kd iv rf lw cells slots := by
  obtain ⟨p, l, e, R, s, m, args, below, meth, c, D, cA, A, ad0, Q⟩ := X
  obtain ⟨hx, hb, hml, hown, hts, hK, hA, hR, hZ, hr, hlk, hnm⟩ := C
  intro ad locs H ls g1 g2 g3 g4 g5 g6 hP hD hS hl
  obtain ⟨hd, rfl⟩ := hd
  obtain ⟨CN, T, n, ⟨c1, c2, c3, c4, c5, c6, c7⟩, hlk2, hj, ht, hfi, hde⟩ := hf
  have hbN := zlt (zhd g6) hbb
  refine va_get (C := CN) (T := T) (N := n) (ci := ci) (index := index) (ref := (T j).1) (v := zv ad (.long (lw b j))) hx hb hts c3 hown hK hP b (by rw [zW_get hbN, zE_obj hk]) c1 j hj (hts _ hlk2) (fun _ h => h) ?_ hd (k ad locs H ls g1 g2 g3 g4 g5 (zst1 (ztl g6) trivial) hP hD hS hl)
  rw [zobj_get (by omega)]
  exact congrArg some (by rw [ztc1 ht]; rfl)

theorem z_getR {index ci j b : Nat} {fin : Bool} (C : zC X cc nL own ret nm lvl MC MS) (hd : zd cc pc (.getfield index) 3 pc') (hf : zFl own index ci j 2 fin) (hk : kd b = (ci + 4, 0)) (hbb : b < 1000) (k : zJ X N0 nL pc' lv (va_rf (rf b j) :: st) N kd iv rf lw cells slots) : zJ X N0 nL pc lv (.ref b :: st) N kd iv rf lw cells slots := by
  obtain ⟨p, l, e, R, s, m, args, below, meth, c, D, cA, A, ad0, Q⟩ := X
  obtain ⟨hx, hb, hml, hown, hts, hK, hA, hR, hZ, hr, hlk, hnm⟩ := C
  intro ad locs H ls g1 g2 g3 g4 g5 g6 hP hD hS hl
  obtain ⟨hd, rfl⟩ := hd
  obtain ⟨CN, T, n, ⟨c1, c2, c3, c4, c5, c6, c7⟩, hlk2, hj, ht, hfi, hde⟩ := hf
  have hbN := zlt (zhd g6) hbb
  refine va_get (C := CN) (T := T) (N := n) (ci := ci) (index := index) (ref := (T j).1) (v := zv ad (va_rf (rf b j))) hx hb hts c3 hown hK hP b (by rw [zW_get hbN, zE_obj hk]) c1 j hj (hts _ hlk2) (fun _ h => h) ?_ hd (k ad locs H ls g1 g2 g3 g4 g5 (zst1 (ztl g6) (zrok g2 b j)) hP hD hS hl)
  rw [zobj_get (by omega)]
  exact congrArg some (by rw [zfv_r ht, zv_rf])

theorem z_putI {index ci j b : Nat} {x : Int32} (C : zC X cc nL own ret nm lvl MC MS) (hd : zd cc pc (.putfield index) 3 pc') (hf : zFl own index ci j 0 false) (hk : kd b = (ci + 4, 0)) (hbb : b < 1000) (k : zJ X N0 nL pc' lv st N kd (zu iv b j x) rf lw cells slots) : zJ X N0 nL pc lv (.int x :: .ref b :: st) N kd iv rf lw cells slots := by
  obtain ⟨p, l, e, R, s, m, args, below, meth, c, D, cA, A, ad0, Q⟩ := X
  obtain ⟨hx, hb, hml, hown, hts, hK, hA, hR, hZ, hr, hlk, hnm⟩ := C
  intro ad locs H ls g1 g2 g3 g4 g5 g6 hP hD hS hl
  obtain ⟨hd, rfl⟩ := hd
  obtain ⟨CN, T, n, ⟨c1, c2, c3, c4, c5, c6, c7⟩, hlk2, hj, ht, hfi, hde⟩ := hf
  have hbN := zlt (zhd (ztl g6)) hbb
  have ty1 : zft ci j = .int := ztc0 ht
  refine va_put (C := CN) (T := T) (N := n) (ci := ci) (index := index) (ref := (T j).1) (ty := zft ci j) (v := zv ad (.int x)) hx hb hts c3 (zft ci) c4 c5 hown hK hP hD hS b (by rw [zW_get hbN, zE_obj hk]) c1 j hj (hts _ hlk2) (fun _ h => h) hfi  (c4 j hj) (by rw [ty1]; rfl) (by rw [ty1]; rfl) (by rw [zobj_len]; omega) hd (fun H1 locs1 hP1 hD1 hS1 => ?_)
  rw [zW_set (cA := cA) (ad := ad) (kd := kd) (iv := iv) (rf := rf) (lw := lw) (iv' := zu iv b j x) (rf' := rf) (lw' := lw) (by
    rw [zE_obj hk]
    exact congrArg (fun o => Sum.inr (ci, o)) (zobj_set (by rw [zu_s, ty1]; show Value.int (upd (iv b) j x j) = _; rw [pk_us]; rfl) (fun i hi => by rw [zu_s]; exact ⟨pk_un hi, rfl, rfl⟩)).symm) (fun j2 hj2 => ⟨zu_n _ _ _ hj2, rfl, rfl⟩)] at hP1 hD1
  exact k ad locs1 H1 ls g1 g2 g3 g4 g5 (ztl (ztl g6)) hP1 hD1 hS1 hl

theorem z_putIF {index ci j b : Nat} {x : Int32} (C : zC X cc nL own ret nm lvl MC MS) (hd : zd cc pc (.putfield index) 3 pc') (hf : zFl own index ci j 0 true) (ho : (zcl[ci]?).map (fun q => q.1) = some own) (hni : nm = "<init>") (hk : kd b = (ci + 4, 0)) (hbb : b < 1000) (k : zJ X N0 nL pc' lv st N kd (zu iv b j x) rf lw cells slots) : zJ X N0 nL pc lv (.int x :: .ref b :: st) N kd iv rf lw cells slots := by
  obtain ⟨p, l, e, R, s, m, args, below, meth, c, D, cA, A, ad0, Q⟩ := X
  obtain ⟨hx, hb, hml, hown, hts, hK, hA, hR, hZ, hr, hlk, hnm⟩ := C
  intro ad locs H ls g1 g2 g3 g4 g5 g6 hP hD hS hl
  obtain ⟨hd, rfl⟩ := hd
  obtain ⟨CN, T, n, ⟨c1, c2, c3, c4, c5, c6, c7⟩, hlk2, hj, ht, hfi, hde⟩ := hf
  have hbN := zlt (zhd (ztl g6)) hbb
  have ty1 : zft ci j = .int := ztc0 ht
  refine va_putF (C := CN) (T := T) (N := n) (ci := ci) (index := index) (ref := (T j).1) (ty := zft ci j) (v := zv ad (.int x)) hx hb hts c3 (zft ci) c4 c5 hown hK hP hD hS b (by rw [zW_get hbN, zE_obj hk]) c1 j hj (hts _ hlk2) (fun _ h => h) hfi (by rw [hnm]; exact hni) (by rw [c1] at ho; rw [hde]; exact Option.some.inj ho) (c4 j hj) (by rw [ty1]; rfl) (by rw [ty1]; rfl) (by rw [zobj_len]; omega) hd (fun H1 locs1 hP1 hD1 hS1 => ?_)
  rw [zW_set (cA := cA) (ad := ad) (kd := kd) (iv := iv) (rf := rf) (lw := lw) (iv' := zu iv b j x) (rf' := rf) (lw' := lw) (by
    rw [zE_obj hk]
    exact congrArg (fun o => Sum.inr (ci, o)) (zobj_set (by rw [zu_s, ty1]; show Value.int (upd (iv b) j x j) = _; rw [pk_us]; rfl) (fun i hi => by rw [zu_s]; exact ⟨pk_un hi, rfl, rfl⟩)).symm) (fun j2 hj2 => ⟨zu_n _ _ _ hj2, rfl, rfl⟩)] at hP1 hD1
  exact k ad locs1 H1 ls g1 g2 g3 g4 g5 (ztl (ztl g6)) hP1 hD1 hS1 hl

theorem z_putL {index ci j b : Nat} {x : Int64} (C : zC X cc nL own ret nm lvl MC MS) (hd : zd cc pc (.putfield index) 3 pc') (hf : zFl own index ci j 1 false) (hk : kd b = (ci + 4, 0)) (hbb : b < 1000) (k : zJ X N0 nL pc' lv st N kd iv rf (zuL lw b j x) cells slots) : zJ X N0 nL pc lv (.long x :: .ref b :: st) N kd iv rf lw cells slots := by
  obtain ⟨p, l, e, R, s, m, args, below, meth, c, D, cA, A, ad0, Q⟩ := X
  obtain ⟨hx, hb, hml, hown, hts, hK, hA, hR, hZ, hr, hlk, hnm⟩ := C
  intro ad locs H ls g1 g2 g3 g4 g5 g6 hP hD hS hl
  obtain ⟨hd, rfl⟩ := hd
  obtain ⟨CN, T, n, ⟨c1, c2, c3, c4, c5, c6, c7⟩, hlk2, hj, ht, hfi, hde⟩ := hf
  have hbN := zlt (zhd (ztl g6)) hbb
  have ty1 : zft ci j = .long := ztc1 ht
  refine va_put (C := CN) (T := T) (N := n) (ci := ci) (index := index) (ref := (T j).1) (ty := zft ci j) (v := zv ad (.long x)) hx hb hts c3 (zft ci) c4 c5 hown hK hP hD hS b (by rw [zW_get hbN, zE_obj hk]) c1 j hj (hts _ hlk2) (fun _ h => h) hfi  (c4 j hj) (by rw [ty1]; rfl) (by rw [ty1]; rfl) (by rw [zobj_len]; omega) hd (fun H1 locs1 hP1 hD1 hS1 => ?_)
  rw [zW_set (cA := cA) (ad := ad) (kd := kd) (iv := iv) (rf := rf) (lw := lw) (iv' := iv) (rf' := rf) (lw' := zuL lw b j x) (by
    rw [zE_obj hk]
    exact congrArg (fun o => Sum.inr (ci, o)) (zobj_set (by rw [zuL_s, ty1]; show Value.long (vp_updL (lw b) j x j) = _; rw [pk_uLs]; rfl) (fun i hi => by rw [zuL_s]; exact ⟨rfl, rfl, pk_uLn hi⟩)).symm) (fun j2 hj2 => ⟨rfl, rfl, zuL_n _ _ _ hj2⟩)] at hP1 hD1
  exact k ad locs1 H1 ls g1 g2 g3 g4 g5 (ztl (ztl g6)) hP1 hD1 hS1 hl

theorem znr {t : FieldType} {a : Nat} (h : ztc t = 2) : narrow t (.ref a) = .ref a := by
  cases t <;> first | rfl | (simp [ztc] at h)
theorem zfr {t : FieldType} {a : Nat} (h : ztc t = 2) : fits t (.ref a) = true := by
  cases t <;> first | rfl | (simp [ztc] at h)
theorem z_putRF {index ci j b : Nat} {x : Nat} (C : zC X cc nL own ret nm lvl MC MS) (hd : zd cc pc (.putfield index) 3 pc') (hf : zFl own index ci j 2 true) (ho : (zcl[ci]?).map (fun q => q.1) = some own) (hni : nm = "<init>") (hxx : x < 1000) (hk : kd b = (ci + 4, 0)) (hbb : b < 1000) (k : zJ X N0 nL pc' lv st N kd iv (zuR rf b j (some x)) lw cells slots) : zJ X N0 nL pc lv (.ref x :: .ref b :: st) N kd iv rf lw cells slots := by
  obtain ⟨p, l, e, R, s, m, args, below, meth, c, D, cA, A, ad0, Q⟩ := X
  obtain ⟨hx, hb, hml, hown, hts, hK, hA, hR, hZ, hr, hlk, hnm⟩ := C
  intro ad locs H ls g1 g2 g3 g4 g5 g6 hP hD hS hl
  obtain ⟨hd, rfl⟩ := hd
  obtain ⟨CN, T, n, ⟨c1, c2, c3, c4, c5, c6, c7⟩, hlk2, hj, ht, hfi, hde⟩ := hf
  have hbN := zlt (zhd (ztl g6)) hbb
  refine va_putF (C := CN) (T := T) (N := n) (ci := ci) (index := index) (ref := (T j).1) (ty := zft ci j) (v := zv ad (.ref x)) hx hb hts c3 (zft ci) c4 c5 hown hK hP hD hS b (by rw [zW_get hbN, zE_obj hk]) c1 j hj (hts _ hlk2) (fun _ h => h) hfi (by rw [hnm]; exact hni) (by rw [c1] at ho; rw [hde]; exact Option.some.inj ho) (c4 j hj) (znr ht) (zfr ht) (by rw [zobj_len]; omega) hd (fun H1 locs1 hP1 hD1 hS1 => ?_)
  rw [zW_set (cA := cA) (ad := ad) (kd := kd) (iv := iv) (rf := rf) (lw := lw) (iv' := iv) (rf' := zuR rf b j (some x)) (lw' := lw) (by
    rw [zE_obj hk]
    exact congrArg (fun o => Sum.inr (ci, o)) (zobj_set (by rw [zfv_r ht, zuR_s]; show va_rf (Option.map ad (va_up (rf b) j (some x) j)) = _; rw [show va_up (rf b) j (some x) j = some x from if_pos rfl]; rfl) (fun i hi => by rw [zuR_s]; exact ⟨rfl, if_neg hi, rfl⟩)).symm) (fun j2 hj2 => ⟨rfl, zuR_n _ _ _ hj2, rfl⟩)] at hP1 hD1
  exact k ad locs1 H1 ls g1 (g2.put (zlt (zhd g6) hxx)) g3 g4 g5 (ztl (ztl g6)) hP1 hD1 hS1 hl

theorem z_iald {n b : Nat} {i : Int32} (C : zC X cc nL own ret nm lvl MC MS) (hd : zd cc pc .iaload 1 pc') (hk : kd b = (0, n)) (hbb : b < 1000) (hi : vp_in i n) (k : zJ X N0 nL pc' lv (.int (iv b i.toNatClampNeg) :: st) N kd iv rf lw cells slots) : zJ X N0 nL pc lv (.int i :: .ref b :: st) N kd iv rf lw cells slots := by
  obtain ⟨p, l, e, R, s, m, args, below, meth, c, D, cA, A, ad0, Q⟩ := X
  obtain ⟨hx, hb, hml, hown, hts, hK, hA, hR, hZ, hr, hlk, hnm⟩ := C
  intro ad locs H ls g1 g2 g3 g4 g5 g6 hP hD hS hl
  obtain ⟨hd, rfl⟩ := hd
  have hbN := zlt (zhd (ztl g6)) hbb
  exact va_iald hx hb hK hP b 0 (n := n) (f := iv b) (by rw [zW_get hbN, hk]; rfl) rfl hi hd (k ad locs H ls g1 g2 g3 g4 g5 (zst1 (ztl (ztl g6)) trivial) hP hD hS hl)

theorem z_bald {n b : Nat} {i : Int32} (C : zC X cc nL own ret nm lvl MC MS) (hd : zd cc pc .baload 1 pc') (hk : kd b = (1, n)) (hbb : b < 1000) (hi : vp_in i n) (k : zJ X N0 nL pc' lv (.int (iv b i.toNatClampNeg) :: st) N kd iv rf lw cells slots) : zJ X N0 nL pc lv (.int i :: .ref b :: st) N kd iv rf lw cells slots := by
  obtain ⟨p, l, e, R, s, m, args, below, meth, c, D, cA, A, ad0, Q⟩ := X
  obtain ⟨hx, hb, hml, hown, hts, hK, hA, hR, hZ, hr, hlk, hnm⟩ := C
  intro ad locs H ls g1 g2 g3 g4 g5 g6 hP hD hS hl
  obtain ⟨hd, rfl⟩ := hd
  have hbN := zlt (zhd (ztl g6)) hbb
  exact va_bald hx hb hK hP b 1 (n := n) (f := iv b) (by rw [zW_get hbN, hk]; rfl) rfl hi hd (k ad locs H ls g1 g2 g3 g4 g5 (zst1 (ztl (ztl g6)) trivial) hP hD hS hl)

theorem z_zald {n b : Nat} {i : Int32} (C : zC X cc nL own ret nm lvl MC MS) (hd : zd cc pc .baload 1 pc') (hk : kd b = (2, n)) (hbb : b < 1000) (hi : vp_in i n) (k : zJ X N0 nL pc' lv (.int (iv b i.toNatClampNeg) :: st) N kd iv rf lw cells slots) : zJ X N0 nL pc lv (.int i :: .ref b :: st) N kd iv rf lw cells slots := by
  obtain ⟨p, l, e, R, s, m, args, below, meth, c, D, cA, A, ad0, Q⟩ := X
  obtain ⟨hx, hb, hml, hown, hts, hK, hA, hR, hZ, hr, hlk, hnm⟩ := C
  intro ad locs H ls g1 g2 g3 g4 g5 g6 hP hD hS hl
  obtain ⟨hd, rfl⟩ := hd
  have hbN := zlt (zhd (ztl g6)) hbb
  exact va_zald hx hb hK hP b 2 (n := n) (f := iv b) (by rw [zW_get hbN, hk]; rfl) rfl hi hd (k ad locs H ls g1 g2 g3 g4 g5 (zst1 (ztl (ztl g6)) trivial) hP hD hS hl)

theorem z_iast {n b : Nat} {i x : Int32} (C : zC X cc nL own ret nm lvl MC MS) (hd : zd cc pc .iastore 1 pc') (hk : kd b = (0, n)) (hbb : b < 1000) (hi : vp_in i n) (k : zJ X N0 nL pc' lv st N kd (zu iv b i.toNatClampNeg x) rf lw cells slots) : zJ X N0 nL pc lv (.int x :: .int i :: .ref b :: st) N kd iv rf lw cells slots := by
  obtain ⟨p, l, e, R, s, m, args, below, meth, c, D, cA, A, ad0, Q⟩ := X
  obtain ⟨hx, hb, hml, hown, hts, hK, hA, hR, hZ, hr, hlk, hnm⟩ := C
  intro ad locs H ls g1 g2 g3 g4 g5 g6 hP hD hS hl
  obtain ⟨hd, rfl⟩ := hd
  have hbN := zlt (zhd (ztl (ztl g6))) hbb
  refine va_iast hx hb hK hP hD hS b 0 (n := n) (f := iv b) (by rw [zW_get hbN, hk]; rfl) rfl hi hd (fun H1 locs1 hP1 hD1 hS1 => ?_)
  rw [zW_set (cA := cA) (ad := ad) (kd := kd) (iv := iv) (rf := rf) (lw := lw) (iv' := zu iv b i.toNatClampNeg x) (rf' := rf) (lw' := lw) (by rw [hk, zu_s]; rfl) (fun j2 hj2 => ⟨zu_n _ _ _ hj2, rfl, rfl⟩)] at hP1 hD1
  exact k ad locs1 H1 ls g1 g2 g3 g4 g5 (ztl (ztl (ztl g6))) hP1 hD1 hS1 hl

theorem z_bast {n b : Nat} {i x : Int32} (C : zC X cc nL own ret nm lvl MC MS) (hd : zd cc pc .bastore 1 pc') (hk : kd b = (1, n)) (hbb : b < 1000) (hi : vp_in i n) (k : zJ X N0 nL pc' lv st N kd (zu iv b i.toNatClampNeg (vp_nar .byte x)) rf lw cells slots) : zJ X N0 nL pc lv (.int x :: .int i :: .ref b :: st) N kd iv rf lw cells slots := by
  obtain ⟨p, l, e, R, s, m, args, below, meth, c, D, cA, A, ad0, Q⟩ := X
  obtain ⟨hx, hb, hml, hown, hts, hK, hA, hR, hZ, hr, hlk, hnm⟩ := C
  intro ad locs H ls g1 g2 g3 g4 g5 g6 hP hD hS hl
  obtain ⟨hd, rfl⟩ := hd
  have hbN := zlt (zhd (ztl (ztl g6))) hbb
  refine va_bast hx hb hK hP hD hS b 1 (n := n) (f := iv b) (by rw [zW_get hbN, hk]; rfl) rfl hi hd (fun H1 locs1 hP1 hD1 hS1 => ?_)
  rw [zW_set (cA := cA) (ad := ad) (kd := kd) (iv := iv) (rf := rf) (lw := lw) (iv' := zu iv b i.toNatClampNeg (vp_nar .byte x)) (rf' := rf) (lw' := lw) (by rw [hk, zu_s]; rfl) (fun j2 hj2 => ⟨zu_n _ _ _ hj2, rfl, rfl⟩)] at hP1 hD1
  exact k ad locs1 H1 ls g1 g2 g3 g4 g5 (ztl (ztl (ztl g6))) hP1 hD1 hS1 hl

theorem z_zast {n b : Nat} {i x : Int32} (C : zC X cc nL own ret nm lvl MC MS) (hd : zd cc pc .bastore 1 pc') (hk : kd b = (2, n)) (hbb : b < 1000) (hi : vp_in i n) (k : zJ X N0 nL pc' lv st N kd (zu iv b i.toNatClampNeg (vp_nar .boolean x)) rf lw cells slots) : zJ X N0 nL pc lv (.int x :: .int i :: .ref b :: st) N kd iv rf lw cells slots := by
  obtain ⟨p, l, e, R, s, m, args, below, meth, c, D, cA, A, ad0, Q⟩ := X
  obtain ⟨hx, hb, hml, hown, hts, hK, hA, hR, hZ, hr, hlk, hnm⟩ := C
  intro ad locs H ls g1 g2 g3 g4 g5 g6 hP hD hS hl
  obtain ⟨hd, rfl⟩ := hd
  have hbN := zlt (zhd (ztl (ztl g6))) hbb
  refine va_zast hx hb hK hP hD hS b 2 (n := n) (f := iv b) (by rw [zW_get hbN, hk]; rfl) rfl hi hd (fun H1 locs1 hP1 hD1 hS1 => ?_)
  rw [zW_set (cA := cA) (ad := ad) (kd := kd) (iv := iv) (rf := rf) (lw := lw) (iv' := zu iv b i.toNatClampNeg (vp_nar .boolean x)) (rf' := rf) (lw' := lw) (by rw [hk, zu_s]; rfl) (fun j2 hj2 => ⟨zu_n _ _ _ hj2, rfl, rfl⟩)] at hP1 hD1
  exact k ad locs1 H1 ls g1 g2 g3 g4 g5 (ztl (ztl (ztl g6))) hP1 hD1 hS1 hl

theorem z_alenI {n b : Nat} {v : Int32} (C : zC X cc nL own ret nm lvl MC MS) (hd : zd cc pc .arraylength 1 pc') (hk : kd b = (0, n)) (hbb : b < 1000) (hv : Int32.ofNat n = v) (k : zJ X N0 nL pc' lv (.int v :: st) N kd iv rf lw cells slots) : zJ X N0 nL pc lv (.ref b :: st) N kd iv rf lw cells slots := by
  obtain ⟨p, l, e, R, s, m, args, below, meth, c, D, cA, A, ad0, Q⟩ := X
  obtain ⟨hx, hb, hml, hown, hts, hK, hA, hR, hZ, hr, hlk, hnm⟩ := C
  intro ad locs H ls g1 g2 g3 g4 g5 g6 hP hD hS hl
  obtain ⟨hd, rfl⟩ := hd
  have hbN := zlt (zhd g6) hbb
  exact va_alen hx hb hK hP b 0 (x := (n, .inl (iv b))) (by rw [zW_get hbN, hk]; rfl) rfl hv hd (k ad locs H ls g1 g2 g3 g4 g5 (zst1 (ztl g6) trivial) hP hD hS hl)

theorem z_alenB {n b : Nat} {v : Int32} (C : zC X cc nL own ret nm lvl MC MS) (hd : zd cc pc .arraylength 1 pc') (hk : kd b = (1, n)) (hbb : b < 1000) (hv : Int32.ofNat n = v) (k : zJ X N0 nL pc' lv (.int v :: st) N kd iv rf lw cells slots) : zJ X N0 nL pc lv (.ref b :: st) N kd iv rf lw cells slots := by
  obtain ⟨p, l, e, R, s, m, args, below, meth, c, D, cA, A, ad0, Q⟩ := X
  obtain ⟨hx, hb, hml, hown, hts, hK, hA, hR, hZ, hr, hlk, hnm⟩ := C
  intro ad locs H ls g1 g2 g3 g4 g5 g6 hP hD hS hl
  obtain ⟨hd, rfl⟩ := hd
  have hbN := zlt (zhd g6) hbb
  exact va_alen hx hb hK hP b 1 (x := (n, .inl (iv b))) (by rw [zW_get hbN, hk]; rfl) rfl hv hd (k ad locs H ls g1 g2 g3 g4 g5 (zst1 (ztl g6) trivial) hP hD hS hl)

theorem z_aald {n b : Nat} {i : Int32} (C : zC X cc nL own ret nm lvl MC MS) (hd : zd cc pc .aaload 1 pc') (hk : kd b = (3, n)) (hbb : b < 1000) (hi : vp_in i n) (k : zJ X N0 nL pc' lv (va_rf (rf b i.toNatClampNeg) :: st) N kd iv rf lw cells slots) : zJ X N0 nL pc lv (.int i :: .ref b :: st) N kd iv rf lw cells slots := by
  obtain ⟨p, l, e, R, s, m, args, below, meth, c, D, cA, A, ad0, Q⟩ := X
  obtain ⟨hx, hb, hml, hown, hts, hK, hA, hR, hZ, hr, hlk, hnm⟩ := C
  intro ad locs H ls g1 g2 g3 g4 g5 g6 hP hD hS hl
  obtain ⟨hd, rfl⟩ := hd
  have hbN := zlt (zhd (ztl g6)) hbb
  refine va_aldq hx hb hK hP b 3 (n := n) (f := fun j => (rf b j).map ad) (by rw [zW_get hbN, hk]; rfl) rfl hi hd ?_
  rw [← zv_rf]
  exact k ad locs H ls g1 g2 g3 g4 g5 (zst1 (ztl (ztl g6)) (zrok g2 b _)) hP hD hS hl

theorem z_aast {n b x : Nat} {i : Int32} (C : zC X cc nL own ret nm lvl MC MS) (hd : zd cc pc .aastore 1 pc') (hk : kd b = (3, n)) (hbb : b < 1000) (hkx : kd x = (0 + 4, 0)) (hxx : x < 1000) (hi : vp_in i n) (k : zJ X N0 nL pc' lv st N kd iv (zuR rf b i.toNatClampNeg (some x)) lw cells slots) : zJ X N0 nL pc lv (.ref x :: .int i :: .ref b :: st) N kd iv rf lw cells slots := by
  obtain ⟨p, l, e, R, s, m, args, below, meth, c, D, cA, A, ad0, Q⟩ := X
  obtain ⟨hx, hb, hml, hown, hts, hK, hA, hR, hZ, hr, hlk, hnm⟩ := C
  intro ad locs H ls g1 g2 g3 g4 g5 g6 hP hD hS hl
  obtain ⟨hd, rfl⟩ := hd
  have hbN := zlt (zhd (ztl (ztl g6))) hbb
  have hxN := zlt (zhd g6) hxx
  refine va_astq hx hb hK hP hD hS b 3 x 0 (r := (RX0, TX0, 15)) (n := n) (f := fun j => (rf b j).map ad) (by rw [zW_get hbN, hk]; rfl) rfl (by rw [zW_get hxN, zE_obj hkx]) rfl hi hd (fun H1 locs1 hP1 hD1 hS1 => ?_)
  rw [zW_set (cA := cA) (ad := ad) (kd := kd) (iv := iv) (rf := rf) (lw := lw) (iv' := iv) (rf' := zuR rf b i.toNatClampNeg (some x)) (lw' := lw) (by
    rw [hk, zuR_s]
    have e9 : (fun j => Option.map ad (va_up (rf b) i.toNatClampNeg (some x) j)) = va_up (fun j => Option.map ad (rf b j)) i.toNatClampNeg (some (ad x)) := by
      funext j
      unfold va_up
      by_cases hj : j = i.toNatClampNeg
      · rw [if_pos hj, if_pos hj]; rfl
      · rw [if_neg hj, if_neg hj]
    show Sum.inl (cA 3, n, Sum.inr (Sum.inr (Sum.inr (Sum.inr _)))) = _
    rw [e9]) (fun j2 hj2 => ⟨rfl, zuR_n _ _ _ hj2, rfl⟩)] at hP1 hD1
  exact k ad locs1 H1 ls g1 (g2.put hxN) g3 g4 g5 (ztl (ztl (ztl g6))) hP1 hD1 hS1 hl

theorem z_new {index ci n : Nat} {CN : String} {T : u_T} (C : zC X cc nL own ret nm lvl MC MS) (hd : zd cc pc (.new index) 3 pc') (hcl : Cond.classLink own index CN ∈ zw) (hc : zCl ci CN T n) (hall : ∀ j, j < n → ztc (zft ci j) < 3) (hc1 : cells + 1 ≤ MC) (hs1 : slots + n ≤ MS) (hN : N < 1000) (k : zJ X N0 nL pc' lv (.ref N :: st) (N + 1) (va_up kd N (ci + 4, 0)) (va_up iv N (fun _ => 0)) (va_up rf N (fun _ => none)) (va_up lw N (fun _ => 0)) (cells + 1) (slots + n)) : zJ X N0 nL pc lv st N kd iv rf lw cells slots := by
  obtain ⟨p, l, e, R, s, m, args, below, meth, c, D, cA, A, ad0, Q⟩ := X
  obtain ⟨hx, hb, hml, hown, hts, hK, hA, hR, hZ, hr, hlk, hnm⟩ := C
  intro ad locs H ls g1 g2 g3 g4 g5 g6 hP hD hS hl
  obtain ⟨hd, rfl⟩ := hd
  obtain ⟨c1, c2, c3, c4, c5, c6, c7⟩ := hc
  obtain ⟨r1, r2, r3, r4⟩ := hR
  have hup : ∀ (q : Nat) (k : Nat), k < N ∨ 1000 ≤ k → va_up ad N q k = ad k := fun q k h => if_neg (by omega)
  refine va_new (C := CN) (T := T) (N := n) (ci := ci) (index := index) (fs := zobj ad ci (fun _ => 0) (fun _ => none) (fun _ => 0)) hx hb hts c3 (zft ci) c4 hown (hts _ hcl) (hts _ c6) (hts _ c7) hK hP hD hS hA c1 ?_ (by omega) (by omega) hd (fun q H1 hP1 hD1 hS1 => ?_)
  · intro j hj
    unfold vp_V
    rw [List.getD_eq_getElem?_getD, zobj_get (by omega)]
    have h9 := hall j hj
    cases hz : zft ci j <;> first | rfl | (rw [hz] at h9; exact absurd h9 (by decide)) | (rw [hz] at h9; simp [ztc] at h9)
  rw [← zW_push (kd := kd) (t := (ci + 4, 0)) g2 (e := .inr (ci, zobj ad ci (fun _ => 0) (fun _ => none) (fun _ => 0))) (by rw [zE_obj rfl, show zobj (va_up ad N q) ci (fun _ => 0) (fun _ => none) (fun _ => 0) = zobj ad ci (fun _ => 0) (fun _ => none) (fun _ => 0) from List.map_congr_left (fun j _ => zfv_ad (fun k h => by cases h))])] at hP1 hD1
  have hup0 := hup q
  have hst2 : (st.map (zv (va_up ad N q))) = st.map (zv ad) := zvs_ad g6 hup0
  have hlast : va_up ad N q N = q := if_pos rfl
  have kk := k (va_up ad N q) locs H1 ls (fun k hk => by rw [hup0 k (by omega)]; exact g1 k hk) g2.push (by omega) (by omega) (fun i v hv => (g5 i v hv).mono (by omega)) (zst1 (fun v hv => (g6 v hv).mono (by omega)) (show zvok (N + 1) (.ref N) from Or.inl (Nat.lt_succ_self N))) hP1 hD1 hS1 (hl.ad g5 hup0)
  simp only [List.map_cons] at kk
  rw [hst2, show zv (va_up ad N q) (.ref N) = .ref q by show Value.ref (va_up ad N q N) = _; rw [hlast]] at kk
  exact kk

theorem z_newI {n : Nat} {v : Int32} (C : zC X cc nL own ret nm lvl MC MS) (hd : zd cc pc (.newarray .int) 2 pc') (hv0 : ¬ v < 0) (hv : v.toNatClampNeg = n) (hn : n ≤ 1000) (hc1 : cells + 1 ≤ MC) (hs1 : slots + n ≤ MS) (hN : N < 1000) (k : zJ X N0 nL pc' lv (.ref N :: st) (N + 1) (va_up kd N (0, n)) (va_up iv N (fun _ => 0)) (va_up rf N (fun _ => none)) (va_up lw N (fun _ => 0)) (cells + 1) (slots + n)) : zJ X N0 nL pc lv (.int v :: st) N kd iv rf lw cells slots := by
  obtain ⟨p, l, e, R, s, m, args, below, meth, c, D, cA, A, ad0, Q⟩ := X
  obtain ⟨hx, hb, hml, hown, hts, hK, hA, hR, hZ, hr, hlk, hnm⟩ := C
  intro ad locs H ls g1 g2 g3 g4 g5 g6 hP hD hS hl
  obtain ⟨hd, rfl⟩ := hd
  obtain ⟨r1, r2, r3, r4⟩ := hR
  have hup : ∀ (q : Nat) (k : Nat), k < N ∨ 1000 ≤ k → va_up ad N q k = ad k := fun q k h => if_neg (by omega)
  refine va_newa (atype := .int) (a0 := (n, .inl (fun _ => 0))) (ty := .int) hx hb (hts _ za_int) rfl hK hP hD hS hA (fun _ => rfl) hv0 hv (zcb hn (by decide)) (by omega) (by omega) hd (fun q cA9 H1 hK1 hP1 hD1 hS1 => ?_)
  have hcA : cA9 = cA 0 := by
    have a1 : va_RA s cA9 .int := (hK1.2 4 (cA9, .int) rfl).2
    have a2 : va_RA s (cA 0) .int := (hK.2 0 (cA 0, .int) rfl).2
    exact Option.some.inj (a1.symm.trans a2)
  subst hcA
  rw [← zW_push (kd := kd) (t := (0, n)) (x := fun _ => 0) (r := fun _ => none) (w := fun _ => 0) (e := .inl (cA 0, n, .inl (fun _ => 0))) g2 rfl] at hP1 hD1
  have hup0 := hup q
  have hst2 : (st.map (zv (va_up ad N q))) = st.map (zv ad) := zvs_ad (ztl g6) hup0
  have hlast : va_up ad N q N = q := if_pos rfl
  have kk := k (va_up ad N q) locs H1 ls (fun k hk => by rw [hup0 k (by omega)]; exact g1 k hk) g2.push (by omega) (by omega) (fun i v hv => (g5 i v hv).mono (by omega)) (zst1 (fun v hv => ((ztl g6) v hv).mono (by omega)) (show zvok (N + 1) (.ref N) from Or.inl (Nat.lt_succ_self N))) hP1 hD1 hS1 (hl.ad g5 hup0)
  simp only [List.map_cons] at kk
  rw [hst2, show zv (va_up ad N q) (.ref N) = .ref q by show Value.ref (va_up ad N q N) = _; rw [hlast]] at kk
  exact kk

theorem z_newB {n : Nat} {v : Int32} (C : zC X cc nL own ret nm lvl MC MS) (hd : zd cc pc (.newarray .byte) 2 pc') (hv0 : ¬ v < 0) (hv : v.toNatClampNeg = n) (hn : n ≤ 1000) (hc1 : cells + 1 ≤ MC) (hs1 : slots + n ≤ MS) (hN : N < 1000) (k : zJ X N0 nL pc' lv (.ref N :: st) (N + 1) (va_up kd N (1, n)) (va_up iv N (fun _ => 0)) (va_up rf N (fun _ => none)) (va_up lw N (fun _ => 0)) (cells + 1) (slots + n)) : zJ X N0 nL pc lv (.int v :: st) N kd iv rf lw cells slots := by
  obtain ⟨p, l, e, R, s, m, args, below, meth, c, D, cA, A, ad0, Q⟩ := X
  obtain ⟨hx, hb, hml, hown, hts, hK, hA, hR, hZ, hr, hlk, hnm⟩ := C
  intro ad locs H ls g1 g2 g3 g4 g5 g6 hP hD hS hl
  obtain ⟨hd, rfl⟩ := hd
  obtain ⟨r1, r2, r3, r4⟩ := hR
  have hup : ∀ (q : Nat) (k : Nat), k < N ∨ 1000 ≤ k → va_up ad N q k = ad k := fun q k h => if_neg (by omega)
  refine va_newa (atype := .byte) (a0 := (n, .inl (fun _ => 0))) (ty := .byte) hx hb (hts _ za_byte) rfl hK hP hD hS hA (fun _ => rfl) hv0 hv (zcb hn (by decide)) (by omega) (by omega) hd (fun q cA9 H1 hK1 hP1 hD1 hS1 => ?_)
  have hcA : cA9 = cA 1 := by
    have a1 : va_RA s cA9 .byte := (hK1.2 4 (cA9, .byte) rfl).2
    have a2 : va_RA s (cA 1) .byte := (hK.2 1 (cA 1, .byte) rfl).2
    exact Option.some.inj (a1.symm.trans a2)
  subst hcA
  rw [← zW_push (kd := kd) (t := (1, n)) (x := fun _ => 0) (r := fun _ => none) (w := fun _ => 0) (e := .inl (cA 1, n, .inl (fun _ => 0))) g2 rfl] at hP1 hD1
  have hup0 := hup q
  have hst2 : (st.map (zv (va_up ad N q))) = st.map (zv ad) := zvs_ad (ztl g6) hup0
  have hlast : va_up ad N q N = q := if_pos rfl
  have kk := k (va_up ad N q) locs H1 ls (fun k hk => by rw [hup0 k (by omega)]; exact g1 k hk) g2.push (by omega) (by omega) (fun i v hv => (g5 i v hv).mono (by omega)) (zst1 (fun v hv => ((ztl g6) v hv).mono (by omega)) (show zvok (N + 1) (.ref N) from Or.inl (Nat.lt_succ_self N))) hP1 hD1 hS1 (hl.ad g5 hup0)
  simp only [List.map_cons] at kk
  rw [hst2, show zv (va_up ad N q) (.ref N) = .ref q by show Value.ref (va_up ad N q N) = _; rw [hlast]] at kk
  exact kk

theorem z_newZ {n : Nat} {v : Int32} (C : zC X cc nL own ret nm lvl MC MS) (hd : zd cc pc (.newarray .boolean) 2 pc') (hv0 : ¬ v < 0) (hv : v.toNatClampNeg = n) (hn : n ≤ 1000) (hc1 : cells + 1 ≤ MC) (hs1 : slots + n ≤ MS) (hN : N < 1000) (k : zJ X N0 nL pc' lv (.ref N :: st) (N + 1) (va_up kd N (2, n)) (va_up iv N (fun _ => 0)) (va_up rf N (fun _ => none)) (va_up lw N (fun _ => 0)) (cells + 1) (slots + n)) : zJ X N0 nL pc lv (.int v :: st) N kd iv rf lw cells slots := by
  obtain ⟨p, l, e, R, s, m, args, below, meth, c, D, cA, A, ad0, Q⟩ := X
  obtain ⟨hx, hb, hml, hown, hts, hK, hA, hR, hZ, hr, hlk, hnm⟩ := C
  intro ad locs H ls g1 g2 g3 g4 g5 g6 hP hD hS hl
  obtain ⟨hd, rfl⟩ := hd
  obtain ⟨r1, r2, r3, r4⟩ := hR
  have hup : ∀ (q : Nat) (k : Nat), k < N ∨ 1000 ≤ k → va_up ad N q k = ad k := fun q k h => if_neg (by omega)
  refine va_newa (atype := .boolean) (a0 := (n, .inl (fun _ => 0))) (ty := .boolean) hx hb (hts _ za_boolean) rfl hK hP hD hS hA (fun _ => rfl) hv0 hv (zcb hn (by decide)) (by omega) (by omega) hd (fun q cA9 H1 hK1 hP1 hD1 hS1 => ?_)
  have hcA : cA9 = cA 2 := by
    have a1 : va_RA s cA9 .boolean := (hK1.2 4 (cA9, .boolean) rfl).2
    have a2 : va_RA s (cA 2) .boolean := (hK.2 2 (cA 2, .boolean) rfl).2
    exact Option.some.inj (a1.symm.trans a2)
  subst hcA
  rw [← zW_push (kd := kd) (t := (2, n)) (x := fun _ => 0) (r := fun _ => none) (w := fun _ => 0) (e := .inl (cA 2, n, .inl (fun _ => 0))) g2 rfl] at hP1 hD1
  have hup0 := hup q
  have hst2 : (st.map (zv (va_up ad N q))) = st.map (zv ad) := zvs_ad (ztl g6) hup0
  have hlast : va_up ad N q N = q := if_pos rfl
  have kk := k (va_up ad N q) locs H1 ls (fun k hk => by rw [hup0 k (by omega)]; exact g1 k hk) g2.push (by omega) (by omega) (fun i v hv => (g5 i v hv).mono (by omega)) (zst1 (fun v hv => ((ztl g6) v hv).mono (by omega)) (show zvok (N + 1) (.ref N) from Or.inl (Nat.lt_succ_self N))) hP1 hD1 hS1 (hl.ad g5 hup0)
  simp only [List.map_cons] at kk
  rw [hst2, show zv (va_up ad N q) (.ref N) = .ref q by show Value.ref (va_up ad N q N) = _; rw [hlast]] at kk
  exact kk

theorem z_newq {index n : Nat} {v : Int32} (C : zC X cc nL own ret nm lvl MC MS) (hd : zd cc pc (.anewarray index) 3 pc') (hcl : Cond.classLink own index RX0 ∈ zw) (hv0 : ¬ v < 0) (hv : v.toNatClampNeg = n) (hn : n ≤ 1000) (hc1 : cells + 1 ≤ MC) (hs1 : slots + n ≤ MS) (hN : N < 1000) (k : zJ X N0 nL pc' lv (.ref N :: st) (N + 1) (va_up kd N (3, n)) (va_up iv N (fun _ => 0)) (va_up rf N (fun _ => none)) (va_up lw N (fun _ => 0)) (cells + 1) (slots + n)) : zJ X N0 nL pc lv (.int v :: st) N kd iv rf lw cells slots := by
  obtain ⟨p, l, e, R, s, m, args, below, meth, c, D, cA, A, ad0, Q⟩ := X
  obtain ⟨hx, hb, hml, hown, hts, hK, hA, hR, hZ, hr, hlk, hnm⟩ := C
  intro ad locs H ls g1 g2 g3 g4 g5 g6 hP hD hS hl
  obtain ⟨hd, rfl⟩ := hd
  obtain ⟨r1, r2, r3, r4⟩ := hR
  have hup : ∀ (q : Nat) (k : Nat), k < N ∨ 1000 ≤ k → va_up ad N q k = ad k := fun q k h => if_neg (by omega)
  refine va_newq hx hb hown (hts _ hcl) hZ.2.2.2.2.2 hK hP hD hS hA hv0 hv (by omega) (by omega) (by omega) hd (fun q cA9 H1 hK1 hP1 hD1 hS1 => ?_)
  have hcA : cA9 = cA 3 := by
    obtain ⟨k1, p1, -, -, -, a1⟩ : va_RA s cA9 (.object RX0) := (hK1.2 4 (cA9, .object RX0) rfl).2
    obtain ⟨k2, p2, -, -, -, a2⟩ : va_RA s (cA 3) (.object RX0) := (hK.2 3 (cA 3, .object RX0) rfl).2
    exact Option.some.inj (a1.symm.trans a2)
  subst hcA
  rw [← zW_push (kd := kd) (t := (3, n)) (x := fun _ => 0) (r := fun _ => none) (w := fun _ => 0) (e := .inl (cA 3, n, .inr (.inr (.inr (.inr (fun _ => none)))))) g2 rfl] at hP1 hD1
  have hup0 := hup q
  have hst2 : (st.map (zv (va_up ad N q))) = st.map (zv ad) := zvs_ad (ztl g6) hup0
  have hlast : va_up ad N q N = q := if_pos rfl
  have kk := k (va_up ad N q) locs H1 ls (fun k hk => by rw [hup0 k (by omega)]; exact g1 k hk) g2.push (by omega) (by omega) (fun i v hv => (g5 i v hv).mono (by omega)) (zst1 (fun v hv => ((ztl g6) v hv).mono (by omega)) (show zvok (N + 1) (.ref N) from Or.inl (Nat.lt_succ_self N))) hP1 hD1 hS1 (hl.ad g5 hup0)
  simp only [List.map_cons] at kk
  rw [hst2, show zv (va_up ad N q) (.ref N) = .ref q by show Value.ref (va_up ad N q N) = _; rw [hlast]] at kk
  exact kk

end ZH
