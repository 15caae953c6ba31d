/-! THE JUDGEMENT: X is what stays fixed while a method runs -/
abbrev zX : Type := Program × Launch × Env × Room × State × MethodId × Array Value × List Frame × Method × Code × va_G × (Nat → ClassId) × (Nat → Prop) × (Nat → Nat) × (State → Prop)
def zC (X : zX) (cc : ByteArray) (nL : Nat) (own : String) (ret : Option FieldType) (nm : String) (lvl MC MS : Nat) : Prop := match X with
  | (p, l, e, R, s, m, args, below, meth, c, D, cA, A, ad0, Q) => p.tables.exec = Jvm.exec ∧ c.code = cc ∧ c.maxLocals = nL ∧ s.vm.findClass own = some m.cls ∧ (∀ w ∈ zw, w.before args s = true) ∧ va_K D zcl (ztys cA) s ∧ (∀ q, s.heap.size ≤ q → A q) ∧ (lvl ≤ R.frames ∧ 60 * lvl ≤ R.locals ∧ R.cells = MC ∧ R.slots = MS) ∧ zStr ad0 A s s.heap ∧ meth.sig.returnType = ret ∧ meth.locks = false ∧ meth.name = nm
def zJ (X : zX) (N0 nL pc : Nat) (lv : zLs) (st : List Value) (N : Nat) (kd : zD) (iv : zI) (rf : zF) (lw : zG) (cells slots : Nat) : Prop := match X with
  | (p, l, e, R, s, m, args, below, meth, c, D, cA, A, ad0, Q) => ∀ (ad : Nat → Nat) (locs : List Loc) (H : Heap) (ls : Array Slot), (∀ k, k < N0 ∨ 1000 ≤ k → ad k = ad0 k) → zok N rf → N0 ≤ N → N ≤ 1000 → zlok N lv → (∀ v ∈ st, zvok N v) → va_P D zcl (zW cA ad N kd iv rf lw) H → va_D A (zW cA ad N kd iv rf lw) → va_S A s.heap H locs → zlv ad ls nL lv → W p l e R s m args below meth c H locs cells slots Q (F0 m pc ls (st.map (zv ad)))
def zd (cc : ByteArray) (pc : Nat) (ins : Instr) (len pc' : Nat) : Prop := decode cc pc = .ok (ins, len) ∧ pc + len = pc'
section ZR
variable {X : zX} {cc : ByteArray} {N0 nL pc pc' : Nat} {own : String} {ret : Option FieldType} {nm : String} {lvl MC MS : Nat} {lv lv' : zLs} {st : List Value} {N : Nat} {kd : zD} {iv : zI} {rf : zF} {lw : zG} {cells slots : Nat}
theorem zst1 {N : Nat} {v : Value} {st : List Value} (h : ∀ w ∈ st, zvok N w) (hv : zvok N v) : ∀ w ∈ v :: st, zvok N w := List.forall_mem_cons.mpr ⟨hv, h⟩
theorem ztl {N : Nat} {v : Value} {st : List Value} (h : ∀ w ∈ v :: st, zvok N w) : ∀ w ∈ st, zvok N w := (List.forall_mem_cons.mp h).2
theorem zhd {N : Nat} {v : Value} {st : List Value} (h : ∀ w ∈ v :: st, zvok N w) : zvok N v := (List.forall_mem_cons.mp h).1
theorem z_iconst {n : Int} {v : Int32} (C : zC X cc nL own ret nm lvl MC MS) (hd : zd cc pc (.iconst n) 1 pc') (hv : Int32.ofInt n = v) (k : zJ X N0 nL pc' lv (.int v :: st) N kd iv rf lw cells slots) : zJ X N0 nL pc lv (st) N kd iv rf lw cells slots := by
  obtain ⟨p, l, e, R, s, m, args, below, meth, c, D, cA, A, ad0, Q⟩ := X
  obtain ⟨hx, hb, hml, hown, hts, hK, hA, hR, hZ, hr, hlk, hnm⟩ := C
  intro ad locs H ls g1 g2 g3 g4 g5 g6 hP hD hS hl
  obtain ⟨hd, rfl⟩ := hd
  exact lv_iconst hx hb hd hv (k ad locs H ls g1 g2 g3 g4 g5 (zst1 g6 trivial) hP hD hS hl)

theorem z_bipush {n : Int} {v : Int32} (C : zC X cc nL own ret nm lvl MC MS) (hd : zd cc pc (.bipush n) 2 pc') (hv : (Int8.ofInt n).toInt32 = v) (k : zJ X N0 nL pc' lv (.int v :: st) N kd iv rf lw cells slots) : zJ X N0 nL pc lv (st) N kd iv rf lw cells slots := by
  obtain ⟨p, l, e, R, s, m, args, below, meth, c, D, cA, A, ad0, Q⟩ := X
  obtain ⟨hx, hb, hml, hown, hts, hK, hA, hR, hZ, hr, hlk, hnm⟩ := C
  intro ad locs H ls g1 g2 g3 g4 g5 g6 hP hD hS hl
  obtain ⟨hd, rfl⟩ := hd
  exact lv_bipush hx hb hd hv (k ad locs H ls g1 g2 g3 g4 g5 (zst1 g6 trivial) hP hD hS hl)

theorem z_sipush {n : Int} {v : Int32} (C : zC X cc nL own ret nm lvl MC MS) (hd : zd cc pc (.sipush n) 3 pc') (hv : (Int16.ofInt n).toInt32 = v) (k : zJ X N0 nL pc' lv (.int v :: st) N kd iv rf lw cells slots) : zJ X N0 nL pc lv (st) N kd iv rf lw cells slots := by
  obtain ⟨p, l, e, R, s, m, args, below, meth, c, D, cA, A, ad0, Q⟩ := X
  obtain ⟨hx, hb, hml, hown, hts, hK, hA, hR, hZ, hr, hlk, hnm⟩ := C
  intro ad locs H ls g1 g2 g3 g4 g5 g6 hP hD hS hl
  obtain ⟨hd, rfl⟩ := hd
  exact lv_sipush hx hb hd hv (k ad locs H ls g1 g2 g3 g4 g5 (zst1 g6 trivial) hP hD hS hl)

theorem z_lconst {n : Fin 2} {v : Int64} (C : zC X cc nL own ret nm lvl MC MS) (hd : zd cc pc (.lconst n) 1 pc') (hv : Int64.ofNat (n : Nat) = v) (k : zJ X N0 nL pc' lv (.long v :: st) N kd iv rf lw cells slots) : zJ X N0 nL pc lv (st) N kd iv rf lw cells slots := by
  obtain ⟨p, l, e, R, s, m, args, below, meth, c, D, cA, A, ad0, Q⟩ := X
  obtain ⟨hx, hb, hml, hown, hts, hK, hA, hR, hZ, hr, hlk, hnm⟩ := C
  intro ad locs H ls g1 g2 g3 g4 g5 g6 hP hD hS hl
  obtain ⟨hd, rfl⟩ := hd
  exact lv_lconst hx hb hd hv (k ad locs H ls g1 g2 g3 g4 g5 (zst1 g6 trivial) hP hD hS hl)

theorem z_iadd {x y : Int32} (C : zC X cc nL own ret nm lvl MC MS) (hd : zd cc pc .iadd 1 pc')  (k : zJ X N0 nL pc' lv (.int (x + y) :: st) N kd iv rf lw cells slots) : zJ X N0 nL pc lv (.int y :: .int x :: st) N kd iv rf lw cells slots := by
  obtain ⟨p, l, e, R, s, m, args, below, meth, c, D, cA, A, ad0, Q⟩ := X
  obtain ⟨hx, hb, hml, hown, hts, hK, hA, hR, hZ, hr, hlk, hnm⟩ := C
  intro ad locs H ls g1 g2 g3 g4 g5 g6 hP hD hS hl
  obtain ⟨hd, rfl⟩ := hd
  exact lv_iadd hx hb hd (k ad locs H ls g1 g2 g3 g4 g5 (zst1 (ztl (ztl g6)) trivial) hP hD hS hl)

theorem z_isub {x y : Int32} (C : zC X cc nL own ret nm lvl MC MS) (hd : zd cc pc .isub 1 pc')  (k : zJ X N0 nL pc' lv (.int (x - y) :: st) N kd iv rf lw cells slots) : zJ X N0 nL pc lv (.int y :: .int x :: st) N kd iv rf lw cells slots := by
  obtain ⟨p, l, e, R, s, m, args, below, meth, c, D, cA, A, ad0, Q⟩ := X
  obtain ⟨hx, hb, hml, hown, hts, hK, hA, hR, hZ, hr, hlk, hnm⟩ := C
  intro ad locs H ls g1 g2 g3 g4 g5 g6 hP hD hS hl
  obtain ⟨hd, rfl⟩ := hd
  exact lv_isub hx hb hd (k ad locs H ls g1 g2 g3 g4 g5 (zst1 (ztl (ztl g6)) trivial) hP hD hS hl)

theorem z_imul {x y : Int32} (C : zC X cc nL own ret nm lvl MC MS) (hd : zd cc pc .imul 1 pc')  (k : zJ X N0 nL pc' lv (.int (x * y) :: st) N kd iv rf lw cells slots) : zJ X N0 nL pc lv (.int y :: .int x :: st) N kd iv rf lw cells slots := by
  obtain ⟨p, l, e, R, s, m, args, below, meth, c, D, cA, A, ad0, Q⟩ := X
  obtain ⟨hx, hb, hml, hown, hts, hK, hA, hR, hZ, hr, hlk, hnm⟩ := C
  intro ad locs H ls g1 g2 g3 g4 g5 g6 hP hD hS hl
  obtain ⟨hd, rfl⟩ := hd
  exact lv_imul hx hb hd (k ad locs H ls g1 g2 g3 g4 g5 (zst1 (ztl (ztl g6)) trivial) hP hD hS hl)

theorem z_iand {x y : Int32} (C : zC X cc nL own ret nm lvl MC MS) (hd : zd cc pc .iand 1 pc')  (k : zJ X N0 nL pc' lv (.int (x &&& y) :: st) N kd iv rf lw cells slots) : zJ X N0 nL pc lv (.int y :: .int x :: st) N kd iv rf lw cells slots := by
  obtain ⟨p, l, e, R, s, m, args, below, meth, c, D, cA, A, ad0, Q⟩ := X
  obtain ⟨hx, hb, hml, hown, hts, hK, hA, hR, hZ, hr, hlk, hnm⟩ := C
  intro ad locs H ls g1 g2 g3 g4 g5 g6 hP hD hS hl
  obtain ⟨hd, rfl⟩ := hd
  exact lv_iand hx hb hd (k ad locs H ls g1 g2 g3 g4 g5 (zst1 (ztl (ztl g6)) trivial) hP hD hS hl)

theorem z_idiv {x y : Int32} (C : zC X cc nL own ret nm lvl MC MS) (hd : zd cc pc .idiv 1 pc') (hne : ¬ y = 0) (k : zJ X N0 nL pc' lv (.int (x / y) :: st) N kd iv rf lw cells slots) : zJ X N0 nL pc lv (.int y :: .int x :: st) N kd iv rf lw cells slots := by
  obtain ⟨p, l, e, R, s, m, args, below, meth, c, D, cA, A, ad0, Q⟩ := X
  obtain ⟨hx, hb, hml, hown, hts, hK, hA, hR, hZ, hr, hlk, hnm⟩ := C
  intro ad locs H ls g1 g2 g3 g4 g5 g6 hP hD hS hl
  obtain ⟨hd, rfl⟩ := hd
  exact lv_idiv hx hb hd hne (k ad locs H ls g1 g2 g3 g4 g5 (zst1 (ztl (ztl g6)) trivial) hP hD hS hl)

theorem z_ishr {x y : Int32} (C : zC X cc nL own ret nm lvl MC MS) (hd : zd cc pc .ishr 1 pc')  (k : zJ X N0 nL pc' lv (.int (x >>> (y &&& 31)) :: st) N kd iv rf lw cells slots) : zJ X N0 nL pc lv (.int y :: .int x :: st) N kd iv rf lw cells slots := by
  obtain ⟨p, l, e, R, s, m, args, below, meth, c, D, cA, A, ad0, Q⟩ := X
  obtain ⟨hx, hb, hml, hown, hts, hK, hA, hR, hZ, hr, hlk, hnm⟩ := C
  intro ad locs H ls g1 g2 g3 g4 g5 g6 hP hD hS hl
  obtain ⟨hd, rfl⟩ := hd
  exact lv_ishr hx hb hd (k ad locs H ls g1 g2 g3 g4 g5 (zst1 (ztl (ztl g6)) trivial) hP hD hS hl)

theorem z_lsub {x y : Int64} (C : zC X cc nL own ret nm lvl MC MS) (hd : zd cc pc .lsub 1 pc')  (k : zJ X N0 nL pc' lv (.long (x - y) :: st) N kd iv rf lw cells slots) : zJ X N0 nL pc lv (.long y :: .long x :: st) N kd iv rf lw cells slots := by
  obtain ⟨p, l, e, R, s, m, args, below, meth, c, D, cA, A, ad0, Q⟩ := X
  obtain ⟨hx, hb, hml, hown, hts, hK, hA, hR, hZ, hr, hlk, hnm⟩ := C
  intro ad locs H ls g1 g2 g3 g4 g5 g6 hP hD hS hl
  obtain ⟨hd, rfl⟩ := hd
  exact lv_lsub hx hb hd (k ad locs H ls g1 g2 g3 g4 g5 (zst1 (ztl (ztl g6)) trivial) hP hD hS hl)

theorem z_lmul {x y : Int64} (C : zC X cc nL own ret nm lvl MC MS) (hd : zd cc pc .lmul 1 pc')  (k : zJ X N0 nL pc' lv (.long (x * y) :: st) N kd iv rf lw cells slots) : zJ X N0 nL pc lv (.long y :: .long x :: st) N kd iv rf lw cells slots := by
  obtain ⟨p, l, e, R, s, m, args, below, meth, c, D, cA, A, ad0, Q⟩ := X
  obtain ⟨hx, hb, hml, hown, hts, hK, hA, hR, hZ, hr, hlk, hnm⟩ := C
  intro ad locs H ls g1 g2 g3 g4 g5 g6 hP hD hS hl
  obtain ⟨hd, rfl⟩ := hd
  exact lv_lmul hx hb hd (k ad locs H ls g1 g2 g3 g4 g5 (zst1 (ztl (ztl g6)) trivial) hP hD hS hl)

theorem z_lor {x y : Int64} (C : zC X cc nL own ret nm lvl MC MS) (hd : zd cc pc .lor 1 pc')  (k : zJ X N0 nL pc' lv (.long (x ||| y) :: st) N kd iv rf lw cells slots) : zJ X N0 nL pc lv (.long y :: .long x :: st) N kd iv rf lw cells slots := by
  obtain ⟨p, l, e, R, s, m, args, below, meth, c, D, cA, A, ad0, Q⟩ := X
  obtain ⟨hx, hb, hml, hown, hts, hK, hA, hR, hZ, hr, hlk, hnm⟩ := C
  intro ad locs H ls g1 g2 g3 g4 g5 g6 hP hD hS hl
  obtain ⟨hd, rfl⟩ := hd
  exact lv_lor hx hb hd (k ad locs H ls g1 g2 g3 g4 g5 (zst1 (ztl (ztl g6)) trivial) hP hD hS hl)

theorem z_ldiv {x y : Int64} (C : zC X cc nL own ret nm lvl MC MS) (hd : zd cc pc .ldiv 1 pc') (hne : ¬ y = 0) (k : zJ X N0 nL pc' lv (.long (x / y) :: st) N kd iv rf lw cells slots) : zJ X N0 nL pc lv (.long y :: .long x :: st) N kd iv rf lw cells slots := by
  obtain ⟨p, l, e, R, s, m, args, below, meth, c, D, cA, A, ad0, Q⟩ := X
  obtain ⟨hx, hb, hml, hown, hts, hK, hA, hR, hZ, hr, hlk, hnm⟩ := C
  intro ad locs H ls g1 g2 g3 g4 g5 g6 hP hD hS hl
  obtain ⟨hd, rfl⟩ := hd
  exact lv_ldiv hx hb hd hne (k ad locs H ls g1 g2 g3 g4 g5 (zst1 (ztl (ztl g6)) trivial) hP hD hS hl)

theorem z_lrem {x y : Int64} (C : zC X cc nL own ret nm lvl MC MS) (hd : zd cc pc .lrem 1 pc') (hne : ¬ y = 0) (k : zJ X N0 nL pc' lv (.long (x - x / y * y) :: st) N kd iv rf lw cells slots) : zJ X N0 nL pc lv (.long y :: .long x :: st) N kd iv rf lw cells slots := by
  obtain ⟨p, l, e, R, s, m, args, below, meth, c, D, cA, A, ad0, Q⟩ := X
  obtain ⟨hx, hb, hml, hown, hts, hK, hA, hR, hZ, hr, hlk, hnm⟩ := C
  intro ad locs H ls g1 g2 g3 g4 g5 g6 hP hD hS hl
  obtain ⟨hd, rfl⟩ := hd
  exact lv_lrem hx hb hd hne (k ad locs H ls g1 g2 g3 g4 g5 (zst1 (ztl (ztl g6)) trivial) hP hD hS hl)

theorem z_lshl {x : Int64} {y : Int32} (C : zC X cc nL own ret nm lvl MC MS) (hd : zd cc pc .lshl 1 pc')  (k : zJ X N0 nL pc' lv (.long (x <<< (y.toInt64 &&& 63)) :: st) N kd iv rf lw cells slots) : zJ X N0 nL pc lv (.int y :: .long x :: st) N kd iv rf lw cells slots := by
  obtain ⟨p, l, e, R, s, m, args, below, meth, c, D, cA, A, ad0, Q⟩ := X
  obtain ⟨hx, hb, hml, hown, hts, hK, hA, hR, hZ, hr, hlk, hnm⟩ := C
  intro ad locs H ls g1 g2 g3 g4 g5 g6 hP hD hS hl
  obtain ⟨hd, rfl⟩ := hd
  exact lv_lshl hx hb hd rfl (k ad locs H ls g1 g2 g3 g4 g5 (zst1 (ztl (ztl g6)) trivial) hP hD hS hl)

theorem z_i2l {x : Int32} (C : zC X cc nL own ret nm lvl MC MS) (hd : zd cc pc .i2l 1 pc')  (k : zJ X N0 nL pc' lv (.long x.toInt64 :: st) N kd iv rf lw cells slots) : zJ X N0 nL pc lv (.int x :: st) N kd iv rf lw cells slots := by
  obtain ⟨p, l, e, R, s, m, args, below, meth, c, D, cA, A, ad0, Q⟩ := X
  obtain ⟨hx, hb, hml, hown, hts, hK, hA, hR, hZ, hr, hlk, hnm⟩ := C
  intro ad locs H ls g1 g2 g3 g4 g5 g6 hP hD hS hl
  obtain ⟨hd, rfl⟩ := hd
  exact lv_i2l hx hb hd rfl (k ad locs H ls g1 g2 g3 g4 g5 (zst1 (ztl g6) trivial) hP hD hS hl)

theorem z_l2i {x : Int64} (C : zC X cc nL own ret nm lvl MC MS) (hd : zd cc pc .l2i 1 pc')  (k : zJ X N0 nL pc' lv (.int x.toInt32 :: st) N kd iv rf lw cells slots) : zJ X N0 nL pc lv (.long x :: st) N kd iv rf lw cells slots := by
  obtain ⟨p, l, e, R, s, m, args, below, meth, c, D, cA, A, ad0, Q⟩ := X
  obtain ⟨hx, hb, hml, hown, hts, hK, hA, hR, hZ, hr, hlk, hnm⟩ := C
  intro ad locs H ls g1 g2 g3 g4 g5 g6 hP hD hS hl
  obtain ⟨hd, rfl⟩ := hd
  exact lv_l2i hx hb hd rfl (k ad locs H ls g1 g2 g3 g4 g5 (zst1 (ztl g6) trivial) hP hD hS hl)

theorem z_i2b {x : Int32} (C : zC X cc nL own ret nm lvl MC MS) (hd : zd cc pc .i2b 1 pc')  (k : zJ X N0 nL pc' lv (.int x.toInt8.toInt32 :: st) N kd iv rf lw cells slots) : zJ X N0 nL pc lv (.int x :: st) N kd iv rf lw cells slots := by
  obtain ⟨p, l, e, R, s, m, args, below, meth, c, D, cA, A, ad0, Q⟩ := X
  obtain ⟨hx, hb, hml, hown, hts, hK, hA, hR, hZ, hr, hlk, hnm⟩ := C
  intro ad locs H ls g1 g2 g3 g4 g5 g6 hP hD hS hl
  obtain ⟨hd, rfl⟩ := hd
  exact lv_i2b hx hb hd rfl (k ad locs H ls g1 g2 g3 g4 g5 (zst1 (ztl g6) trivial) hP hD hS hl)

theorem z_i2c {x : Int32} (C : zC X cc nL own ret nm lvl MC MS) (hd : zd cc pc .i2c 1 pc')  (k : zJ X N0 nL pc' lv (.int (x.toUInt32 % 65536).toInt32 :: st) N kd iv rf lw cells slots) : zJ X N0 nL pc lv (.int x :: st) N kd iv rf lw cells slots := by
  obtain ⟨p, l, e, R, s, m, args, below, meth, c, D, cA, A, ad0, Q⟩ := X
  obtain ⟨hx, hb, hml, hown, hts, hK, hA, hR, hZ, hr, hlk, hnm⟩ := C
  intro ad locs H ls g1 g2 g3 g4 g5 g6 hP hD hS hl
  obtain ⟨hd, rfl⟩ := hd
  exact lv_i2c hx hb hd rfl (k ad locs H ls g1 g2 g3 g4 g5 (zst1 (ztl g6) trivial) hP hD hS hl)

theorem z_lcmp {x y : Int64} (C : zC X cc nL own ret nm lvl MC MS) (hd : zd cc pc .lcmp 1 pc')  (k : zJ X N0 nL pc' lv (.int (lg_cmp x y) :: st) N kd iv rf lw cells slots) : zJ X N0 nL pc lv (.long y :: .long x :: st) N kd iv rf lw cells slots := by
  obtain ⟨p, l, e, R, s, m, args, below, meth, c, D, cA, A, ad0, Q⟩ := X
  obtain ⟨hx, hb, hml, hown, hts, hK, hA, hR, hZ, hr, hlk, hnm⟩ := C
  intro ad locs H ls g1 g2 g3 g4 g5 g6 hP hD hS hl
  obtain ⟨hd, rfl⟩ := hd
  exact W.lcmp hx hb hd (k ad locs H ls g1 g2 g3 g4 g5 (zst1 (ztl (ztl g6)) trivial) hP hD hS hl)

theorem z_dup {v : Value} (C : zC X cc nL own ret nm lvl MC MS) (hd : zd cc pc .dup 1 pc') (hv : v.category = 1) (k : zJ X N0 nL pc' lv (v :: v :: st) N kd iv rf lw cells slots) : zJ X N0 nL pc lv (v :: st) N kd iv rf lw cells slots := by
  obtain ⟨p, l, e, R, s, m, args, below, meth, c, D, cA, A, ad0, Q⟩ := X
  obtain ⟨hx, hb, hml, hown, hts, hK, hA, hR, hZ, hr, hlk, hnm⟩ := C
  intro ad locs H ls g1 g2 g3 g4 g5 g6 hP hD hS hl
  obtain ⟨hd, rfl⟩ := hd
  exact lv_dup hx hb hd (by rw [zv_cat]; exact hv) (k ad locs H ls g1 g2 g3 g4 g5 (zst1 g6 (zhd g6)) hP hD hS hl)

theorem z_pop {v : Value} (C : zC X cc nL own ret nm lvl MC MS) (hd : zd cc pc .pop 1 pc') (hv : v.category = 1) (k : zJ X N0 nL pc' lv (st) N kd iv rf lw cells slots) : zJ X N0 nL pc lv (v :: st) N kd iv rf lw cells slots := by
  obtain ⟨p, l, e, R, s, m, args, below, meth, c, D, cA, A, ad0, Q⟩ := X
  obtain ⟨hx, hb, hml, hown, hts, hK, hA, hR, hZ, hr, hlk, hnm⟩ := C
  intro ad locs H ls g1 g2 g3 g4 g5 g6 hP hD hS hl
  obtain ⟨hd, rfl⟩ := hd
  exact lv_pop hx hb hd (by rw [zv_cat]; exact hv) (k ad locs H ls g1 g2 g3 g4 g5 (ztl g6) hP hD hS hl)

theorem z_dup2 {v w : Value} (C : zC X cc nL own ret nm lvl MC MS) (hd : zd cc pc .dup2 1 pc') (hv : v.category = 1) (hw : w.category = 1) (k : zJ X N0 nL pc' lv (v :: w :: v :: w :: st) N kd iv rf lw cells slots) : zJ X N0 nL pc lv (v :: w :: st) N kd iv rf lw cells slots := by
  obtain ⟨p, l, e, R, s, m, args, below, meth, c, D, cA, A, ad0, Q⟩ := X
  obtain ⟨hx, hb, hml, hown, hts, hK, hA, hR, hZ, hr, hlk, hnm⟩ := C
  intro ad locs H ls g1 g2 g3 g4 g5 g6 hP hD hS hl
  obtain ⟨hd, rfl⟩ := hd
  exact lv_dup2_11 hx hb hd (by rw [zv_cat]; exact hv) (by rw [zv_cat]; exact hw) (k ad locs H ls g1 g2 g3 g4 g5 (zst1 (zst1 g6 (zhd (ztl g6))) (zhd g6)) hP hD hS hl)

theorem z_null  (C : zC X cc nL own ret nm lvl MC MS) (hd : zd cc pc .aconst_null 1 pc')  (k : zJ X N0 nL pc' lv (.null :: st) N kd iv rf lw cells slots) : zJ X N0 nL pc lv (st) N kd iv rf lw cells slots := by
  obtain ⟨p, l, e, R, s, m, args, below, meth, c, D, cA, A, ad0, Q⟩ := X
  obtain ⟨hx, hb, hml, hown, hts, hK, hA, hR, hZ, hr, hlk, hnm⟩ := C
  intro ad locs H ls g1 g2 g3 g4 g5 g6 hP hD hS hl
  obtain ⟨hd, rfl⟩ := hd
  exact lv_null hx hb hd (k ad locs H ls g1 g2 g3 g4 g5 (zst1 g6 trivial) hP hD hS hl)

theorem z_iload_n {i : Fin 4} {x : Int32} (C : zC X cc nL own ret nm lvl MC MS) (hd : zd cc pc (.iload_n i) 1 pc') (h : lv[(i : Nat)]? = some (some (.int x))) (k : zJ X N0 nL pc' lv (.int x :: st) N kd iv rf lw cells slots) : zJ X N0 nL pc lv (st) N kd iv rf lw cells slots := by
  obtain ⟨p, l, e, R, s, m, args, below, meth, c, D, cA, A, ad0, Q⟩ := X
  obtain ⟨hx, hb, hml, hown, hts, hK, hA, hR, hZ, hr, hlk, hnm⟩ := C
  intro ad locs H ls g1 g2 g3 g4 g5 g6 hP hD hS hl
  obtain ⟨hd, rfl⟩ := hd
  exact lv_iload_n hx hb hd rfl (hl.2.2 _ _ h) (k ad locs H ls g1 g2 g3 g4 g5 (zst1 g6 (g5 _ _ h)) hP hD hS hl)

theorem z_iload {i : Nat} {x : Int32} (C : zC X cc nL own ret nm lvl MC MS) (hd : zd cc pc (.iload i) 2 pc') (h : lv[i]? = some (some (.int x))) (k : zJ X N0 nL pc' lv (.int x :: st) N kd iv rf lw cells slots) : zJ X N0 nL pc lv (st) N kd iv rf lw cells slots := by
  obtain ⟨p, l, e, R, s, m, args, below, meth, c, D, cA, A, ad0, Q⟩ := X
  obtain ⟨hx, hb, hml, hown, hts, hK, hA, hR, hZ, hr, hlk, hnm⟩ := C
  intro ad locs H ls g1 g2 g3 g4 g5 g6 hP hD hS hl
  obtain ⟨hd, rfl⟩ := hd
  exact lv_iload hx hb hd (hl.2.2 _ _ h) (k ad locs H ls g1 g2 g3 g4 g5 (zst1 g6 (g5 _ _ h)) hP hD hS hl)

theorem z_lload_n {i : Fin 4} {x : Int64} (C : zC X cc nL own ret nm lvl MC MS) (hd : zd cc pc (.lload_n i) 1 pc') (h : lv[(i : Nat)]? = some (some (.long x))) (k : zJ X N0 nL pc' lv (.long x :: st) N kd iv rf lw cells slots) : zJ X N0 nL pc lv (st) N kd iv rf lw cells slots := by
  obtain ⟨p, l, e, R, s, m, args, below, meth, c, D, cA, A, ad0, Q⟩ := X
  obtain ⟨hx, hb, hml, hown, hts, hK, hA, hR, hZ, hr, hlk, hnm⟩ := C
  intro ad locs H ls g1 g2 g3 g4 g5 g6 hP hD hS hl
  obtain ⟨hd, rfl⟩ := hd
  exact lv_lload_n hx hb hd rfl (hl.2.2 _ _ h) (k ad locs H ls g1 g2 g3 g4 g5 (zst1 g6 (g5 _ _ h)) hP hD hS hl)

theorem z_lload {i : Nat} {x : Int64} (C : zC X cc nL own ret nm lvl MC MS) (hd : zd cc pc (.lload i) 2 pc') (h : lv[i]? = some (some (.long x))) (k : zJ X N0 nL pc' lv (.long x :: st) N kd iv rf lw cells slots) : zJ X N0 nL pc lv (st) N kd iv rf lw cells slots := by
  obtain ⟨p, l, e, R, s, m, args, below, meth, c, D, cA, A, ad0, Q⟩ := X
  obtain ⟨hx, hb, hml, hown, hts, hK, hA, hR, hZ, hr, hlk, hnm⟩ := C
  intro ad locs H ls g1 g2 g3 g4 g5 g6 hP hD hS hl
  obtain ⟨hd, rfl⟩ := hd
  exact lv_lload hx hb hd (hl.2.2 _ _ h) (k ad locs H ls g1 g2 g3 g4 g5 (zst1 g6 (g5 _ _ h)) hP hD hS hl)

theorem z_aload_n {i : Fin 4} {x : Nat} (C : zC X cc nL own ret nm lvl MC MS) (hd : zd cc pc (.aload_n i) 1 pc') (h : lv[(i : Nat)]? = some (some (.ref x))) (k : zJ X N0 nL pc' lv (.ref x :: st) N kd iv rf lw cells slots) : zJ X N0 nL pc lv (st) N kd iv rf lw cells slots := by
  obtain ⟨p, l, e, R, s, m, args, below, meth, c, D, cA, A, ad0, Q⟩ := X
  obtain ⟨hx, hb, hml, hown, hts, hK, hA, hR, hZ, hr, hlk, hnm⟩ := C
  intro ad locs H ls g1 g2 g3 g4 g5 g6 hP hD hS hl
  obtain ⟨hd, rfl⟩ := hd
  exact lv_aload_n hx hb hd rfl (hl.2.2 _ _ h) (k ad locs H ls g1 g2 g3 g4 g5 (zst1 g6 (g5 _ _ h)) hP hD hS hl)

theorem z_aload {i : Nat} {x : Nat} (C : zC X cc nL own ret nm lvl MC MS) (hd : zd cc pc (.aload i) 2 pc') (h : lv[i]? = some (some (.ref x))) (k : zJ X N0 nL pc' lv (.ref x :: st) N kd iv rf lw cells slots) : zJ X N0 nL pc lv (st) N kd iv rf lw cells slots := by
  obtain ⟨p, l, e, R, s, m, args, below, meth, c, D, cA, A, ad0, Q⟩ := X
  obtain ⟨hx, hb, hml, hown, hts, hK, hA, hR, hZ, hr, hlk, hnm⟩ := C
  intro ad locs H ls g1 g2 g3 g4 g5 g6 hP hD hS hl
  obtain ⟨hd, rfl⟩ := hd
  exact lv_aload hx hb hd (hl.2.2 _ _ h) (k ad locs H ls g1 g2 g3 g4 g5 (zst1 g6 (g5 _ _ h)) hP hD hS hl)

theorem z_aload_nN {i : Fin 4} (C : zC X cc nL own ret nm lvl MC MS) (hd : zd cc pc (.aload_n i) 1 pc') (h : lv[(i : Nat)]? = some (some .null)) (k : zJ X N0 nL pc' lv (.null :: st) N kd iv rf lw cells slots) : zJ X N0 nL pc lv (st) N kd iv rf lw cells slots := by
  obtain ⟨p, l, e, R, s, m, args, below, meth, c, D, cA, A, ad0, Q⟩ := X
  obtain ⟨hx, hb, hml, hown, hts, hK, hA, hR, hZ, hr, hlk, hnm⟩ := C
  intro ad locs H ls g1 g2 g3 g4 g5 g6 hP hD hS hl
  obtain ⟨hd, rfl⟩ := hd
  exact lv_aload_nN hx hb hd rfl (hl.2.2 _ _ h) (k ad locs H ls g1 g2 g3 g4 g5 (zst1 g6 trivial) hP hD hS hl)

theorem z_aloadN {i : Nat} (C : zC X cc nL own ret nm lvl MC MS) (hd : zd cc pc (.aload i) 2 pc') (h : lv[i]? = some (some .null)) (k : zJ X N0 nL pc' lv (.null :: st) N kd iv rf lw cells slots) : zJ X N0 nL pc lv (st) N kd iv rf lw cells slots := by
  obtain ⟨p, l, e, R, s, m, args, below, meth, c, D, cA, A, ad0, Q⟩ := X
  obtain ⟨hx, hb, hml, hown, hts, hK, hA, hR, hZ, hr, hlk, hnm⟩ := C
  intro ad locs H ls g1 g2 g3 g4 g5 g6 hP hD hS hl
  obtain ⟨hd, rfl⟩ := hd
  exact lv_aloadN hx hb hd (hl.2.2 _ _ h) (k ad locs H ls g1 g2 g3 g4 g5 (zst1 g6 trivial) hP hD hS hl)

theorem z_istore_n {i : Fin 4} {x : Int32} (C : zC X cc nL own ret nm lvl MC MS) (hd : zd cc pc (.istore_n i) 1 pc') (hn : (i : Nat) < nL) (hv : zp1 lv i (.int x) = lv') (k : zJ X N0 nL pc' lv' st N kd iv rf lw cells slots) : zJ X N0 nL pc lv (.int x :: st) N kd iv rf lw cells slots := by
  obtain ⟨p, l, e, R, s, m, args, below, meth, c, D, cA, A, ad0, Q⟩ := X
  obtain ⟨hx, hb, hml, hown, hts, hK, hA, hR, hZ, hr, hlk, hnm⟩ := C
  intro ad locs H ls g1 g2 g3 g4 g5 g6 hP hD hS hl
  obtain ⟨hd, rfl⟩ := hd
  subst hv
  refine lv_istore_n hx hb hd rfl hl.has hn rfl (fun ls2 hl2 => ?_)
  exact k ad locs H ls2 g1 g2 g3 g4 (g5.put1 (zhd g6)) (ztl g6) hP hD hS (zlv.put1 (v := .int x) hl2)

theorem z_istore {i : Nat} {x : Int32} (C : zC X cc nL own ret nm lvl MC MS) (hd : zd cc pc (.istore i) 2 pc') (hn : i < nL) (hv : zp1 lv i (.int x) = lv') (k : zJ X N0 nL pc' lv' st N kd iv rf lw cells slots) : zJ X N0 nL pc lv (.int x :: st) N kd iv rf lw cells slots := by
  obtain ⟨p, l, e, R, s, m, args, below, meth, c, D, cA, A, ad0, Q⟩ := X
  obtain ⟨hx, hb, hml, hown, hts, hK, hA, hR, hZ, hr, hlk, hnm⟩ := C
  intro ad locs H ls g1 g2 g3 g4 g5 g6 hP hD hS hl
  obtain ⟨hd, rfl⟩ := hd
  subst hv
  refine lv_istore hx hb hd hl.has hn rfl (fun ls2 hl2 => ?_)
  exact k ad locs H ls2 g1 g2 g3 g4 (g5.put1 (zhd g6)) (ztl g6) hP hD hS (zlv.put1 (v := .int x) hl2)

theorem z_lstore_n {i : Fin 4} {x : Int64} (C : zC X cc nL own ret nm lvl MC MS) (hd : zd cc pc (.lstore_n i) 1 pc') (hn : (i : Nat) + 1 < nL) (hv : zp2 lv i (.long x) = lv') (k : zJ X N0 nL pc' lv' st N kd iv rf lw cells slots) : zJ X N0 nL pc lv (.long x :: st) N kd iv rf lw cells slots := by
  obtain ⟨p, l, e, R, s, m, args, below, meth, c, D, cA, A, ad0, Q⟩ := X
  obtain ⟨hx, hb, hml, hown, hts, hK, hA, hR, hZ, hr, hlk, hnm⟩ := C
  intro ad locs H ls g1 g2 g3 g4 g5 g6 hP hD hS hl
  obtain ⟨hd, rfl⟩ := hd
  subst hv
  refine lv_lstore_n hx hb hd rfl hl.has hn rfl (fun ls2 hl2 => ?_)
  exact k ad locs H ls2 g1 g2 g3 g4 (g5.put2 (zhd g6)) (ztl g6) hP hD hS (zlv.put2 (v := .long x) hl2)

theorem z_lstore {i : Nat} {x : Int64} (C : zC X cc nL own ret nm lvl MC MS) (hd : zd cc pc (.lstore i) 2 pc') (hn : i + 1 < nL) (hv : zp2 lv i (.long x) = lv') (k : zJ X N0 nL pc' lv' st N kd iv rf lw cells slots) : zJ X N0 nL pc lv (.long x :: st) N kd iv rf lw cells slots := by
  obtain ⟨p, l, e, R, s, m, args, below, meth, c, D, cA, A, ad0, Q⟩ := X
  obtain ⟨hx, hb, hml, hown, hts, hK, hA, hR, hZ, hr, hlk, hnm⟩ := C
  intro ad locs H ls g1 g2 g3 g4 g5 g6 hP hD hS hl
  obtain ⟨hd, rfl⟩ := hd
  subst hv
  refine lv_lstore hx hb hd hl.has hn rfl (fun ls2 hl2 => ?_)
  exact k ad locs H ls2 g1 g2 g3 g4 (g5.put2 (zhd g6)) (ztl g6) hP hD hS (zlv.put2 (v := .long x) hl2)

theorem z_astore_n {i : Fin 4} {x : Nat} (C : zC X cc nL own ret nm lvl MC MS) (hd : zd cc pc (.astore_n i) 1 pc') (hn : (i : Nat) < nL) (hv : zp1 lv i (.ref x) = lv') (k : zJ X N0 nL pc' lv' st N kd iv rf lw cells slots) : zJ X N0 nL pc lv (.ref x :: st) N kd iv rf lw cells slots := by
  obtain ⟨p, l, e, R, s, m, args, below, meth, c, D, cA, A, ad0, Q⟩ := X
  obtain ⟨hx, hb, hml, hown, hts, hK, hA, hR, hZ, hr, hlk, hnm⟩ := C
  intro ad locs H ls g1 g2 g3 g4 g5 g6 hP hD hS hl
  obtain ⟨hd, rfl⟩ := hd
  subst hv
  refine lv_astore_n hx hb hd rfl hl.has hn rfl (fun ls2 hl2 => ?_)
  exact k ad locs H ls2 g1 g2 g3 g4 (g5.put1 (zhd g6)) (ztl g6) hP hD hS (zlv.put1 (v := .ref x) hl2)

theorem z_astore {i : Nat} {x : Nat} (C : zC X cc nL own ret nm lvl MC MS) (hd : zd cc pc (.astore i) 2 pc') (hn : i < nL) (hv : zp1 lv i (.ref x) = lv') (k : zJ X N0 nL pc' lv' st N kd iv rf lw cells slots) : zJ X N0 nL pc lv (.ref x :: st) N kd iv rf lw cells slots := by
  obtain ⟨p, l, e, R, s, m, args, below, meth, c, D, cA, A, ad0, Q⟩ := X
  obtain ⟨hx, hb, hml, hown, hts, hK, hA, hR, hZ, hr, hlk, hnm⟩ := C
  intro ad locs H ls g1 g2 g3 g4 g5 g6 hP hD hS hl
  obtain ⟨hd, rfl⟩ := hd
  subst hv
  refine lv_astore hx hb hd hl.has hn rfl (fun ls2 hl2 => ?_)
  exact k ad locs H ls2 g1 g2 g3 g4 (g5.put1 (zhd g6)) (ztl g6) hP hD hS (zlv.put1 (v := .ref x) hl2)

theorem z_astore_nN {i : Fin 4} (C : zC X cc nL own ret nm lvl MC MS) (hd : zd cc pc (.astore_n i) 1 pc') (hn : (i : Nat) < nL) (hv : zp1 lv i .null = lv') (k : zJ X N0 nL pc' lv' st N kd iv rf lw cells slots) : zJ X N0 nL pc lv (.null :: st) N kd iv rf lw cells slots := by
  obtain ⟨p, l, e, R, s, m, args, below, meth, c, D, cA, A, ad0, Q⟩ := X
  obtain ⟨hx, hb, hml, hown, hts, hK, hA, hR, hZ, hr, hlk, hnm⟩ := C
  intro ad locs H ls g1 g2 g3 g4 g5 g6 hP hD hS hl
  obtain ⟨hd, rfl⟩ := hd
  subst hv
  refine lv_astore_nN hx hb hd rfl hl.has hn rfl (fun ls2 hl2 => ?_)
  exact k ad locs H ls2 g1 g2 g3 g4 (g5.put1 trivial) (ztl g6) hP hD hS (zlv.put1 (v := .null) hl2)

theorem z_iinc {i : Nat} {n : Int} {x y : Int32} (C : zC X cc nL own ret nm lvl MC MS) (hd : zd cc pc (.iinc i n) 3 pc') (h : lv[i]? = some (some (.int x))) (hn : i < nL) (hy : Int32.ofInt n = y) (hv : zp1 lv i (.int (x + y)) = lv') (k : zJ X N0 nL pc' lv' st N kd iv rf lw cells slots) : zJ X N0 nL pc lv st N kd iv rf lw cells slots := by
  obtain ⟨p, l, e, R, s, m, args, below, meth, c, D, cA, A, ad0, Q⟩ := X
  obtain ⟨hx, hb, hml, hown, hts, hK, hA, hR, hZ, hr, hlk, hnm⟩ := C
  intro ad locs H ls g1 g2 g3 g4 g5 g6 hP hD hS hl
  obtain ⟨hd, rfl⟩ := hd
  subst hv
  subst hy
  obtain ⟨q, hq⟩ := List.getElem?_of_mem (zla_in (ad := ad) h)
  refine lv_iinc hx hb hd hl.has (k := q) hq rfl hn rfl (fun ls2 hl2 => ?_)
  exact k ad locs H ls2 g1 g2 g3 g4 (g5.put1 trivial) g6 hP hD hS (zlv.put1 (v := .int (x + Int32.ofInt n)) hl2)

theorem z_if_eq {x : Int32} {off : Int} {tgt : Nat} (C : zC X cc nL own ret nm lvl MC MS) (hd : zd cc pc (.ifCond .eq off) 3 pc') (ht : (pc : Int) + off = (tgt : Int)) (kt : x = 0 → zJ X N0 nL tgt lv st N kd iv rf lw cells slots) (kf : ¬ x = 0 → zJ X N0 nL pc' lv st N kd iv rf lw cells slots) : zJ X N0 nL pc lv (.int x :: st) N kd iv rf lw cells slots := by
  obtain ⟨p, l, e, R, s, m, args, below, meth, c, D, cA, A, ad0, Q⟩ := X
  obtain ⟨hx, hb, hml, hown, hts, hK, hA, hR, hZ, hr, hlk, hnm⟩ := C
  intro ad locs H ls g1 g2 g3 g4 g5 g6 hP hD hS hl
  obtain ⟨hd, rfl⟩ := hd
  exact lv_if_eq hx hb hd ht (fun q => kt q ad locs H ls g1 g2 g3 g4 g5 (ztl g6) hP hD hS hl) (fun q => kf q ad locs H ls g1 g2 g3 g4 g5 (ztl g6) hP hD hS hl)

theorem z_if_ne {x : Int32} {off : Int} {tgt : Nat} (C : zC X cc nL own ret nm lvl MC MS) (hd : zd cc pc (.ifCond .ne off) 3 pc') (ht : (pc : Int) + off = (tgt : Int)) (kt : ¬ x = 0 → zJ X N0 nL tgt lv st N kd iv rf lw cells slots) (kf : x = 0 → zJ X N0 nL pc' lv st N kd iv rf lw cells slots) : zJ X N0 nL pc lv (.int x :: st) N kd iv rf lw cells slots := by
  obtain ⟨p, l, e, R, s, m, args, below, meth, c, D, cA, A, ad0, Q⟩ := X
  obtain ⟨hx, hb, hml, hown, hts, hK, hA, hR, hZ, hr, hlk, hnm⟩ := C
  intro ad locs H ls g1 g2 g3 g4 g5 g6 hP hD hS hl
  obtain ⟨hd, rfl⟩ := hd
  exact lv_if_ne hx hb hd ht (fun q => kt q ad locs H ls g1 g2 g3 g4 g5 (ztl g6) hP hD hS hl) (fun q => kf q ad locs H ls g1 g2 g3 g4 g5 (ztl g6) hP hD hS hl)

theorem z_if_lt {x : Int32} {off : Int} {tgt : Nat} (C : zC X cc nL own ret nm lvl MC MS) (hd : zd cc pc (.ifCond .lt off) 3 pc') (ht : (pc : Int) + off = (tgt : Int)) (kt : x < 0 → zJ X N0 nL tgt lv st N kd iv rf lw cells slots) (kf : ¬ x < 0 → zJ X N0 nL pc' lv st N kd iv rf lw cells slots) : zJ X N0 nL pc lv (.int x :: st) N kd iv rf lw cells slots := by
  obtain ⟨p, l, e, R, s, m, args, below, meth, c, D, cA, A, ad0, Q⟩ := X
  obtain ⟨hx, hb, hml, hown, hts, hK, hA, hR, hZ, hr, hlk, hnm⟩ := C
  intro ad locs H ls g1 g2 g3 g4 g5 g6 hP hD hS hl
  obtain ⟨hd, rfl⟩ := hd
  exact lv_if_lt hx hb hd ht (fun q => kt q ad locs H ls g1 g2 g3 g4 g5 (ztl g6) hP hD hS hl) (fun q => kf q ad locs H ls g1 g2 g3 g4 g5 (ztl g6) hP hD hS hl)

theorem z_if_ge {x : Int32} {off : Int} {tgt : Nat} (C : zC X cc nL own ret nm lvl MC MS) (hd : zd cc pc (.ifCond .ge off) 3 pc') (ht : (pc : Int) + off = (tgt : Int)) (kt : 0 ≤ x → zJ X N0 nL tgt lv st N kd iv rf lw cells slots) (kf : ¬ 0 ≤ x → zJ X N0 nL pc' lv st N kd iv rf lw cells slots) : zJ X N0 nL pc lv (.int x :: st) N kd iv rf lw cells slots := by
  obtain ⟨p, l, e, R, s, m, args, below, meth, c, D, cA, A, ad0, Q⟩ := X
  obtain ⟨hx, hb, hml, hown, hts, hK, hA, hR, hZ, hr, hlk, hnm⟩ := C
  intro ad locs H ls g1 g2 g3 g4 g5 g6 hP hD hS hl
  obtain ⟨hd, rfl⟩ := hd
  exact lv_if_ge hx hb hd ht (fun q => kt q ad locs H ls g1 g2 g3 g4 g5 (ztl g6) hP hD hS hl) (fun q => kf q ad locs H ls g1 g2 g3 g4 g5 (ztl g6) hP hD hS hl)

theorem z_if_gt {x : Int32} {off : Int} {tgt : Nat} (C : zC X cc nL own ret nm lvl MC MS) (hd : zd cc pc (.ifCond .gt off) 3 pc') (ht : (pc : Int) + off = (tgt : Int)) (kt : 0 < x → zJ X N0 nL tgt lv st N kd iv rf lw cells slots) (kf : ¬ 0 < x → zJ X N0 nL pc' lv st N kd iv rf lw cells slots) : zJ X N0 nL pc lv (.int x :: st) N kd iv rf lw cells slots := by
  obtain ⟨p, l, e, R, s, m, args, below, meth, c, D, cA, A, ad0, Q⟩ := X
  obtain ⟨hx, hb, hml, hown, hts, hK, hA, hR, hZ, hr, hlk, hnm⟩ := C
  intro ad locs H ls g1 g2 g3 g4 g5 g6 hP hD hS hl
  obtain ⟨hd, rfl⟩ := hd
  exact lv_if_gt hx hb hd ht (fun q => kt q ad locs H ls g1 g2 g3 g4 g5 (ztl g6) hP hD hS hl) (fun q => kf q ad locs H ls g1 g2 g3 g4 g5 (ztl g6) hP hD hS hl)

theorem z_if_le {x : Int32} {off : Int} {tgt : Nat} (C : zC X cc nL own ret nm lvl MC MS) (hd : zd cc pc (.ifCond .le off) 3 pc') (ht : (pc : Int) + off = (tgt : Int)) (kt : x ≤ 0 → zJ X N0 nL tgt lv st N kd iv rf lw cells slots) (kf : ¬ x ≤ 0 → zJ X N0 nL pc' lv st N kd iv rf lw cells slots) : zJ X N0 nL pc lv (.int x :: st) N kd iv rf lw cells slots := by
  obtain ⟨p, l, e, R, s, m, args, below, meth, c, D, cA, A, ad0, Q⟩ := X
  obtain ⟨hx, hb, hml, hown, hts, hK, hA, hR, hZ, hr, hlk, hnm⟩ := C
  intro ad locs H ls g1 g2 g3 g4 g5 g6 hP hD hS hl
  obtain ⟨hd, rfl⟩ := hd
  exact lv_if_le hx hb hd ht (fun q => kt q ad locs H ls g1 g2 g3 g4 g5 (ztl g6) hP hD hS hl) (fun q => kf q ad locs H ls g1 g2 g3 g4 g5 (ztl g6) hP hD hS hl)

theorem z_icmp_eq {x y : Int32} {off : Int} {tgt : Nat} (C : zC X cc nL own ret nm lvl MC MS) (hd : zd cc pc (.if_icmp .eq off) 3 pc') (ht : (pc : Int) + off = (tgt : Int)) (kt : x = y → zJ X N0 nL tgt lv st N kd iv rf lw cells slots) (kf : ¬ x = y → zJ X N0 nL pc' lv st N kd iv rf lw cells slots) : zJ X N0 nL pc lv (.int y :: .int x :: st) N kd iv rf lw cells slots := by
  obtain ⟨p, l, e, R, s, m, args, below, meth, c, D, cA, A, ad0, Q⟩ := X
  obtain ⟨hx, hb, hml, hown, hts, hK, hA, hR, hZ, hr, hlk, hnm⟩ := C
  intro ad locs H ls g1 g2 g3 g4 g5 g6 hP hD hS hl
  obtain ⟨hd, rfl⟩ := hd
  exact lv_icmp_eq hx hb hd ht (fun q => kt q ad locs H ls g1 g2 g3 g4 g5 (ztl (ztl g6)) hP hD hS hl) (fun q => kf q ad locs H ls g1 g2 g3 g4 g5 (ztl (ztl g6)) hP hD hS hl)

theorem z_icmp_ne {x y : Int32} {off : Int} {tgt : Nat} (C : zC X cc nL own ret nm lvl MC MS) (hd : zd cc pc (.if_icmp .ne off) 3 pc') (ht : (pc : Int) + off = (tgt : Int)) (kt : ¬ x = y → zJ X N0 nL tgt lv st N kd iv rf lw cells slots) (kf : x = y → zJ X N0 nL pc' lv st N kd iv rf lw cells slots) : zJ X N0 nL pc lv (.int y :: .int x :: st) N kd iv rf lw cells slots := by
  obtain ⟨p, l, e, R, s, m, args, below, meth, c, D, cA, A, ad0, Q⟩ := X
  obtain ⟨hx, hb, hml, hown, hts, hK, hA, hR, hZ, hr, hlk, hnm⟩ := C
  intro ad locs H ls g1 g2 g3 g4 g5 g6 hP hD hS hl
  obtain ⟨hd, rfl⟩ := hd
  exact lv_icmp_ne hx hb hd ht (fun q => kt q ad locs H ls g1 g2 g3 g4 g5 (ztl (ztl g6)) hP hD hS hl) (fun q => kf q ad locs H ls g1 g2 g3 g4 g5 (ztl (ztl g6)) hP hD hS hl)

theorem z_icmp_lt {x y : Int32} {off : Int} {tgt : Nat} (C : zC X cc nL own ret nm lvl MC MS) (hd : zd cc pc (.if_icmp .lt off) 3 pc') (ht : (pc : Int) + off = (tgt : Int)) (kt : x < y → zJ X N0 nL tgt lv st N kd iv rf lw cells slots) (kf : ¬ x < y → zJ X N0 nL pc' lv st N kd iv rf lw cells slots) : zJ X N0 nL pc lv (.int y :: .int x :: st) N kd iv rf lw cells slots := by
  obtain ⟨p, l, e, R, s, m, args, below, meth, c, D, cA, A, ad0, Q⟩ := X
  obtain ⟨hx, hb, hml, hown, hts, hK, hA, hR, hZ, hr, hlk, hnm⟩ := C
  intro ad locs H ls g1 g2 g3 g4 g5 g6 hP hD hS hl
  obtain ⟨hd, rfl⟩ := hd
  exact lv_icmp_lt hx hb hd ht (fun q => kt q ad locs H ls g1 g2 g3 g4 g5 (ztl (ztl g6)) hP hD hS hl) (fun q => kf q ad locs H ls g1 g2 g3 g4 g5 (ztl (ztl g6)) hP hD hS hl)

theorem z_icmp_ge {x y : Int32} {off : Int} {tgt : Nat} (C : zC X cc nL own ret nm lvl MC MS) (hd : zd cc pc (.if_icmp .ge off) 3 pc') (ht : (pc : Int) + off = (tgt : Int)) (kt : y ≤ x → zJ X N0 nL tgt lv st N kd iv rf lw cells slots) (kf : ¬ y ≤ x → zJ X N0 nL pc' lv st N kd iv rf lw cells slots) : zJ X N0 nL pc lv (.int y :: .int x :: st) N kd iv rf lw cells slots := by
  obtain ⟨p, l, e, R, s, m, args, below, meth, c, D, cA, A, ad0, Q⟩ := X
  obtain ⟨hx, hb, hml, hown, hts, hK, hA, hR, hZ, hr, hlk, hnm⟩ := C
  intro ad locs H ls g1 g2 g3 g4 g5 g6 hP hD hS hl
  obtain ⟨hd, rfl⟩ := hd
  exact lv_icmp_ge hx hb hd ht (fun q => kt q ad locs H ls g1 g2 g3 g4 g5 (ztl (ztl g6)) hP hD hS hl) (fun q => kf q ad locs H ls g1 g2 g3 g4 g5 (ztl (ztl g6)) hP hD hS hl)

theorem z_icmp_gt {x y : Int32} {off : Int} {tgt : Nat} (C : zC X cc nL own ret nm lvl MC MS) (hd : zd cc pc (.if_icmp .gt off) 3 pc') (ht : (pc : Int) + off = (tgt : Int)) (kt : y < x → zJ X N0 nL tgt lv st N kd iv rf lw cells slots) (kf : ¬ y < x → zJ X N0 nL pc' lv st N kd iv rf lw cells slots) : zJ X N0 nL pc lv (.int y :: .int x :: st) N kd iv rf lw cells slots := by
  obtain ⟨p, l, e, R, s, m, args, below, meth, c, D, cA, A, ad0, Q⟩ := X
  obtain ⟨hx, hb, hml, hown, hts, hK, hA, hR, hZ, hr, hlk, hnm⟩ := C
  intro ad locs H ls g1 g2 g3 g4 g5 g6 hP hD hS hl
  obtain ⟨hd, rfl⟩ := hd
  exact lv_icmp_gt hx hb hd ht (fun q => kt q ad locs H ls g1 g2 g3 g4 g5 (ztl (ztl g6)) hP hD hS hl) (fun q => kf q ad locs H ls g1 g2 g3 g4 g5 (ztl (ztl g6)) hP hD hS hl)

theorem z_icmp_le {x y : Int32} {off : Int} {tgt : Nat} (C : zC X cc nL own ret nm lvl MC MS) (hd : zd cc pc (.if_icmp .le off) 3 pc') (ht : (pc : Int) + off = (tgt : Int)) (kt : x ≤ y → zJ X N0 nL tgt lv st N kd iv rf lw cells slots) (kf : ¬ x ≤ y → zJ X N0 nL pc' lv st N kd iv rf lw cells slots) : zJ X N0 nL pc lv (.int y :: .int x :: st) N kd iv rf lw cells slots := by
  obtain ⟨p, l, e, R, s, m, args, below, meth, c, D, cA, A, ad0, Q⟩ := X
  obtain ⟨hx, hb, hml, hown, hts, hK, hA, hR, hZ, hr, hlk, hnm⟩ := C
  intro ad locs H ls g1 g2 g3 g4 g5 g6 hP hD hS hl
  obtain ⟨hd, rfl⟩ := hd
  exact lv_icmp_le hx hb hd ht (fun q => kt q ad locs H ls g1 g2 g3 g4 g5 (ztl (ztl g6)) hP hD hS hl) (fun q => kf q ad locs H ls g1 g2 g3 g4 g5 (ztl (ztl g6)) hP hD hS hl)

theorem z_goto {off : Int} {tgt : Nat} (C : zC X cc nL own ret nm lvl MC MS) (hd : zd cc pc (.goto off) 3 pc') (ht : (pc : Int) + off = (tgt : Int)) (k : zJ X N0 nL tgt lv st N kd iv rf lw cells slots) : zJ X N0 nL pc lv st N kd iv rf lw cells slots := by
  obtain ⟨p, l, e, R, s, m, args, below, meth, c, D, cA, A, ad0, Q⟩ := X
  obtain ⟨hx, hb, hml, hown, hts, hK, hA, hR, hZ, hr, hlk, hnm⟩ := C
  intro ad locs H ls g1 g2 g3 g4 g5 g6 hP hD hS hl
  obtain ⟨hd, rfl⟩ := hd
  exact lv_goto hx hb hd ht (k ad locs H ls g1 g2 g3 g4 g5 g6 hP hD hS hl)

theorem z_ifnull {x : Nat} {off : Int} (C : zC X cc nL own ret nm lvl MC MS) (hd : zd cc pc (.ifnull off) 3 pc') (k : zJ X N0 nL pc' lv st N kd iv rf lw cells slots) : zJ X N0 nL pc lv (.ref x :: st) N kd iv rf lw cells slots := by
  obtain ⟨p, l, e, R, s, m, args, below, meth, c, D, cA, A, ad0, Q⟩ := X
  obtain ⟨hx, hb, hml, hown, hts, hK, hA, hR, hZ, hr, hlk, hnm⟩ := C
  intro ad locs H ls g1 g2 g3 g4 g5 g6 hP hD hS hl
  obtain ⟨hd, rfl⟩ := hd
  exact lv_ifnull hx hb hd (k ad locs H ls g1 g2 g3 g4 g5 (ztl g6) hP hD hS hl)

theorem z_ifnonnullN {off : Int} (C : zC X cc nL own ret nm lvl MC MS) (hd : zd cc pc (.ifnonnull off) 3 pc') (k : zJ X N0 nL pc' lv st N kd iv rf lw cells slots) : zJ X N0 nL pc lv (.null :: st) N kd iv rf lw cells slots := by
  obtain ⟨p, l, e, R, s, m, args, below, meth, c, D, cA, A, ad0, Q⟩ := X
  obtain ⟨hx, hb, hml, hown, hts, hK, hA, hR, hZ, hr, hlk, hnm⟩ := C
  intro ad locs H ls g1 g2 g3 g4 g5 g6 hP hD hS hl
  obtain ⟨hd, rfl⟩ := hd
  exact lv_ifnonnullN hx hb hd (k ad locs H ls g1 g2 g3 g4 g5 (ztl g6) hP hD hS hl)

theorem z_ifnullN {off : Int} {tgt : Nat} (C : zC X cc nL own ret nm lvl MC MS) (hd : zd cc pc (.ifnull off) 3 pc') (ht : (pc : Int) + off = (tgt : Int)) (k : zJ X N0 nL tgt lv st N kd iv rf lw cells slots) : zJ X N0 nL pc lv (.null :: st) N kd iv rf lw cells slots := by
  obtain ⟨p, l, e, R, s, m, args, below, meth, c, D, cA, A, ad0, Q⟩ := X
  obtain ⟨hx, hb, hml, hown, hts, hK, hA, hR, hZ, hr, hlk, hnm⟩ := C
  intro ad locs H ls g1 g2 g3 g4 g5 g6 hP hD hS hl
  obtain ⟨hd, rfl⟩ := hd
  exact lv_ifnullN hx hb hd ht (k ad locs H ls g1 g2 g3 g4 g5 (ztl g6) hP hD hS hl)

theorem z_ifnonnull {x : Nat} {off : Int} {tgt : Nat} (C : zC X cc nL own ret nm lvl MC MS) (hd : zd cc pc (.ifnonnull off) 3 pc') (ht : (pc : Int) + off = (tgt : Int)) (k : zJ X N0 nL tgt lv st N kd iv rf lw cells slots) : zJ X N0 nL pc lv (.ref x :: st) N kd iv rf lw cells slots := by
  obtain ⟨p, l, e, R, s, m, args, below, meth, c, D, cA, A, ad0, Q⟩ := X
  obtain ⟨hx, hb, hml, hown, hts, hK, hA, hR, hZ, hr, hlk, hnm⟩ := C
  intro ad locs H ls g1 g2 g3 g4 g5 g6 hP hD hS hl
  obtain ⟨hd, rfl⟩ := hd
  exact lv_ifnonnull hx hb hd ht (k ad locs H ls g1 g2 g3 g4 g5 (ztl g6) hP hD hS hl)

theorem z_tabIn {dflt lo hi : Int} {offs : Array Int} {len : Nat} {x : Int32} {off : Int} {tgt : Nat} (C : zC X cc nL own ret nm lvl MC MS) (hd : zd cc pc (.tableswitch dflt lo hi offs) len pc') (h1 : ¬ x.toInt < lo) (h2 : ¬ hi < x.toInt) (ho : offs[(x.toInt - lo).toNat]? = some off) (ht : (pc : Int) + off = (tgt : Int)) (k : zJ X N0 nL tgt lv st N kd iv rf lw cells slots) : zJ X N0 nL pc lv (.int x :: st) N kd iv rf lw cells slots := by
  obtain ⟨p, l, e, R, s, m, args, below, meth, c, D, cA, A, ad0, Q⟩ := X
  obtain ⟨hx, hb, hml, hown, hts, hK, hA, hR, hZ, hr, hlk, hnm⟩ := C
  intro ad locs H ls g1 g2 g3 g4 g5 g6 hP hD hS hl
  obtain ⟨hd, rfl⟩ := hd
  exact lv_tableIn hx hb hd h1 h2 ho ht (k ad locs H ls g1 g2 g3 g4 g5 (ztl g6) hP hD hS hl)

theorem z_tabOut {dflt lo hi : Int} {offs : Array Int} {len : Nat} {x : Int32} {tgt : Nat} (C : zC X cc nL own ret nm lvl MC MS) (hd : zd cc pc (.tableswitch dflt lo hi offs) len pc') (h : x.toInt < lo ∨ hi < x.toInt) (ht : (pc : Int) + dflt = (tgt : Int)) (k : zJ X N0 nL tgt lv st N kd iv rf lw cells slots) : zJ X N0 nL pc lv (.int x :: st) N kd iv rf lw cells slots := by
  obtain ⟨p, l, e, R, s, m, args, below, meth, c, D, cA, A, ad0, Q⟩ := X
  obtain ⟨hx, hb, hml, hown, hts, hK, hA, hR, hZ, hr, hlk, hnm⟩ := C
  intro ad locs H ls g1 g2 g3 g4 g5 g6 hP hD hS hl
  obtain ⟨hd, rfl⟩ := hd
  exact lv_tableOut hx hb hd h ht (k ad locs H ls g1 g2 g3 g4 g5 (ztl g6) hP hD hS hl)

theorem z_lookup {dflt : Int} {ps : Array (Int × Int)} {len : Nat} {x : Int32} {off : Int} {tgt : Nat} (C : zC X cc nL own ret nm lvl MC MS) (hd : zd cc pc (.lookupswitch dflt ps) len pc') (hp : (ps.toList.zip (ps.toList.drop 1)).all (fun (a, next) => a.1 < next.1) = true) (ho : Op.lookupswitch.offset ps.toList dflt x.toInt = off) (ht : (pc : Int) + off = (tgt : Int)) (k : zJ X N0 nL tgt lv st N kd iv rf lw cells slots) : zJ X N0 nL pc lv (.int x :: st) N kd iv rf lw cells slots := by
  obtain ⟨p, l, e, R, s, m, args, below, meth, c, D, cA, A, ad0, Q⟩ := X
  obtain ⟨hx, hb, hml, hown, hts, hK, hA, hR, hZ, hr, hlk, hnm⟩ := C
  intro ad locs H ls g1 g2 g3 g4 g5 g6 hP hD hS hl
  obtain ⟨hd, rfl⟩ := hd
  exact lv_lookup hx hb hd hp ho ht (k ad locs H ls g1 g2 g3 g4 g5 (ztl g6) hP hD hS hl)

theorem z_topi {x : Int32} (k : ∀ y : Int32, y = x → zJ X N0 nL pc lv (.int y :: st) N kd iv rf lw cells slots) : zJ X N0 nL pc lv (.int x :: st) N kd iv rf lw cells slots := k x rfl

theorem z_topl {x : Int64} (k : ∀ y : Int64, y = x → zJ X N0 nL pc lv (.long y :: st) N kd iv rf lw cells slots) : zJ X N0 nL pc lv (.long x :: st) N kd iv rf lw cells slots := k x rfl

theorem z_ldc {index : Nat} {v : Int32} (C : zC X cc nL own ret nm lvl MC MS) (hd : zd cc pc (.ldc index) 2 pc') (hc : Cond.constant own index v ∈ zw) (k : zJ X N0 nL pc' lv (.int v :: st) N kd iv rf lw cells slots) : zJ X N0 nL pc lv st N kd iv rf lw cells slots := by
  obtain ⟨p, l, e, R, s, m, args, below, meth, c, D, cA, A, ad0, Q⟩ := X
  obtain ⟨hx, hb, hml, hown, hts, hK, hA, hR, hZ, hr, hlk, hnm⟩ := C
  intro ad locs H ls g1 g2 g3 g4 g5 g6 hP hD hS hl
  obtain ⟨hd, rfl⟩ := hd
  exact lv_ldc hx hb hown (hts _ hc) hd (k ad locs H ls g1 g2 g3 g4 g5 (zst1 g6 trivial) hP hD hS hl)

theorem z_ldcw {index : Nat} {v : Int32} (C : zC X cc nL own ret nm lvl MC MS) (hd : zd cc pc (.ldc_w index) 3 pc') (hc : Cond.constant own index v ∈ zw) (k : zJ X N0 nL pc' lv (.int v :: st) N kd iv rf lw cells slots) : zJ X N0 nL pc lv st N kd iv rf lw cells slots := by
  obtain ⟨p, l, e, R, s, m, args, below, meth, c, D, cA, A, ad0, Q⟩ := X
  obtain ⟨hx, hb, hml, hown, hts, hK, hA, hR, hZ, hr, hlk, hnm⟩ := C
  intro ad locs H ls g1 g2 g3 g4 g5 g6 hP hD hS hl
  obtain ⟨hd, rfl⟩ := hd
  exact lv_ldcw hx hb hown (hts _ hc) hd (k ad locs H ls g1 g2 g3 g4 g5 (zst1 g6 trivial) hP hD hS hl)

theorem z_ldc2 {index : Nat} {v : Int64} (C : zC X cc nL own ret nm lvl MC MS) (hd : zd cc pc (.ldc2_w index) 3 pc') (hc : Cond.constantLong own index v ∈ zw) (k : zJ X N0 nL pc' lv (.long v :: st) N kd iv rf lw cells slots) : zJ X N0 nL pc lv st N kd iv rf lw cells slots := by
  obtain ⟨p, l, e, R, s, m, args, below, meth, c, D, cA, A, ad0, Q⟩ := X
  obtain ⟨hx, hb, hml, hown, hts, hK, hA, hR, hZ, hr, hlk, hnm⟩ := C
  intro ad locs H ls g1 g2 g3 g4 g5 g6 hP hD hS hl
  obtain ⟨hd, rfl⟩ := hd
  exact lv_ldc2 hx hb hown (hts _ hc) hd (k ad locs H ls g1 g2 g3 g4 g5 (zst1 g6 trivial) hP hD hS hl)

theorem z_widen {k n : Nat} (h1 : cells ≤ k) (h2 : slots ≤ n) (kk : zJ X N0 nL pc lv st N kd iv rf lw k n) : zJ X N0 nL pc lv st N kd iv rf lw cells slots := by
  obtain ⟨p, l, e, R, s, m, args, below, meth, c, D, cA, A, ad0, Q⟩ := X
  intro ad locs H ls g1 g2 g3 g4 g5 g6 hP hD hS hl
  exact W.widen h1 h2 (kk ad locs H ls g1 g2 g3 g4 g5 g6 hP hD hS hl)
theorem z_world {kd' : zD} {iv' : zI} {rf' : zF} {lw' : zG} (h : ∀ k, k < N → kd k = kd' k ∧ iv k = iv' k ∧ rf k = rf' k ∧ lw k = lw' k) (hk : zok N rf') (k : zJ X N0 nL pc lv st N kd' iv' rf' lw' cells slots) : zJ X N0 nL pc lv st N kd iv rf lw cells slots := by
  obtain ⟨p, l, e, R, s, m, args, below, meth, c, D, cA, A, ad0, Q⟩ := X
  intro ad locs H ls g1 g2 g3 g4 g5 g6 hP hD hS hl
  rw [zW_congr h] at hP hD
  exact k ad locs H ls g1 hk g3 g4 g5 g6 hP hD hS hl

theorem z_mmax {index : Nat} {x y : Int32} (C : zC X cc nL own ret nm lvl MC MS) (hd : zd cc pc (.invokestatic index) 3 pc') (hm : Cond.methodLink own index Lib.Math.max.name ∈ zw) (hlv : 1 ≤ lvl) (hst : (st.map fun v => v.category).sum ≤ 8) (hc : cells ≤ MC) (hs : slots ≤ MS) (k : zJ X N0 nL pc' lv (.int (if x < y then y else x) :: st) N kd iv rf lw cells slots) : zJ X N0 nL pc lv (.int y :: .int x :: st) N kd iv rf lw cells slots := by
  obtain ⟨p, l, e, R, s, m, args, below, meth, c, D, cA, A, ad0, Q⟩ := X
  obtain ⟨hx, hb, hml, hown, hts, hK, hA, hR, hZ, hr, hlk, hnm⟩ := C
  intro ad locs H ls g1 g2 g3 g4 g5 g6 hP hD hS hl
  obtain ⟨hd, rfl⟩ := hd
  obtain ⟨r1, r2, r3, r4⟩ := hR
  exact va_mmax hx hb (by rw [hml]; exact hl.1.symm) hown (hts _ hm) (hts _ zma_max.1) (hts _ zma_max.2.1) (hts _ zma_max.2.2) (by omega) (by rw [zv_cats]; omega) (by omega) (by omega) hd (k ad locs H ls g1 g2 g3 g4 g5 (zst1 (ztl (ztl g6)) trivial) hP hD hS hl)

theorem z_mmin {index : Nat} {x y : Int32} (C : zC X cc nL own ret nm lvl MC MS) (hd : zd cc pc (.invokestatic index) 3 pc') (hm : Cond.methodLink own index Lib.Math.min.name ∈ zw) (hlv : 1 ≤ lvl) (hst : (st.map fun v => v.category).sum ≤ 8) (hc : cells ≤ MC) (hs : slots ≤ MS) (k : zJ X N0 nL pc' lv (.int (if y < x then y else x) :: st) N kd iv rf lw cells slots) : zJ X N0 nL pc lv (.int y :: .int x :: st) N kd iv rf lw cells slots := by
  obtain ⟨p, l, e, R, s, m, args, below, meth, c, D, cA, A, ad0, Q⟩ := X
  obtain ⟨hx, hb, hml, hown, hts, hK, hA, hR, hZ, hr, hlk, hnm⟩ := C
  intro ad locs H ls g1 g2 g3 g4 g5 g6 hP hD hS hl
  obtain ⟨hd, rfl⟩ := hd
  obtain ⟨r1, r2, r3, r4⟩ := hR
  exact va_mmin hx hb (by rw [hml]; exact hl.1.symm) hown (hts _ hm) (hts _ zma_min.1) (hts _ zma_min.2.1) (hts _ zma_min.2.2) (by omega) (by rw [zv_cats]; omega) (by omega) (by omega) hd (k ad locs H ls g1 g2 g3 g4 g5 (zst1 (ztl (ztl g6)) trivial) hP hD hS hl)

end ZR
