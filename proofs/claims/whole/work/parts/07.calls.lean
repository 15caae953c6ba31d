/-! CONTRACTS: zM y .. as N kd iv rf lw Qp: method y, called with as in the world N kd iv rf lw, returns, and Qp holds of its answer and of the world behind it; lvl counts its frames, MC cells of MS slots are new at most -/
abbrev zP : Type := Option Value → Nat → zD → zI → zF → zG → Prop
def zrm (lvl MC MS : Nat) : Room := { frames := lvl, cells := MC, slots := MS, locals := 60 * lvl }
def zPre (D : va_G) (cA : Nat → ClassId) (ad : Nat → Nat) (sz : Nat) (as : List Value) (N : Nat) (kd : zD) (iv : zI) (rf : zF) (lw : zG) : Array Value → State → Prop :=
  va_Pc (as.map (zv ad)) (fun U => U.heap.size = sz ∧ zok N rf ∧ N ≤ 1000 ∧ (∀ v ∈ as, zvok N v) ∧ va_P D zcl (zW cA ad N kd iv rf lw) U.heap ∧ va_K D zcl (ztys cA) U ∧ va_D (fun _ => True) (zW cA ad N kd iv rf lw) ∧ zStr ad (va_A (zW cA ad N kd iv rf lw) sz) U U.heap)
def zPost (D : va_G) (cA : Nat → ClassId) (ad0 : Nat → Nat) (N0 : Nat) (A : Nat → Prop) (Qp : zP) : Array Value → State → Outcome → State → Prop := fun _ st oc t =>
  (∃ (v : Option Value) (N : Nat) (kd : zD) (iv : zI) (rf : zF) (lw : zG) (ad : Nat → Nat), oc = .returned (v.map (zv ad)) ∧ (∀ k, k < N0 ∨ 1000 ≤ k → ad k = ad0 k) ∧ zok N rf ∧ N0 ≤ N ∧ N ≤ 1000 ∧ (∀ w, v = some w → zvok N w) ∧ Qp v N kd iv rf lw ∧ va_P D zcl (zW cA ad N kd iv rf lw) t.heap ∧ va_D A (zW cA ad N kd iv rf lw)) ∧ va_F A st t
def zM (y : MethodName) (cc : ByteArray) (nL : Nat) (ret : Option FieldType) (lvl MC MS : Nat) (as : List Value) (N : Nat) (kd : zD) (iv : zI) (rf : zF) (lw : zG) (Qp : zP) : Prop :=
  ∀ (l : Launch) (D : va_G) (cA : Nat → ClassId) (ad : Nat → Nat) (sz : Nat), Met l y (Cond.code y cc nL ret :: zw) (zrm lvl MC MS) (zPre D cA ad sz as N kd iv rf lw) (zPost D cA ad N (va_A (zW cA ad N kd iv rf lw) sz) Qp) MC MS (va_A (zW cA ad N kd iv rf lw) sz)
def zEnd (X : zX) (N0 MC MS : Nat) (Qp : zP) : Prop := match X with
  | (p, l, e, R, s, m, args, below, meth, c, D, cA, A, ad0, Q) => Q = MQ below (zPost D cA ad0 N0 A Qp) args s MC MS A
theorem zPre.blind (D : va_G) (cA : Nat → ClassId) (ad : Nat → Nat) (sz : Nat) (as : List Value) (N : Nat) (kd : zD) (iv : zI) (rf : zF) (lw : zG) : FrameBlind (zPre D cA ad sz as N kd iv rf lw) := by
  intro a U g mk h
  obtain ⟨h1, h2, h3, h4, h5, h6, h7, h8, h9⟩ := h
  exact ⟨h1, h2, h3, h4, h5, h6, va_K.moved (u := U) (U := U.calling g mk a) (Vm.Alike.refl U.vm) h7, h8, h9.same rfl⟩
theorem zlg (ad : Nat → Nat) : ∀ as : List Value, (lg_sl (as.map (zv ad))).length = (lg_sl as).length := by
  intro as
  induction as with
  | nil => rfl
  | cons a r ih =>
    unfold lg_sl at ih ⊢
    rw [List.map_cons, List.flatMap_cons, List.flatMap_cons, List.length_append, List.length_append, ih, zv_cat]
    by_cases hc : a.category = 2
    · rw [if_pos hc, if_pos hc]; rfl
    · rw [if_neg hc, if_neg hc]; rfl
theorem zM.of {y : MethodName} {cc : ByteArray} {nL : Nat} {ret : Option FieldType} {lvl MC MS : Nat} {as : List Value} {N : Nat} {kd : zD} {iv : zI} {rf : zF} {lw : zG} {Qp : zP} (hy : plainName y.cls = true) (hl : (lg_sl as).length ≤ nL) (k : ∀ X : zX, zC X cc nL y.cls ret y.name lvl MC MS → zEnd X N MC MS Qp → zJ X N nL 0 (zargs as ++ List.replicate (nL - (zargs as).length) none) [] N kd iv rf lw 0 0) : zM y cc nL ret lvl MC MS as N kd iv rf lw Qp := by
  intro l D cA ad sz
  refine Met.ofW (cc := cc) (maxL := nL) (ret := ret) hy rfl ?_
  intro p e s m args below meth c s₁ B hml hv
  obtain ⟨rfl, hsz, h3, h4, h5, hP, hK, hD0, hZ⟩ := hv
  subst hsz
  have hts := atoms_spec (ws := Cond.code y cc nL ret :: zw) B.pre
  have hown : s.vm.findClass y.cls = some m.cls := findClass_of_methodNamed B.named
  have hin : meth.name = y.name := (name_of_methodNamed B.named B.method).1
  have hD := hD0.self (sz := s.heap.size)
  have hA : ∀ q : Nat, s.heap.size ≤ q → va_A (zW cA ad N kd iv rf lw) s.heap.size q := fun q h => Or.inr h
  have kk := k (p, l, e, zrm lvl MC MS, s, m, (as.map (zv ad)).toArray, below, meth, c, D, cA, va_A (zW cA ad N kd iv rf lw) s.heap.size, ad, MQ below (zPost D cA ad N (va_A (zW cA ad N kd iv rf lw) s.heap.size) Qp) (as.map (zv ad)).toArray s MC MS (va_A (zW cA ad N kd iv rf lw) s.heap.size)) ⟨B.exec, B.bytes, hml, hown, fun w hw => hts w (List.mem_cons_of_mem _ hw), hK, hA, ⟨Nat.le_refl _, Nat.le_refl _, rfl, rfl⟩, hZ, B.returns, B.notSynchronized, hin⟩ rfl
  have hlen := zlg ad as
  have hlv := lv_entry (as.map (zv ad)) (n := nL) (by rw [hlen]; exact hl)
  rw [lg_entry_eq]
  refine kk ad [] s.heap _ (fun _ _ => rfl) h3 (Nat.le_refl _) h4 ?_ (fun v h => by cases h) hP hD va_S.rf ⟨hlv.1, hlv.2.1, ?_⟩
  · intro i v hi
    rw [List.getElem?_append] at hi
    split at hi
    · exact h5 v (zargs_spec as 0 i v hi).2
    · rw [List.getElem?_replicate] at hi
      split at hi <;> cases hi
  · intro i v hi
    rw [List.getElem?_append] at hi
    split at hi
    · have h9 := (zargs_spec as 0 i v hi).1
      rw [Nat.zero_add] at h9
      refine hlv.2.2 (i, zv ad v) ?_
      have : ∀ (as : List Value) (d : Nat), (i, v) ∈ lv_args d as → (i, zv ad v) ∈ lv_args d (as.map (zv ad)) := by
        intro as
        induction as with
        | nil => intro d h; simp [lv_args] at h
        | cons a r ih =>
          intro d h
          simp only [List.map_cons, lv_args, zv_cat] at h ⊢
          rcases List.mem_cons.mp h with h | h
          · cases h; exact List.mem_cons_self
          · exact List.mem_cons_of_mem _ (ih _ h)
      exact this as 0 h9
    · rw [List.getElem?_replicate] at hi
      split at hi <;> cases hi
section ZE
variable {X : zX} {cc : ByteArray} {N0 nL pc pc' : Nat} {own : String} {ret : Option FieldType} {nm : String} {lvl MC MS : Nat} {lv lv' : zLs} {st : List Value} {N : Nat} {kd : zD} {iv : zI} {rf : zF} {lw : zG} {cells slots : Nat} {Qp : zP}
theorem z_iret {v : Int32} {ty : FieldType} (C : zC X cc nL own (some ty) nm lvl MC MS) (E : zEnd X N0 MC MS Qp) (hd : zd cc pc .ireturn 1 pc') (hn : narrow ty (.int v) = .int v) (hc : cells ≤ MC) (hs : slots ≤ MS) (h : Qp (some (.int v)) N kd iv rf lw) : zJ X N0 nL pc lv [.int v] N kd iv rf lw cells slots := by
  obtain ⟨p, l, e, R, s, m, args, below, meth, c, D, cA, A, ad0, Q⟩ := X
  obtain ⟨hx, hb, hml, hown, hts, hK, hA, hR, hZ, hr, hlk, hnm⟩ := C
  intro ad locs H ls g1 g2 g3 g4 g5 g6 hP hD hS hl
  obtain ⟨hd, rfl⟩ := hd
  have E : Q = MQ below (zPost D cA ad0 N0 A Qp) args s MC MS A := E
  subst E
  refine W.widen hc hs ?_
  exact W.zret hx hb hr hn (fun t ht hW => ⟨⟨some (.int v), N, kd, iv, rf, lw, ad, rfl, g1, g2, g3, g4, (fun w hw => by cases hw; trivial), h, by rw [ht]; exact hP, hD⟩, hS.F ht⟩) hS.2.2 hd hlk
theorem z_vret (C : zC X cc nL own none nm lvl MC MS) (E : zEnd X N0 MC MS Qp) (hd : zd cc pc .return_ 1 pc') (hc : cells ≤ MC) (hs : slots ≤ MS) (h : Qp none N kd iv rf lw) : zJ X N0 nL pc lv [] N kd iv rf lw cells slots := by
  obtain ⟨p, l, e, R, s, m, args, below, meth, c, D, cA, A, ad0, Q⟩ := X
  obtain ⟨hx, hb, hml, hown, hts, hK, hA, hR, hZ, hr, hlk, hnm⟩ := C
  intro ad locs H ls g1 g2 g3 g4 g5 g6 hP hD hS hl
  obtain ⟨hd, rfl⟩ := hd
  have E : Q = MQ below (zPost D cA ad0 N0 A Qp) args s MC MS A := E
  subst E
  refine W.widen hc hs ?_
  exact W.vret hx hb hr (fun t ht hW => ⟨⟨none, N, kd, iv, rf, lw, ad, rfl, g1, g2, g3, g4, (fun w hw => by cases hw), h, by rw [ht]; exact hP, hD⟩, hS.F ht⟩) hS.2.2 hd hlk
theorem z_aret {o : Option Nat} {cn : String} (C : zC X cc nL own (some (.object cn)) nm lvl MC MS) (E : zEnd X N0 MC MS Qp) (hd : zd cc pc .areturn 1 pc') (hc : cells ≤ MC) (hs : slots ≤ MS) (h : Qp (some (va_rf o)) N kd iv rf lw) : zJ X N0 nL pc lv [va_rf o] N kd iv rf lw cells slots := by
  obtain ⟨p, l, e, R, s, m, args, below, meth, c, D, cA, A, ad0, Q⟩ := X
  obtain ⟨hx, hb, hml, hown, hts, hK, hA, hR, hZ, hr, hlk, hnm⟩ := C
  intro ad locs H ls g1 g2 g3 g4 g5 g6 hP hD hS hl
  obtain ⟨hd, rfl⟩ := hd
  have E : Q = MQ below (zPost D cA ad0 N0 A Qp) args s MC MS A := E
  subst E
  refine W.widen hc hs ?_
  exact W.aret (v := zv ad (va_rf o)) hx hb hr (Or.inl ⟨cn, rfl⟩) (by cases o with
    | none => exact Or.inl rfl
    | some k => exact Or.inr ⟨_, rfl⟩) (fun t ht hW => ⟨⟨some (va_rf o), N, kd, iv, rf, lw, ad, rfl, g1, g2, g3, g4, (fun w hw => by cases hw; exact zhd g6), h, by rw [ht]; exact hP, hD⟩, hS.F ht⟩) hS.2.2 hd hlk
theorem zrun {p : Program} {l : Launch} {e : Env} {R : Room} {s : State} {m : MethodId} {args : Array Value} {below : List Frame} {meth : Method} {c : Code} {H : Heap} {locs : List Loc} {D : va_G} {cA : Nat → ClassId} {A : Nat → Prop} {ad0 ad : Nat → Nat} {Q : State → Prop} {mc ms : Nat} {ls : Array Slot} {st0 : List Value} {a : Array Value} {Qc : zP}
    (hr : va_Run p l e R s m args below meth c H locs cells slots mc ms (F0 m pc ls (st0.map (zv ad))) (st.map (zv ad)) (zPost D cA ad N (va_A (zW cA ad N kd iv rf lw) H.size) Qc a) (va_A (zW cA ad N kd iv rf lw) H.size))
    (g1 : ∀ k, k < N0 ∨ 1000 ≤ k → ad k = ad0 k) (g3 : N0 ≤ N) (g5 : zlok N lv) (g6 : ∀ v ∈ st, zvok N v) (hD : va_D A (zW cA ad N kd iv rf lw)) (hS : va_S A s.heap H locs) (hA : ∀ q, s.heap.size ≤ q → A q) (hl : zlv ad ls nL lv)
    (k : ∀ (v : Option Value) (N' : Nat) (kd' : zD) (iv' : zI) (rf' : zF) (lw' : zG), Qc v N' kd' iv' rf' lw' → zJ (p, l, e, R, s, m, args, below, meth, c, D, cA, A, ad0, Q) N0 nL (pc + 3) lv (v.toList ++ st) N' kd' iv' rf' lw' (cells + mc) (slots + ms)) : W p l e R s m args below meth c H locs cells slots Q (F0 m pc ls (st0.map (zv ad))) := by
  intro T hT X
  have hF : ∀ q, va_A (zW cA ad N kd iv rf lw) H.size q → A q := by
    intro q h
    rcases h with ⟨k9, e9, h⟩ | h
    · exact hD.2 k9 (q, e9) h
    · exact hA q (Nat.le_trans hS.1 h)
  obtain ⟨v, st₀, t, T', L, h0, X', hL, e1, e2, ⟨⟨v', N', kd', iv', rf', lw', ad', hv, h1, h2, h3, h4, h5, hQ, hP1, hD1⟩, hz, hk⟩, stp⟩ := hr T hT X
  cases hv
  rw [h0] at hz hk
  have k1 := k v' N' kd' iv' rf' lw' hQ ad' (locs ++ L) T'.heap ls (fun k hk => by rw [h1 k (by omega)]; exact g1 k hk) h2 (by omega) h4 (fun i w hw => (g5 i w hw).mono h3) (fun w hw => by
      rcases List.mem_append.mp hw with hw | hw
      · cases v' with
        | none => cases hw
        | some x => exact h5 w (by rw [List.mem_singleton.mp hw])
      · exact (g6 w hw).mono h3) (by rw [e1]; exact hP1) (hD1.weaken (fun _ q _ h => hF q.1 h)) ⟨Nat.le_trans hS.1 (by rw [e1]; exact hz), fun q q1 q2 => by rw [e1, hk q (Nat.lt_of_lt_of_le q1 hS.1) (fun z => q2 (hF q z))]; exact hS.2.1 q q1 q2, fun q hq => by
      rcases List.mem_append.mp hq with h | h
      · exact hS.2.2 q h
      · exact hF _ (hL q h)⟩ (hl.ad g5 h1)
  rw [List.map_append, zvs_ad g6 h1, show v'.toList.map (zv ad') = (v'.map (zv ad')).toList by cases v' <;> rfl] at k1
  obtain ⟨t2, a1, b1⟩ := k1 T' rfl X'
  exact ⟨t2, stp t2 a1, b1⟩
theorem zpre {p : Program} {s : State} {H : Heap} {locs : List Loc} {D : va_G} {cA : Nat → ClassId} {A : Nat → Prop} {ad0 ad : Nat → Nat} {as : List Value} (g1 : ∀ k, k < N0 ∨ 1000 ≤ k → ad k = ad0 k) (g2 : zok N rf) (g4 : N ≤ 1000) (has : ∀ v ∈ as, zvok N v) (hP : va_P D zcl (zW cA ad N kd iv rf lw) H) (hD : va_D A (zW cA ad N kd iv rf lw)) (hK : va_K D zcl (ztys cA) s) (hZ : zStr ad0 A s s.heap) (hS : va_S A s.heap H locs) (hA : ∀ q, s.heap.size ≤ q → A q) : ∀ U : State, U.heap = H → s.WarmedH U.vm → zPre D cA ad H.size as N kd iv rf lw (as.map (zv ad)).toArray U := by
  intro U hU hW
  have hF : ∀ q, va_A (zW cA ad N kd iv rf lw) H.size q → A q := by
    intro q h
    rcases h with ⟨k9, e9, h⟩ | h
    · exact hD.2 k9 (q, e9) h
    · exact hA q (Nat.le_trans hS.1 h)
  refine ⟨rfl, by rw [hU], g2, g4, has, by rw [hU]; exact hP, va_K.moved hW.alike hK, hD.weaken (fun _ _ _ _ => trivial), ?_⟩
  have z1 := ((hZ.kept hS.2.1).narrow hF).warm hW
  rw [hU]
  exact z1.ad (fun k hk => g1 k (Or.inr hk))
theorem zgin {y : MethodName} {cb : ByteArray} {nb : Nat} {rb : Option FieldType} {n : Nat} (hY : zYb y cb nb rb n) : GoodIn zw (Cond.code y cb nb rb :: zw) := by
  intro w hw
  rcases List.mem_cons.mp hw with rfl | hw
  · exact ⟨hY.1, zgood _ hY.1⟩
  · exact ⟨hw, zgood w hw⟩
theorem z_callV {y : MethodName} {cb : ByteArray} {nb : Nat} {rb : Option FieldType} {n index b ci : Nat} {lb mc ms : Nat} {As : List Value} {st0 : List Value} {Qc : zP} {C0 : String} {T0 : u_T} {n0 : Nat} (C : zC X cc nL own ret nm lvl MC MS) (hd : zd cc pc (.invokevirtual index) 3 pc') (hm : Cond.methodLink own index y ∈ zw) (hY : zYv y cb nb rb n) (hM : zM y cb nb rb lb mc ms (.ref b :: As) N kd iv rf lw Qc) (hci : zCl ci C0 T0 n0) (hcy : y.cls = C0) (hk : kd b = (ci + 4, 0)) (hbb : b < 1000) (hlb : lb + 1 ≤ lvl) (hst : st0 = As.reverse ++ .ref b :: st) (hn : As.length = n) (hrm : (st.map fun v => v.category).sum ≤ 8) (hc : cells + mc ≤ MC) (hs : slots + ms ≤ MS)
    (k : ∀ (v : Option Value) (N' : Nat) (kd' : zD) (iv' : zI) (rf' : zF) (lw' : zG), Qc v N' kd' iv' rf' lw' → zJ X N0 nL pc' lv (v.toList ++ st) N' kd' iv' rf' lw' (cells + mc) (slots + ms)) : zJ X N0 nL pc lv st0 N kd iv rf lw cells slots := by
  obtain ⟨p, l, e, R, s, m, args, below, meth, c, D, cA, A, ad0, Q⟩ := X
  obtain ⟨hx, hb, hml, hown, hts, hK, hA, hR, hZ, hr, hlk, hnm⟩ := C
  intro ad locs H ls g1 g2 g3 g4 g5 g6 hP hD hS hl
  obtain ⟨hd, rfl⟩ := hd
  obtain ⟨r1, r2, r3, r4⟩ := hR
  subst hst
  have h6 : (∀ v ∈ (.ref b :: As : List Value), zvok N v) ∧ ∀ v ∈ st, zvok N v := ⟨fun v hv => g6 v (by
    rcases List.mem_cons.mp hv with rfl | hv
    · simp
    · simp [hv]), fun v hv => g6 v (by simp [hv])⟩
  have hbN := zlt (h6.1 _ List.mem_cons_self) hbb
  obtain ⟨c1, -⟩ := hci
  have hYb := hY.1
  obtain ⟨y1, y2, y3, y4, y5⟩ := hY.1
  refine zrun (N0 := N0) (nL := nL) (a := (Value.ref (ad b) :: As.map (zv ad)).toArray) (va_runV (C := y.cls) (b := ad b) (As := As.map (zv ad)) (n := n) (nL := nL) ⟨hx, hb, hml, hown, hts⟩ (hM l D cA ad H.size) ⟨callB_of n hts (zgin hYb) rfl rfl rfl (hts _ y2) (hts _ hm) y3 ⟨by show lb + 1 ≤ _; omega, by show 8 + (nb + 11) + 60 * lb ≤ _; omega⟩, hts _ hY.2.1, hts _ hY.2.2⟩ ⟨zPre.blind _ _ _ _ _ _ _ _ _ _, by
    rw [hcy]
    exact va_recv hK hP (ci := ci) (q0 := b) c1 (by rw [zW_get hbN, zE_obj hk]), zpre (p := p) g1 g2 g4 h6.1 hP hD hK hZ hS hA⟩ rfl (by rw [List.length_map]; exact hn) hl.1 (by show List.map (zv ad) _ = _; rw [List.map_append, List.map_reverse]; rfl) (lv_room (by rw [zv_cats]; exact hrm)) hd ⟨by omega, by omega⟩) g1 g3 g5 h6.2 hD hS hA hl k
theorem z_callS {y : MethodName} {cb : ByteArray} {nb : Nat} {rb : Option FieldType} {n index : Nat} {lb mc ms : Nat} {As : List Value} {st0 : List Value} {Qc : zP} (C : zC X cc nL own ret nm lvl MC MS) (hd : zd cc pc (.invokestatic index) 3 pc') (hm : Cond.methodLink own index y ∈ zw) (hY : zYs y cb nb rb n) (hM : zM y cb nb rb lb mc ms As N kd iv rf lw Qc) (hlb : lb + 1 ≤ lvl) (hst : st0 = As.reverse ++ st) (hn : As.length = n) (hrm : (st.map fun v => v.category).sum ≤ 8) (hc : cells + mc ≤ MC) (hs : slots + ms ≤ MS)
    (k : ∀ (v : Option Value) (N' : Nat) (kd' : zD) (iv' : zI) (rf' : zF) (lw' : zG), Qc v N' kd' iv' rf' lw' → zJ X N0 nL pc' lv (v.toList ++ st) N' kd' iv' rf' lw' (cells + mc) (slots + ms)) : zJ X N0 nL pc lv st0 N kd iv rf lw cells slots := by
  obtain ⟨p, l, e, R, s, m, args, below, meth, c, D, cA, A, ad0, Q⟩ := X
  obtain ⟨hx, hb, hml, hown, hts, hK, hA, hR, hZ, hr, hlk, hnm⟩ := C
  intro ad locs H ls g1 g2 g3 g4 g5 g6 hP hD hS hl
  obtain ⟨hd, rfl⟩ := hd
  obtain ⟨r1, r2, r3, r4⟩ := hR
  subst hst
  have h6 : (∀ v ∈ As, zvok N v) ∧ ∀ v ∈ st, zvok N v := ⟨fun v hv => g6 v (by simp [hv]), fun v hv => g6 v (by simp [hv])⟩
  have hYb := hY.1
  obtain ⟨y1, y2, y3, y4, y5⟩ := hY.1
  exact zrun (N0 := N0) (nL := nL) (a := (As.map (zv ad)).toArray) (va_runS (As := As.map (zv ad)) (n := n) (nL := nL) ⟨hx, hb, hml, hown, hts⟩ (hM l D cA ad H.size) ⟨callB_of n hts (zgin hYb) rfl rfl rfl (hts _ y2) (hts _ hm) y3 ⟨by show lb + 1 ≤ _; omega, by show 8 + (nb + 11) + 60 * lb ≤ _; omega⟩, hts _ hY.2⟩ ⟨zPre.blind _ _ _ _ _ _ _ _ _ _, zpre (p := p) g1 g2 g4 h6.1 hP hD hK hZ hS hA⟩ rfl (by rw [List.length_map]; exact hn) hl.1 (by show List.map (zv ad) _ = _; rw [List.map_append, List.map_reverse]) (lv_room (by rw [zv_cats]; exact hrm)) hd ⟨by omega, by omega⟩) g1 g3 g5 h6.2 hD hS hA hl k
theorem z_callI {y : MethodName} {cb : ByteArray} {nb : Nat} {n index b : Nat} {lb mc ms : Nat} {As : List Value} {st0 : List Value} {Qc : zP} (C : zC X cc nL own ret nm lvl MC MS) (hd : zd cc pc (.invokespecial index) 3 pc') (hm : Cond.methodLink own index y ∈ zw) (hY : zYi y cb nb none n) (hM : zM y cb nb none lb mc ms (.ref b :: As) N kd iv rf lw Qc) (hlb : lb + 1 ≤ lvl) (hst : st0 = As.reverse ++ .ref b :: st) (hn : As.length = n) (hrm : (st.map fun v => v.category).sum ≤ 8) (hc : cells + mc ≤ MC) (hs : slots + ms ≤ MS)
    (k : ∀ (v : Option Value) (N' : Nat) (kd' : zD) (iv' : zI) (rf' : zF) (lw' : zG), Qc v N' kd' iv' rf' lw' → zJ X N0 nL pc' lv (v.toList ++ st) N' kd' iv' rf' lw' (cells + mc) (slots + ms)) : zJ X N0 nL pc lv st0 N kd iv rf lw cells slots := by
  obtain ⟨p, l, e, R, s, m, args, below, meth, c, D, cA, A, ad0, Q⟩ := X
  obtain ⟨hx, hb, hml, hown, hts, hK, hA, hR, hZ, hr, hlk, hnm⟩ := C
  intro ad locs H ls g1 g2 g3 g4 g5 g6 hP hD hS hl
  obtain ⟨hd, rfl⟩ := hd
  obtain ⟨r1, r2, r3, r4⟩ := hR
  subst hst
  have h6 : (∀ v ∈ (.ref b :: As : List Value), zvok N v) ∧ ∀ v ∈ st, zvok N v := ⟨fun v hv => g6 v (by
    rcases List.mem_cons.mp hv with rfl | hv
    · simp
    · simp [hv]), fun v hv => g6 v (by simp [hv])⟩
  have hYb := hY.1
  obtain ⟨y1, y2, y3, y4, y5⟩ := hY.1
  exact zrun (N0 := N0) (nL := nL) (a := (Value.ref (ad b) :: As.map (zv ad)).toArray) (va_runI (b := ad b) (As := As.map (zv ad)) (n := n) (nL := nL) ⟨hx, hb, hml, hown, hts⟩ (hM l D cA ad H.size) ⟨callB_of n hts (zgin hYb) rfl rfl rfl (hts _ y2) (hts _ hm) y3 ⟨by show lb + 1 ≤ _; omega, by show 8 + (nb + 11) + 60 * lb ≤ _; omega⟩, hY.2.2, hts _ hY.2.1⟩ ⟨zPre.blind _ _ _ _ _ _ _ _ _ _, zpre (p := p) g1 g2 g4 h6.1 hP hD hK hZ hS hA⟩ rfl (by rw [List.length_map]; exact hn) hl.1 (by show List.map (zv ad) _ = _; rw [List.map_append, List.map_reverse]; rfl) (lv_room (by rw [zv_cats]; exact hrm)) hd ⟨by omega, by omega⟩) g1 g3 g5 h6.2 hD hS hA hl k
theorem z_obj {index b : Nat} (C : zC X cc nL own ret nm lvl MC MS) (hd : zd cc pc (.invokespecial index) 3 pc') (hm : Cond.methodLink own index objectInit ∈ zw) (hlv : 1 ≤ lvl) (hrm : (st.map fun v => v.category).sum ≤ 8) (k : zJ X N0 nL pc' lv st N kd iv rf lw cells slots) : zJ X N0 nL pc lv (.ref b :: st) N kd iv rf lw cells slots := by
  obtain ⟨p, l, e, R, s, m, args, below, meth, c, D, cA, A, ad0, Q⟩ := X
  obtain ⟨hx, hb, hml, hown, hts, hK, hA, hR, hZ, hr, hlk, hnm⟩ := C
  intro ad locs H ls g1 g2 g3 g4 g5 g6 hP hD hS hl
  obtain ⟨hd, rfl⟩ := hd
  obtain ⟨r1, r2, r3, r4⟩ := hR
  exact W.objInit hx hb hown (hts _ hm) (hts _ zo_inst) (hts _ zo_code) rfl (by rw [hml]; exact hl.1) rfl hd (by omega) (by have h9 := lv_room (m := m) (pc := pc) (ls := ls) (rest := (.ref b :: st : List Value).map (zv ad)) (st := st.map (zv ad)) (by rw [zv_cats]; exact hrm); omega) (k ad locs H ls g1 g2 g3 g4 g5 (ztl g6) hP hD hS hl)
end ZE
