/-! THE ENGINE: one world for all methods. Its cells have numbers (not addresses); ad gives each number its address. kd: what a cell is ((0, n) an int array of n, (1, n) bytes, (2, n) booleans, (3, n) references to coaches, (ci + 4, 0) an object of class ci of zcl); iv, rf, lw: its ints, references (to cells by number), longs. -/
abbrev zI : Type := Nat → Nat → Int32
abbrev zF : Type := Nat → Nat → Option Nat
abbrev zG : Type := Nat → Nat → Int64
abbrev zD : Type := Nat → Nat × Nat
def zv (ad : Nat → Nat) (v : Value) : Value := match v with
  | .ref k => .ref (ad k)
  | w => w
def zfv (ad : Nat → Nat) (t : FieldType) (x : Int32) (r : Option Nat) (w : Int64) : Value := match t with
  | .int => .int x
  | .long => .long w
  | _ => va_rf (r.map ad)
def zobj (ad : Nat → Nat) (ci : Nat) (x : Nat → Int32) (r : Nat → Option Nat) (w : Nat → Int64) : List Value := (List.range (znf ci)).map (fun j => zfv ad (zft ci j) (x j) (r j) (w j))
def zE (cA : Nat → ClassId) (ad : Nat → Nat) (q : Nat × Nat) (x : Nat → Int32) (r : Nat → Option Nat) (w : Nat → Int64) : va_E := match q with
  | (0, n) => .inl (cA 0, n, .inl x)
  | (1, n) => .inl (cA 1, n, .inl x)
  | (2, n) => .inl (cA 2, n, .inl x)
  | (3, n) => .inl (cA 3, n, .inr (.inr (.inr (.inr (fun j => (r j).map ad)))))
  | (ci + 4, _) => .inr (ci, zobj ad ci x r w)
def zW (cA : Nat → ClassId) (ad : Nat → Nat) (N : Nat) (kd : zD) (iv : zI) (rf : zF) (lw : zG) : va_W := (List.range N).map (fun k => (ad k, zE cA ad (kd k) (iv k) (rf k) (lw k)))
abbrev ztys (cA : Nat → ClassId) : List (ClassId × FieldType) := [(cA 0, .int), (cA 1, .byte), (cA 2, .boolean), (cA 3, .object RX0)]
def zu (iv : zI) (k i : Nat) (x : Int32) : zI := fun c => if c = k then upd (iv c) i x else iv c
def zuR (rf : zF) (k i : Nat) (x : Option Nat) : zF := fun c => if c = k then va_up (rf c) i x else rf c
def zuL (lw : zG) (k i : Nat) (x : Int64) : zG := fun c => if c = k then vp_updL (lw c) i x else lw c
def zvok (N : Nat) (v : Value) : Prop := match v with
  | .ref k => k < N ∨ 1000 ≤ k
  | _ => True
def zok (N : Nat) (rf : zF) : Prop := ∀ (k j r : Nat), rf k j = some r → r < N
theorem zW_get {cA : Nat → ClassId} {ad : Nat → Nat} {N : Nat} {kd : zD} {iv : zI} {rf : zF} {lw : zG} {k : Nat} (h : k < N) : (zW cA ad N kd iv rf lw)[k]? = some (ad k, zE cA ad (kd k) (iv k) (rf k) (lw k)) := by
  simp [zW, h]
theorem zW_set {cA : Nat → ClassId} {ad : Nat → Nat} {N : Nat} {kd : zD} {iv iv' : zI} {rf rf' : zF} {lw lw' : zG} {k : Nat} {e : va_E} (h1 : zE cA ad (kd k) (iv' k) (rf' k) (lw' k) = e) (h2 : ∀ j, j ≠ k → iv' j = iv j ∧ rf' j = rf j ∧ lw' j = lw j) : (zW cA ad N kd iv rf lw).set k (ad k, e) = zW cA ad N kd iv' rf' lw' := by
  apply List.ext_getElem?
  intro j
  by_cases hj : j = k
  · subst hj
    by_cases hl : j < N
    · rw [List.getElem?_set_self (by simp [zW, hl]), zW_get hl, h1]
    · rw [List.getElem?_eq_none (by simp [zW]; omega), List.getElem?_eq_none (by simp [zW]; omega)]
  · rw [List.getElem?_set_ne (Ne.symm hj)]
    by_cases hl : j < N
    · obtain ⟨a, b, c⟩ := h2 j hj
      rw [zW_get hl, zW_get hl, a, b, c]
    · rw [List.getElem?_eq_none (by simp [zW]; omega), List.getElem?_eq_none (by simp [zW]; omega)]
theorem zW_congr {cA : Nat → ClassId} {ad : Nat → Nat} {N : Nat} {kd kd' : zD} {iv iv' : zI} {rf rf' : zF} {lw lw' : zG} (h : ∀ k, k < N → kd k = kd' k ∧ iv k = iv' k ∧ rf k = rf' k ∧ lw k = lw' k) : zW cA ad N kd iv rf lw = zW cA ad N kd' iv' rf' lw' := by
  apply List.map_congr_left
  intro k hk
  obtain ⟨a, b, c, d⟩ := h k (List.mem_range.mp hk)
  rw [a, b, c, d]
theorem zfv_ad {ad ad' : Nat → Nat} {t : FieldType} {x : Int32} {r : Option Nat} {w : Int64} (h : ∀ k, r = some k → ad' k = ad k) : zfv ad' t x r w = zfv ad t x r w := by
  have e : r.map ad' = r.map ad := by
    cases r with
    | none => rfl
    | some k => simp [h k rfl]
  unfold zfv
  rw [e]
theorem zE_ad {cA : Nat → ClassId} {ad ad' : Nat → Nat} {q : Nat × Nat} {x : Nat → Int32} {r : Nat → Option Nat} {w : Nat → Int64} (h : ∀ j k, r j = some k → ad' k = ad k) : zE cA ad' q x r w = zE cA ad q x r w := by
  unfold zE
  split
  · rfl
  · rfl
  · rfl
  · have e : (fun j => (r j).map ad') = (fun j => (r j).map ad) := by
      funext j
      cases hr : r j with
      | none => rfl
      | some k => simp [h j k hr]
    rw [e]
  · have e : ∀ ci, zobj ad' ci x r w = zobj ad ci x r w := by
      intro ci
      apply List.map_congr_left
      intro j _
      exact zfv_ad (h j)
    rw [e]
theorem zW_ad {cA : Nat → ClassId} {ad ad' : Nat → Nat} {N : Nat} {kd : zD} {iv : zI} {rf : zF} {lw : zG} (hk : zok N rf) (h : ∀ k, k < N → ad' k = ad k) : zW cA ad' N kd iv rf lw = zW cA ad N kd iv rf lw := by
  apply List.map_congr_left
  intro k hk'
  rw [h k (List.mem_range.mp hk'), zE_ad (fun j r hr => h r (hk k j r hr))]
theorem zv_ad {ad ad' : Nat → Nat} {N : Nat} {v : Value} (hv : zvok N v) (h : ∀ k, k < N ∨ 1000 ≤ k → ad' k = ad k) : zv ad' v = zv ad v := by
  cases v with
  | ref k => show Value.ref (ad' k) = Value.ref (ad k); rw [h k hv]
  | _ => rfl
theorem zvs_ad {ad ad' : Nat → Nat} {N : Nat} {l : List Value} (hv : ∀ v ∈ l, zvok N v) (h : ∀ k, k < N ∨ 1000 ≤ k → ad' k = ad k) : l.map (zv ad') = l.map (zv ad) :=
  List.map_congr_left (fun v hv' => zv_ad (hv v hv') h)
theorem zv_cat (ad : Nat → Nat) (v : Value) : (zv ad v).category = v.category := by
  cases v <;> rfl
theorem zv_cats (ad : Nat → Nat) (l : List Value) : ((l.map (zv ad)).map fun v => v.category).sum = (l.map fun v => v.category).sum := by
  rw [List.map_map]
  exact congrArg List.sum (List.map_congr_left (fun v _ => zv_cat ad v))
theorem zv_rf (ad : Nat → Nat) (o : Option Nat) : zv ad (va_rf o) = va_rf (o.map ad) := by
  cases o <;> rfl
/-! the locals: by place, none where nothing is known -/
abbrev zLs : Type := List (Option Value)
def zlv (ad : Nat → Nat) (ls : Array Slot) (nL : Nat) (lv : zLs) : Prop := ls.size = nL ∧ lv_wf ls ∧ ∀ (i : Nat) (v : Value), lv[i]? = some (some v) → ls[i]? = some (.val (zv ad v))
def zk2 (o : Option Value) : Option Value := match o with
  | some (.long _) => none
  | some (.double _) => none
  | x => x
def zp1 : zLs → Nat → Value → zLs
  | [], _, _ => []
  | _ :: r, 0, v => some v :: r
  | a :: r, n + 1, v => (if n = 0 then zk2 a else a) :: zp1 r n v
def zn1 : zLs → zLs
  | [] => []
  | _ :: r => none :: r
def zp2 : zLs → Nat → Value → zLs
  | [], _, _ => []
  | _ :: r, 0, v => some v :: zn1 r
  | a :: r, n + 1, v => (if n = 0 then zk2 a else a) :: zp2 r n v
theorem zk2_spec {o : Option Value} {w : Value} (h : zk2 o = some w) : o = some w ∧ ¬ w.category = 2 := by
  unfold zk2 at h
  split at h
  · cases h
  · cases h
  · next h1 h2 =>
    refine ⟨h, fun hc => ?_⟩
    subst h
    cases w with
    | long x => exact h1 x rfl
    | double x => exact h2 x rfl
    | _ => simp [Value.category] at hc
theorem zp1_spec : ∀ (lv : zLs) (i : Nat) (v : Value) (j : Nat) (w : Value), (zp1 lv i v)[j]? = some (some w) → (j = i ∧ w = v) ∨ (j ≠ i ∧ lv[j]? = some (some w) ∧ ¬ (j + 1 = i ∧ w.category = 2)) := by
  intro lv
  induction lv with
  | nil => intro i v j w h; simp [zp1] at h
  | cons a r ih =>
    intro i v j w h
    cases i with
    | zero =>
      rw [zp1] at h
      cases j with
      | zero => simp at h; exact Or.inl ⟨rfl, h.symm⟩
      | succ j => simp at h; exact Or.inr ⟨by omega, by simpa using h, by omega⟩
    | succ n =>
      rw [zp1] at h
      cases j with
      | zero =>
        simp only [List.getElem?_cons_zero, Option.some.injEq] at h
        by_cases hn : n = 0
        · rw [if_pos hn] at h
          obtain ⟨h1, h2⟩ := zk2_spec h
          exact Or.inr ⟨by omega, by simp [h1], fun q => h2 q.2⟩
        · rw [if_neg hn] at h
          exact Or.inr ⟨by omega, by simp [h], by omega⟩
      | succ j =>
        simp only [List.getElem?_cons_succ] at h
        rcases ih n v j w h with ⟨e1, e2⟩ | ⟨e1, e2, e3⟩
        · exact Or.inl ⟨by omega, e2⟩
        · exact Or.inr ⟨by omega, by simpa using e2, fun q => e3 ⟨by omega, q.2⟩⟩
theorem zp2_spec : ∀ (lv : zLs) (i : Nat) (v : Value) (j : Nat) (w : Value), (zp2 lv i v)[j]? = some (some w) → (j = i ∧ w = v) ∨ (j ≠ i ∧ j ≠ i + 1 ∧ lv[j]? = some (some w) ∧ ¬ (j + 1 = i ∧ w.category = 2)) := by
  intro lv
  induction lv with
  | nil => intro i v j w h; simp [zp2] at h
  | cons a r ih =>
    intro i v j w h
    cases i with
    | zero =>
      rw [zp2] at h
      cases j with
      | zero => simp at h; exact Or.inl ⟨rfl, h.symm⟩
      | succ j =>
        simp only [List.getElem?_cons_succ] at h
        cases r with
        | nil => simp [zn1] at h
        | cons b r =>
          rw [zn1] at h
          cases j with
          | zero => simp at h
          | succ j => exact Or.inr ⟨by omega, by omega, by simpa using h, by omega⟩
    | succ n =>
      rw [zp2] at h
      cases j with
      | zero =>
        simp only [List.getElem?_cons_zero, Option.some.injEq] at h
        by_cases hn : n = 0
        · rw [if_pos hn] at h
          obtain ⟨h1, h2⟩ := zk2_spec h
          exact Or.inr ⟨by omega, by omega, by simp [h1], fun q => h2 q.2⟩
        · rw [if_neg hn] at h
          exact Or.inr ⟨by omega, by omega, by simp [h], by omega⟩
      | succ j =>
        simp only [List.getElem?_cons_succ] at h
        rcases ih n v j w h with ⟨e1, e2⟩ | ⟨e1, e4, e2, e3⟩
        · exact Or.inl ⟨by omega, e2⟩
        · exact Or.inr ⟨by omega, by omega, by simpa using e2, fun q => e3 ⟨by omega, q.2⟩⟩
/-- as the kit lists them -/
def zla (ad : Nat → Nat) (lv : zLs) : List (Nat × Value) := (List.range lv.length).filterMap (fun i => match lv[i]? with
  | some (some v) => some (i, zv ad v)
  | _ => none)
theorem zla_in {ad : Nat → Nat} {lv : zLs} {i : Nat} {v : Value} (h : lv[i]? = some (some v)) : (i, zv ad v) ∈ zla ad lv := by
  have hl : i < lv.length := (List.getElem?_eq_some_iff.mp h).1
  exact List.mem_filterMap.mpr ⟨i, List.mem_range.mpr hl, by rw [h]⟩
theorem zlv.has {ad : Nat → Nat} {ls : Array Slot} {nL : Nat} {lv : zLs} (h : zlv ad ls nL lv) : lv_has ls nL (zla ad lv) := by
  refine ⟨h.1, h.2.1, fun q hq => ?_⟩
  obtain ⟨i, -, hi⟩ := List.mem_filterMap.mp hq
  split at hi
  · next v hv =>
    cases hi
    exact h.2.2 i v hv
  · cases hi
theorem zlv.put1 {ad : Nat → Nat} {ls' : Array Slot} {nL : Nat} {lv : zLs} {i : Nat} {v : Value} (h : lv_has ls' nL ((i, zv ad v) :: (zla ad lv).filter (fun q => !(q.1 == i) && !(q.1 + 1 == i && q.2.category == 2)))) : zlv ad ls' nL (zp1 lv i v) := by
  refine ⟨h.1, h.2.1, fun j w hj => ?_⟩
  rcases zp1_spec lv i v j w hj with ⟨rfl, rfl⟩ | ⟨e1, e2, e3⟩
  · exact h.2.2 (j, zv ad w) List.mem_cons_self
  · refine h.2.2 (j, zv ad w) (List.mem_cons_of_mem _ (List.mem_filter.mpr ⟨zla_in e2, ?_⟩))
    simp only [zv_cat, Bool.and_eq_true, Bool.not_eq_true', beq_eq_false_iff_ne, ne_eq, Bool.and_eq_false_imp, beq_iff_eq]
    exact ⟨e1, fun a b => e3 ⟨a, b⟩⟩
theorem zlv.put2 {ad : Nat → Nat} {ls' : Array Slot} {nL : Nat} {lv : zLs} {i : Nat} {v : Value} (h : lv_has ls' nL ((i, zv ad v) :: (zla ad lv).filter (fun q => !(q.1 == i) && (!(q.1 == i + 1) && !(q.1 + 1 == i && q.2.category == 2))))) : zlv ad ls' nL (zp2 lv i v) := by
  refine ⟨h.1, h.2.1, fun j w hj => ?_⟩
  rcases zp2_spec lv i v j w hj with ⟨rfl, rfl⟩ | ⟨e1, e4, e2, e3⟩
  · exact h.2.2 (j, zv ad w) List.mem_cons_self
  · refine h.2.2 (j, zv ad w) (List.mem_cons_of_mem _ (List.mem_filter.mpr ⟨zla_in e2, ?_⟩))
    simp only [zv_cat, Bool.and_eq_true, Bool.not_eq_true', beq_eq_false_iff_ne, ne_eq, Bool.and_eq_false_imp, beq_iff_eq]
    exact ⟨e1, e4, fun a b => e3 ⟨a, b⟩⟩
def zlok (N : Nat) (lv : zLs) : Prop := ∀ (i : Nat) (v : Value), lv[i]? = some (some v) → zvok N v
theorem zlok.put1 {N : Nat} {lv : zLs} {i : Nat} {v : Value} (h : zlok N lv) (hv : zvok N v) : zlok N (zp1 lv i v) := by
  intro j w hj
  rcases zp1_spec lv i v j w hj with ⟨-, rfl⟩ | ⟨-, e2, -⟩
  · exact hv
  · exact h j w e2
theorem zlok.put2 {N : Nat} {lv : zLs} {i : Nat} {v : Value} (h : zlok N lv) (hv : zvok N v) : zlok N (zp2 lv i v) := by
  intro j w hj
  rcases zp2_spec lv i v j w hj with ⟨-, rfl⟩ | ⟨-, -, e2, -⟩
  · exact hv
  · exact h j w e2
theorem zlv.ad {ad ad' : Nat → Nat} {ls : Array Slot} {nL N : Nat} {lv : zLs} (h : zlv ad ls nL lv) (hv : zlok N lv) (ha : ∀ k, k < N ∨ 1000 ≤ k → ad' k = ad k) : zlv ad' ls nL lv :=
  ⟨h.1, h.2.1, fun i v hi => by rw [zv_ad (hv i v hi) ha]; exact h.2.2 i v hi⟩
theorem zvok.mono {N N' : Nat} {v : Value} (h : zvok N v) (hN : N ≤ N') : zvok N' v := by
  cases v with
  | ref k => exact Or.imp (fun q => Nat.lt_of_lt_of_le q hN) id h
  | _ => trivial
def zargs : List Value → zLs
  | [] => []
  | v :: r => if v.category = 2 then some v :: none :: zargs r else some v :: zargs r
theorem zargs_spec : ∀ (as : List Value) (d i : Nat) (v : Value), (zargs as)[i]? = some (some v) → (d + i, v) ∈ lv_args d as ∧ v ∈ as := by
  intro as
  induction as with
  | nil => intro d i v h; simp [zargs] at h
  | cons a r ih =>
    intro d i v h
    rw [zargs] at h
    rw [lv_args]
    by_cases hc : a.category = 2
    · rw [if_pos hc] at h ⊢
      match i, h with
      | 0, h => simp at h; subst h; exact ⟨by simp, by simp⟩
      | 1, h => simp at h
      | i + 2, h =>
        simp only [List.getElem?_cons_succ] at h
        obtain ⟨h1, h2⟩ := ih (d + 2) i v h
        exact ⟨List.mem_cons_of_mem _ (by rw [show d + (i + 2) = d + 2 + i by omega]; exact h1), List.mem_cons_of_mem _ h2⟩
    · rw [if_neg hc] at h ⊢
      match i, h with
      | 0, h => simp at h; subst h; exact ⟨by simp, by simp⟩
      | i + 1, h =>
        simp only [List.getElem?_cons_succ] at h
        obtain ⟨h1, h2⟩ := ih (d + 1) i v h
        exact ⟨List.mem_cons_of_mem _ (by rw [show d + (i + 1) = d + 1 + i by omega]; exact h1), List.mem_cons_of_mem _ h2⟩
/-! String constants, a static of String, one of Preconditions, the row of coaches: the same all along -/
def zWORDS : String := "when do wait go change or and not late load mud miles mail night fresh tired inn waited "
def zSIGNS : String := ";<>=+-()"
def zbyt : List (List Int32) := [zWORDS.toList.map (fun c => Int32.ofNat c.toNat), zSIGNS.toList.map (fun c => Int32.ofNat c.toNat)]
def zStr (ad : Nat → Nat) (A : Nat → Prop) (U : State) (H : Heap) : Prop :=
  vk_S 2 [88, 8] zbyt (fun i => ad (1000 + i)) (fun i => ad (1010 + i)) A U H ∧ vk_R RX6 72 zWORDS (ad 1000) U ∧ vk_R RX6 62 zSIGNS (ad 1001) U ∧ va_Z "java/lang/String" "COMPACT_STRINGS" "Z" (.int 1) A U H ∧ (∃ v : Value, (v = .null ∨ v = .ref (ad 1020)) ∧ va_Z "jdk/internal/util/Preconditions" "SIOOBE_FORMATTER" "Ljava/util/function/BiFunction;" v A U H) ∧ va_AO RX0 U
theorem zStr.warm {ad : Nat → Nat} {A : Nat → Prop} {s U : State} {H : Heap} (h : zStr ad A s H) (hW : s.WarmedH U.vm) : zStr ad A U H := by
  obtain ⟨h1, h2, h3, h4, ⟨v, h5, h6⟩, h7⟩ := h
  exact ⟨h1.moved hW.alike, h2.warm hW, h3.warm hW, h4.moved hW.alike, ⟨v, h5, h6.moved hW.alike⟩, va_AO.moved hW.alike h7⟩
theorem zStr.same {ad : Nat → Nat} {A : Nat → Prop} {s U : State} {H : Heap} (h : zStr ad A s H) (hv : U.vm = s.vm) : zStr ad A U H := by
  have hA : s.vm.Alike U.vm := by rw [hv]; exact Vm.Alike.refl s.vm
  obtain ⟨h1, h2, h3, h4, ⟨v, h5, h6⟩, h7⟩ := h
  exact ⟨h1.moved hA, h2.same hv, h3.same hv, h4.moved hA, ⟨v, h5, h6.moved hA⟩, va_AO.moved hA h7⟩
theorem zStr.kept {ad : Nat → Nat} {A : Nat → Prop} {U : State} {H H1 : Heap} (h : zStr ad A U H) (hq : ∀ a : Nat, a < H.size → ¬ A a → H1[a]? = H[a]?) : zStr ad A U H1 := by
  obtain ⟨h1, h2, h3, h4, ⟨v, h5, h6⟩, h7⟩ := h
  exact ⟨h1.kept hq, h2, h3, h4.kept hq, ⟨v, h5, h6.kept hq⟩, h7⟩
theorem zStr.narrow {ad : Nat → Nat} {A B : Nat → Prop} {U : State} {H : Heap} (h : zStr ad A U H) (hAB : ∀ q, B q → A q) : zStr ad B U H := by
  obtain ⟨h1, h2, h3, h4, ⟨v, h5, h6⟩, h7⟩ := h
  exact ⟨h1.narrow hAB, h2, h3, h4.narrow hAB, ⟨v, h5, h6.narrow hAB⟩, h7⟩
theorem zStr.ad {ad ad' : Nat → Nat} {A : Nat → Prop} {U : State} {H : Heap} (h : zStr ad A U H) (ha : ∀ k, 1000 ≤ k → ad' k = ad k) : zStr ad' A U H := by
  have e1 : (fun i => ad' (1000 + i)) = (fun i => ad (1000 + i)) := by funext i; exact ha _ (by omega)
  have e2 : (fun i => ad' (1010 + i)) = (fun i => ad (1010 + i)) := by funext i; exact ha _ (by omega)
  unfold zStr
  rw [e1, e2, ha 1000 (by omega), ha 1001 (by omega), ha 1020 (by omega)]
  exact h
