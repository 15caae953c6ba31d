/-! THE CLAIM OUT OF ONE WALK OF THE LAW'S BODY. Your part is whole_start (and what it stands on); all else here is the same for every law, but numbers. -/
def R_law : String := "StageCoachesLaw"
def lw_P (b : Addr) (xs : List Int32) (args : Array Value) (s : State) : Prop := args = #[.ref b] ∧ s.IntsAt b xs ∧ xs.length ≤ 3072 ∧ (Jvm.Cond.and given_1 narrow_1).before args s = true
def lw_Q (_ : Array Value) (s : State) (o : Outcome) (t : State) : Prop := o = .returned (some (.int 1)) ∧ Framed s o t [] 600000 7302250
def lw_Z (below : List Frame) (a : Array Value) (s : State) : State → Prop := fun t => ∃ o, t.status = .running ∧ Ended t below o ∧ lw_Q a s o t
/-- the law's own end, with 1 on the stack, nothing written that was there before, its room as the claim has it -/
theorem lw_ret {p : Program} {l : Launch} {e : Env} {s : State} {m : MethodId} {below : List Frame} {meth : Method} {c : Code} {b : Nat} (hx : p.tables.exec = Jvm.exec) (hb : c.code = code) (hr : meth.sig.returnType = ret) (hlocks : meth.locks = false) {pc : Nat} {H : Heap} {ls : Array Slot} (hdg : decode code pc = .ok (.ireturn, 1)) : W p l e room_1 s m #[Value.ref b] below meth c H [] 600000 7302250 (lw_Z below #[Value.ref b] s) (F0 m pc ls [.int 1]) := by
  intro T hT X
  obtain ⟨fs, hret, hrun, hended, hW, hframe⟩ := X.leave (v := some (.int 1)) (hlocks := hlocks) (fun h => by rw [hr] at h; cases h)
  have hmeth' : T.vm.method? m = some meth := X.method'
  refine ⟨T.setFrames fs, ?_, .returned (some (.int 1)), hrun, hended, rfl, ⟨_, rfl⟩, hW, hframe⟩
  jvm_step X.here [X.here.top, hx, hb, hdg, hmeth', hr, ret, narrow_b1]
  (try refine ⟨rfl, ?_⟩); (try refine ⟨rfl, ?_⟩)
  first | (intro acts; rw [hret _ acts rfl rfl rfl]) | rw [hret _ _ rfl rfl rfl]
  exact Steps.refl _
/-- what holds at the law's entry: the machine, the code, the tables' words (any of lw_tbl by 'hts w (by decide +kernel)'), the script of L ints xs at the cell b, what the Statement gives of the start (any of its parts by flat_of_before) -/
def lw_At (p : Program) (s : State) (m : MethodId) (meth : Method) (c : Code) (b L : Nat) (xs : Nat → Int32) : Prop :=
  p.tables.exec = Jvm.exec ∧ c.code = code ∧ meth.sig.returnType = ret ∧ c.maxLocals = 4 ∧ s.vm.findClass R_law = some m.cls ∧ (∀ w ∈ lw_tbl, w.before #[Value.ref b] s = true) ∧ va_X b L xs s s.heap ∧ b < s.heap.size ∧ meth.locks = false ∧ (Jvm.Cond.and given_1 narrow_1).before #[Value.ref b] s = true

/-- the law's own script is number 1030 -/
def zLw (X : zX) (L : Nat) (xs : Nat → Int32) : Prop := match X with
  | (p, l, e, R, s, m, args, below, meth, c, D, cA, A, ad0, Q) => R = room_1 ∧ args = #[Value.ref (ad0 1030)] ∧ va_X (ad0 1030) L xs s s.heap ∧ ad0 1030 < s.heap.size ∧ (∀ q, A q → s.heap.size ≤ q) ∧ Q = lw_Z below args s
section ZL
variable {X : zX} {N0 nL pc pc' : Nat} {lv : zLs} {st : List Value} {N : Nat} {kd : zD} {iv : zI} {rf : zF} {lw : zG} {cells slots lvl MC MS : Nat} {cc : ByteArray} {own : String} {ret2 : Option FieldType} {nm : String} {L : Nat} {xs : Nat → Int32}
theorem z_sld {i : Int32} (C : zC X cc nL own ret2 nm lvl MC MS) (B : zLw X L xs) (hd : zd cc pc .iaload 1 pc') (hi : vp_in i L) (k : zJ X N0 nL pc' lv (.int (xs i.toNatClampNeg) :: st) N kd iv rf lw cells slots) : zJ X N0 nL pc lv (.int i :: .ref 1030 :: st) N kd iv rf lw cells slots := by
  obtain ⟨p, l, e, R, s, m, args, below, meth, c, D, cA, A, ad0, Q⟩ := X
  obtain ⟨hx, hb, -⟩ := C
  obtain ⟨-, -, hX, hbl, hbA, -⟩ := B
  intro ad locs H ls g1 g2 g3 g4 g5 g6 hP hD hS hl
  obtain ⟨hd, rfl⟩ := hd
  have e9 : ad 1030 = ad0 1030 := g1 1030 (Or.inr (by decide))
  show W p l e R s m args below meth c H locs cells slots Q (F0 m pc ls (.int i :: .ref (ad 1030) :: st.map (zv ad)))
  rw [e9]
  exact va_sld hx hb hX hbl (fun z => absurd (hbA _ z) (Nat.not_le.mpr hbl)) hS hi hd (k ad locs H ls g1 g2 g3 g4 g5 (zst1 (ztl (ztl g6)) trivial) hP hD hS hl)
theorem z_slen (C : zC X cc nL own ret2 nm lvl MC MS) (B : zLw X L xs) (hd : zd cc pc .arraylength 1 pc') (k : zJ X N0 nL pc' lv (.int (nI L) :: st) N kd iv rf lw cells slots) : zJ X N0 nL pc lv (.ref 1030 :: st) N kd iv rf lw cells slots := by
  obtain ⟨p, l, e, R, s, m, args, below, meth, c, D, cA, A, ad0, Q⟩ := X
  obtain ⟨hx, hb, -⟩ := C
  obtain ⟨-, -, hX, hbl, hbA, -⟩ := B
  intro ad locs H ls g1 g2 g3 g4 g5 g6 hP hD hS hl
  obtain ⟨hd, rfl⟩ := hd
  have e9 : ad 1030 = ad0 1030 := g1 1030 (Or.inr (by decide))
  show W p l e R s m args below meth c H locs cells slots Q (F0 m pc ls (.ref (ad 1030) :: st.map (zv ad)))
  rw [e9]
  exact va_slen hx hb hX hbl (fun z => absurd (hbA _ z) (Nat.not_le.mpr hbl)) hS hd (k ad locs H ls g1 g2 g3 g4 g5 (zst1 (ztl g6) trivial) hP hD hS hl)
theorem z_lret (C : zC X cL_law nL own (some .boolean) nm lvl MC MS) (B : zLw X L xs) (hd : zd cL_law pc .ireturn 1 pc') (hc : cells ≤ 600000) (hs : slots ≤ 7302250) : zJ X N0 nL pc lv [.int 1] N kd iv rf lw cells slots := by
  obtain ⟨p, l, e, R, s, m, args, below, meth, c, D, cA, A, ad0, Q⟩ := X
  obtain ⟨hx, hb, hml, hown, hts, hK, hA, hR, hZ, hr, hlk, hnm⟩ := C
  obtain ⟨rfl, rfl, hX, hbl, hbA, rfl⟩ := B
  intro ad locs H ls g1 g2 g3 g4 g5 g6 hP hD hS hl
  obtain ⟨hd, rfl⟩ := hd
  refine va_forget (fun q hq => hbA _ (hS.2.2 q hq)) ?_
  refine W.widen hc hs ?_
  exact lw_ret hx hb hr hlk hd
end ZL
theorem zad6 (c k : Nat) : nI (6 * c) + nI k = nI (6 * c + k) := nI_add _ _

set_option maxHeartbeats 2000000 in
set_option maxRecDepth 8000 in
theorem lc_stage (X : zX) {nm : String} (L : Nat) (xs : Nat → Int32) (n c : Nat) (iv : zI) (lw : zG) (C : zC X cL_law 4 RL (some .boolean) nm 100 600000 7302250) (B : zLw X L xs) (hl : 6 * c + 5 < L) (hL : L ≤ 3072) (hR : zRw n c iv) (kk : ∀ (n2 : Nat) (iv2 : zI) (lw2 : zG), zRw n2 (c + 1) iv2 → zJ X 0 4 1009 [some (.ref 1030), some (.ref 0), some (.ref 41), some (.int (nI (6 * c)))] [] (91 + 3 * n2) skd iv2 (srf n2) lw2 (103 + 3 * c) (10025 + 25 * c)) : zJ X 0 4 148 [some (.ref 1030), some (.ref 0), some (.ref 41), some (.int (nI (6 * c)))] [] (91 + 3 * n) skd iv (srf n) lw (100 + 3 * c) (10000 + 25 * c) := by
  refine z_aload_n C dL_law_148 rfl ?_
  refine z_aload_n C dL_law_149 rfl ?_
  refine z_iload_n C dL_law_150 rfl ?_
  refine z_iconst (v := 1) C dL_law_151 (by decide) ?_
  refine z_iadd C dL_law_152 ?_
  refine z_eqi (zad6 c 1) ?_
  refine z_sld C B dL_law_153 (vp_in_nI (by omega) (by omega)) ?_
  refine z_aload_n C dL_law_154 rfl ?_
  refine z_iload_n C dL_law_155 rfl ?_
  refine z_iconst (v := 2) C dL_law_156 (by decide) ?_
  refine z_iadd C dL_law_157 ?_
  refine z_eqi (zad6 c 2) ?_
  refine z_sld C B dL_law_158 (vp_in_nI (by omega) (by omega)) ?_
  refine z_aload_n C dL_law_159 rfl ?_
  refine z_iload_n C dL_law_160 rfl ?_
  refine z_iconst (v := 3) C dL_law_161 (by decide) ?_
  refine z_iadd C dL_law_162 ?_
  refine z_eqi (zad6 c 3) ?_
  refine z_sld C B dL_law_163 (vp_in_nI (by omega) (by omega)) ?_
  obtain ⟨lx, hlx, hMx⟩ := k_stage (lw := lw) hR (xs (nI (6 * c + 1)).toNatClampNeg) (xs (nI (6 * c + 2)).toNatClampNeg) (xs (nI (6 * c + 3)).toNatClampNeg)
  refine zs_callVq C dL_law_164 zm_L_13 zyX9_stage hMx zc_9 rfl zk_0 (by decide) (by omega) rfl rfl (Nat.le_of_ble_eq_true rfl) (by omega) (by omega) (fun v1 iv1 lw1 hq1 => ?_)
  obtain ⟨r, rfl, lm, hlm, hMm⟩ := hq1
  refine z_aload_n C dL_law_167 rfl ?_
  refine z_aload_n C dL_law_168 rfl ?_
  refine z_iload_n C dL_law_169 rfl ?_
  refine z_iconst (v := 1) C dL_law_170 (by decide) ?_
  refine z_iadd C dL_law_171 ?_
  refine z_eqi (zad6 c 1) ?_
  refine z_sld C B dL_law_172 (vp_in_nI (by omega) (by omega)) ?_
  refine z_aload_n C dL_law_173 rfl ?_
  refine z_iload_n C dL_law_174 rfl ?_
  refine z_iconst (v := 2) C dL_law_175 (by decide) ?_
  refine z_iadd C dL_law_176 ?_
  refine z_eqi (zad6 c 2) ?_
  refine z_sld C B dL_law_177 (vp_in_nI (by omega) (by omega)) ?_
  refine z_aload_n C dL_law_178 rfl ?_
  refine z_iload_n C dL_law_179 rfl ?_
  refine z_iconst (v := 3) C dL_law_180 (by decide) ?_
  refine z_iadd C dL_law_181 ?_
  refine z_eqi (zad6 c 3) ?_
  refine z_sld C B dL_law_182 (vp_in_nI (by omega) (by omega)) ?_
  refine zs_callVq C dL_law_183 zm_L_17 zyX10_stage hMm zc_10 rfl zk_41 (by decide) (by omega) rfl rfl (Nat.le_of_ble_eq_true rfl) (by omega) (by omega) (fun v2 iv2 lw2 hq2 => ?_)
  obtain ⟨rfl, hR2⟩ := hq2
  refine z_icmp_eq (tgt := 1009) C dL_law_186 (by decide) (fun _ => ?_) (fun q => absurd rfl q)
  exact z_widen (by omega) (by omega) (kk n iv2 lw2 hR2)

set_option maxHeartbeats 2000000 in
set_option maxRecDepth 8000 in
theorem lc_first (X : zX) {nm : String} (L : Nat) (xs : Nat → Int32) (n c : Nat) (iv : zI) (lw : zG) (C : zC X cL_law 4 RL (some .boolean) nm 100 600000 7302250) (B : zLw X L xs) (hl : 6 * c + 5 < L) (hL : L ≤ 3072) (hR : zRw n c iv) (kk : ∀ (n2 : Nat) (iv2 : zI) (lw2 : zG), zRw n2 (c + 1) iv2 → zJ X 0 4 1009 [some (.ref 1030), some (.ref 0), some (.ref 41), some (.int (nI (6 * c)))] [] (91 + 3 * n2) skd iv2 (srf n2) lw2 (103 + 3 * c) (10025 + 25 * c)) : zJ X 0 4 191 [some (.ref 1030), some (.ref 0), some (.ref 41), some (.int (nI (6 * c)))] [] (91 + 3 * n) skd iv (srf n) lw (100 + 3 * c) (10000 + 25 * c) := by
  refine z_aload_n C dL_law_191 rfl ?_
  refine z_aload_n C dL_law_192 rfl ?_
  refine z_iload_n C dL_law_193 rfl ?_
  refine z_iconst (v := 1) C dL_law_194 (by decide) ?_
  refine z_iadd C dL_law_195 ?_
  refine z_eqi (zad6 c 1) ?_
  refine z_sld C B dL_law_196 (vp_in_nI (by omega) (by omega)) ?_
  refine z_aload_n C dL_law_197 rfl ?_
  refine z_iload_n C dL_law_198 rfl ?_
  refine z_iconst (v := 2) C dL_law_199 (by decide) ?_
  refine z_iadd C dL_law_200 ?_
  refine z_eqi (zad6 c 2) ?_
  refine z_sld C B dL_law_201 (vp_in_nI (by omega) (by omega)) ?_
  refine z_aload_n C dL_law_202 rfl ?_
  refine z_iload_n C dL_law_203 rfl ?_
  refine z_iconst (v := 3) C dL_law_204 (by decide) ?_
  refine z_iadd C dL_law_205 ?_
  refine z_eqi (zad6 c 3) ?_
  refine z_sld C B dL_law_206 (vp_in_nI (by omega) (by omega)) ?_
  obtain ⟨lx, hlx, hMx⟩ := k_first (lw := lw) hR (xs (nI (6 * c + 1)).toNatClampNeg) (xs (nI (6 * c + 2)).toNatClampNeg) (xs (nI (6 * c + 3)).toNatClampNeg)
  refine zs_callVq C dL_law_207 zm_L_18 zyX9_first hMx zc_9 rfl zk_0 (by decide) (by omega) rfl rfl (Nat.le_of_ble_eq_true rfl) (by omega) (by omega) (fun v1 iv1 lw1 hq1 => ?_)
  obtain ⟨r, rfl, lm, hlm, hMm⟩ := hq1
  refine z_aload_n C dL_law_210 rfl ?_
  refine z_aload_n C dL_law_211 rfl ?_
  refine z_iload_n C dL_law_212 rfl ?_
  refine z_iconst (v := 1) C dL_law_213 (by decide) ?_
  refine z_iadd C dL_law_214 ?_
  refine z_eqi (zad6 c 1) ?_
  refine z_sld C B dL_law_215 (vp_in_nI (by omega) (by omega)) ?_
  refine z_aload_n C dL_law_216 rfl ?_
  refine z_iload_n C dL_law_217 rfl ?_
  refine z_iconst (v := 2) C dL_law_218 (by decide) ?_
  refine z_iadd C dL_law_219 ?_
  refine z_eqi (zad6 c 2) ?_
  refine z_sld C B dL_law_220 (vp_in_nI (by omega) (by omega)) ?_
  refine z_aload_n C dL_law_221 rfl ?_
  refine z_iload_n C dL_law_222 rfl ?_
  refine z_iconst (v := 3) C dL_law_223 (by decide) ?_
  refine z_iadd C dL_law_224 ?_
  refine z_eqi (zad6 c 3) ?_
  refine z_sld C B dL_law_225 (vp_in_nI (by omega) (by omega)) ?_
  refine zs_callVq C dL_law_226 zm_L_22 zyX10_first hMm zc_10 rfl zk_41 (by decide) (by omega) rfl rfl (Nat.le_of_ble_eq_true rfl) (by omega) (by omega) (fun v2 iv2 lw2 hq2 => ?_)
  obtain ⟨rfl, hR2⟩ := hq2
  refine z_icmp_eq (tgt := 1009) C dL_law_229 (by decide) (fun _ => ?_) (fun q => absurd rfl q)
  exact z_widen (by omega) (by omega) (kk n iv2 lw2 hR2)

set_option maxHeartbeats 2000000 in
set_option maxRecDepth 8000 in
theorem lc_mud (X : zX) {nm : String} (L : Nat) (xs : Nat → Int32) (n c : Nat) (iv : zI) (lw : zG) (C : zC X cL_law 4 RL (some .boolean) nm 100 600000 7302250) (B : zLw X L xs) (hl : 6 * c + 5 < L) (hL : L ≤ 3072) (hR : zRw n c iv) (kk : ∀ (n2 : Nat) (iv2 : zI) (lw2 : zG), zRw n2 (c + 1) iv2 → zJ X 0 4 1009 [some (.ref 1030), some (.ref 0), some (.ref 41), some (.int (nI (6 * c)))] [] (91 + 3 * n2) skd iv2 (srf n2) lw2 (103 + 3 * c) (10025 + 25 * c)) : zJ X 0 4 234 [some (.ref 1030), some (.ref 0), some (.ref 41), some (.int (nI (6 * c)))] [] (91 + 3 * n) skd iv (srf n) lw (100 + 3 * c) (10000 + 25 * c) := by
  refine z_aload_n C dL_law_234 rfl ?_
  refine z_aload_n C dL_law_235 rfl ?_
  refine z_iload_n C dL_law_236 rfl ?_
  refine z_iconst (v := 1) C dL_law_237 (by decide) ?_
  refine z_iadd C dL_law_238 ?_
  refine z_eqi (zad6 c 1) ?_
  refine z_sld C B dL_law_239 (vp_in_nI (by omega) (by omega)) ?_
  refine z_aload_n C dL_law_240 rfl ?_
  refine z_iload_n C dL_law_241 rfl ?_
  refine z_iconst (v := 2) C dL_law_242 (by decide) ?_
  refine z_iadd C dL_law_243 ?_
  refine z_eqi (zad6 c 2) ?_
  refine z_sld C B dL_law_244 (vp_in_nI (by omega) (by omega)) ?_
  obtain ⟨lx, hlx, hMx⟩ := k_mud (lw := lw) hR (xs (nI (6 * c + 1)).toNatClampNeg) (xs (nI (6 * c + 2)).toNatClampNeg)
  refine zs_callVq C dL_law_245 zm_L_23 zyX9_mud hMx zc_9 rfl zk_0 (by decide) (by omega) rfl rfl (Nat.le_of_ble_eq_true rfl) (by omega) (by omega) (fun v1 iv1 lw1 hq1 => ?_)
  obtain ⟨r, rfl, lm, hlm, hMm⟩ := hq1
  refine z_aload_n C dL_law_248 rfl ?_
  refine z_aload_n C dL_law_249 rfl ?_
  refine z_iload_n C dL_law_250 rfl ?_
  refine z_iconst (v := 1) C dL_law_251 (by decide) ?_
  refine z_iadd C dL_law_252 ?_
  refine z_eqi (zad6 c 1) ?_
  refine z_sld C B dL_law_253 (vp_in_nI (by omega) (by omega)) ?_
  refine z_aload_n C dL_law_254 rfl ?_
  refine z_iload_n C dL_law_255 rfl ?_
  refine z_iconst (v := 2) C dL_law_256 (by decide) ?_
  refine z_iadd C dL_law_257 ?_
  refine z_eqi (zad6 c 2) ?_
  refine z_sld C B dL_law_258 (vp_in_nI (by omega) (by omega)) ?_
  refine zs_callVq C dL_law_259 zm_L_27 zyX10_mud hMm zc_10 rfl zk_41 (by decide) (by omega) rfl rfl (Nat.le_of_ble_eq_true rfl) (by omega) (by omega) (fun v2 iv2 lw2 hq2 => ?_)
  obtain ⟨rfl, hR2⟩ := hq2
  refine z_icmp_eq (tgt := 1009) C dL_law_262 (by decide) (fun _ => ?_) (fun q => absurd rfl q)
  exact z_widen (by omega) (by omega) (kk n iv2 lw2 hR2)

set_option maxHeartbeats 2000000 in
set_option maxRecDepth 8000 in
theorem lc_oats (X : zX) {nm : String} (L : Nat) (xs : Nat → Int32) (n c : Nat) (iv : zI) (lw : zG) (C : zC X cL_law 4 RL (some .boolean) nm 100 600000 7302250) (B : zLw X L xs) (hl : 6 * c + 5 < L) (hL : L ≤ 3072) (hR : zRw n c iv) (kk : ∀ (n2 : Nat) (iv2 : zI) (lw2 : zG), zRw n2 (c + 1) iv2 → zJ X 0 4 1009 [some (.ref 1030), some (.ref 0), some (.ref 41), some (.int (nI (6 * c)))] [] (91 + 3 * n2) skd iv2 (srf n2) lw2 (103 + 3 * c) (10025 + 25 * c)) : zJ X 0 4 267 [some (.ref 1030), some (.ref 0), some (.ref 41), some (.int (nI (6 * c)))] [] (91 + 3 * n) skd iv (srf n) lw (100 + 3 * c) (10000 + 25 * c) := by
  refine z_aload_n C dL_law_267 rfl ?_
  refine z_aload_n C dL_law_268 rfl ?_
  refine z_iload_n C dL_law_269 rfl ?_
  refine z_iconst (v := 1) C dL_law_270 (by decide) ?_
  refine z_iadd C dL_law_271 ?_
  refine z_eqi (zad6 c 1) ?_
  refine z_sld C B dL_law_272 (vp_in_nI (by omega) (by omega)) ?_
  refine z_aload_n C dL_law_273 rfl ?_
  refine z_iload_n C dL_law_274 rfl ?_
  refine z_iconst (v := 2) C dL_law_275 (by decide) ?_
  refine z_iadd C dL_law_276 ?_
  refine z_eqi (zad6 c 2) ?_
  refine z_sld C B dL_law_277 (vp_in_nI (by omega) (by omega)) ?_
  obtain ⟨lx, hlx, hMx⟩ := k_oats (lw := lw) hR (xs (nI (6 * c + 1)).toNatClampNeg) (xs (nI (6 * c + 2)).toNatClampNeg)
  refine zs_callVq C dL_law_278 zm_L_28 zyX9_oats hMx zc_9 rfl zk_0 (by decide) (by omega) rfl rfl (Nat.le_of_ble_eq_true rfl) (by omega) (by omega) (fun v1 iv1 lw1 hq1 => ?_)
  obtain ⟨r, rfl, lm, hlm, hMm⟩ := hq1
  refine z_aload_n C dL_law_281 rfl ?_
  refine z_aload_n C dL_law_282 rfl ?_
  refine z_iload_n C dL_law_283 rfl ?_
  refine z_iconst (v := 1) C dL_law_284 (by decide) ?_
  refine z_iadd C dL_law_285 ?_
  refine z_eqi (zad6 c 1) ?_
  refine z_sld C B dL_law_286 (vp_in_nI (by omega) (by omega)) ?_
  refine z_aload_n C dL_law_287 rfl ?_
  refine z_iload_n C dL_law_288 rfl ?_
  refine z_iconst (v := 2) C dL_law_289 (by decide) ?_
  refine z_iadd C dL_law_290 ?_
  refine z_eqi (zad6 c 2) ?_
  refine z_sld C B dL_law_291 (vp_in_nI (by omega) (by omega)) ?_
  refine zs_callVq C dL_law_292 zm_L_31 zyX10_oats hMm zc_10 rfl zk_41 (by decide) (by omega) rfl rfl (Nat.le_of_ble_eq_true rfl) (by omega) (by omega) (fun v2 iv2 lw2 hq2 => ?_)
  obtain ⟨rfl, hR2⟩ := hq2
  refine z_icmp_eq (tgt := 1009) C dL_law_295 (by decide) (fun _ => ?_) (fun q => absurd rfl q)
  exact z_widen (by omega) (by omega) (kk n iv2 lw2 hR2)

set_option maxHeartbeats 2000000 in
set_option maxRecDepth 8000 in
theorem lc_team (X : zX) {nm : String} (L : Nat) (xs : Nat → Int32) (n c : Nat) (iv : zI) (lw : zG) (C : zC X cL_law 4 RL (some .boolean) nm 100 600000 7302250) (B : zLw X L xs) (hl : 6 * c + 5 < L) (hL : L ≤ 3072) (hR : zRw n c iv) (kk : ∀ (n2 : Nat) (iv2 : zI) (lw2 : zG), zRw n2 (c + 1) iv2 → zJ X 0 4 1009 [some (.ref 1030), some (.ref 0), some (.ref 41), some (.int (nI (6 * c)))] [] (91 + 3 * n2) skd iv2 (srf n2) lw2 (103 + 3 * c) (10025 + 25 * c)) : zJ X 0 4 300 [some (.ref 1030), some (.ref 0), some (.ref 41), some (.int (nI (6 * c)))] [] (91 + 3 * n) skd iv (srf n) lw (100 + 3 * c) (10000 + 25 * c) := by
  refine z_aload_n C dL_law_300 rfl ?_
  refine z_aload_n C dL_law_301 rfl ?_
  refine z_iload_n C dL_law_302 rfl ?_
  refine z_iconst (v := 1) C dL_law_303 (by decide) ?_
  refine z_iadd C dL_law_304 ?_
  refine z_eqi (zad6 c 1) ?_
  refine z_sld C B dL_law_305 (vp_in_nI (by omega) (by omega)) ?_
  refine z_aload_n C dL_law_306 rfl ?_
  refine z_iload_n C dL_law_307 rfl ?_
  refine z_iconst (v := 2) C dL_law_308 (by decide) ?_
  refine z_iadd C dL_law_309 ?_
  refine z_eqi (zad6 c 2) ?_
  refine z_sld C B dL_law_310 (vp_in_nI (by omega) (by omega)) ?_
  obtain ⟨lx, hlx, hMx⟩ := k_team (lw := lw) hR (xs (nI (6 * c + 1)).toNatClampNeg) (xs (nI (6 * c + 2)).toNatClampNeg)
  refine zs_callVq C dL_law_311 zm_L_32 zyX9_team hMx zc_9 rfl zk_0 (by decide) (by omega) rfl rfl (Nat.le_of_ble_eq_true rfl) (by omega) (by omega) (fun v1 iv1 lw1 hq1 => ?_)
  obtain ⟨r, rfl, lm, hlm, hMm⟩ := hq1
  refine z_aload_n C dL_law_314 rfl ?_
  refine z_aload_n C dL_law_315 rfl ?_
  refine z_iload_n C dL_law_316 rfl ?_
  refine z_iconst (v := 1) C dL_law_317 (by decide) ?_
  refine z_iadd C dL_law_318 ?_
  refine z_eqi (zad6 c 1) ?_
  refine z_sld C B dL_law_319 (vp_in_nI (by omega) (by omega)) ?_
  refine z_aload_n C dL_law_320 rfl ?_
  refine z_iload_n C dL_law_321 rfl ?_
  refine z_iconst (v := 2) C dL_law_322 (by decide) ?_
  refine z_iadd C dL_law_323 ?_
  refine z_eqi (zad6 c 2) ?_
  refine z_sld C B dL_law_324 (vp_in_nI (by omega) (by omega)) ?_
  refine zs_callVq C dL_law_325 zm_L_36 zyX10_team hMm zc_10 rfl zk_41 (by decide) (by omega) rfl rfl (Nat.le_of_ble_eq_true rfl) (by omega) (by omega) (fun v2 iv2 lw2 hq2 => ?_)
  obtain ⟨rfl, hR2⟩ := hq2
  refine z_icmp_eq (tgt := 1009) C dL_law_328 (by decide) (fun _ => ?_) (fun q => absurd rfl q)
  exact z_widen (by omega) (by omega) (kk n iv2 lw2 hR2)

set_option maxHeartbeats 2000000 in
set_option maxRecDepth 8000 in
theorem lc_coach (X : zX) {nm : String} (L : Nat) (xs : Nat → Int32) (n c : Nat) (iv : zI) (lw : zG) (C : zC X cL_law 4 RL (some .boolean) nm 100 600000 7302250) (B : zLw X L xs) (hl : 6 * c + 5 < L) (hL : L ≤ 3072) (hR : zRw n c iv) (kk : ∀ (n2 : Nat) (iv2 : zI) (lw2 : zG), zRw n2 (c + 1) iv2 → zJ X 0 4 1009 [some (.ref 1030), some (.ref 0), some (.ref 41), some (.int (nI (6 * c)))] [] (91 + 3 * n2) skd iv2 (srf n2) lw2 (103 + 3 * c) (10025 + 25 * c)) : zJ X 0 4 333 [some (.ref 1030), some (.ref 0), some (.ref 41), some (.int (nI (6 * c)))] [] (91 + 3 * n) skd iv (srf n) lw (100 + 3 * c) (10000 + 25 * c) := by
  obtain ⟨t, ls, hs, -⟩ := id hR
  have h03 := hs.1.2.2.2.2.1
  have hn := hs.1.2.2.2.2.2.1
  refine z_aload_n C dL_law_333 rfl ?_
  refine z_aload_n C dL_law_334 rfl ?_
  refine z_iload_n C dL_law_335 rfl ?_
  refine z_iconst (v := 1) C dL_law_336 (by decide) ?_
  refine z_iadd C dL_law_337 ?_
  refine z_eqi (zad6 c 1) ?_
  refine z_sld C B dL_law_338 (vp_in_nI (by omega) (by omega)) ?_
  refine z_aload_n C dL_law_339 rfl ?_
  refine z_iload_n C dL_law_340 rfl ?_
  refine z_iconst (v := 2) C dL_law_341 (by decide) ?_
  refine z_iadd C dL_law_342 ?_
  refine z_eqi (zad6 c 2) ?_
  refine z_sld C B dL_law_343 (vp_in_nI (by omega) (by omega)) ?_
  refine z_aload_n C dL_law_344 rfl ?_
  refine z_iload_n C dL_law_345 rfl ?_
  refine z_iconst (v := 3) C dL_law_346 (by decide) ?_
  refine z_iadd C dL_law_347 ?_
  refine z_eqi (zad6 c 3) ?_
  refine z_sld C B dL_law_348 (vp_in_nI (by omega) (by omega)) ?_
  refine z_aload_n C dL_law_349 rfl ?_
  refine z_iload_n C dL_law_350 rfl ?_
  refine z_iconst (v := 4) C dL_law_351 (by decide) ?_
  refine z_iadd C dL_law_352 ?_
  refine z_eqi (zad6 c 4) ?_
  refine z_sld C B dL_law_353 (vp_in_nI (by omega) (by omega)) ?_
  refine z_aload_n C dL_law_354 rfl ?_
  refine z_iload_n C dL_law_355 rfl ?_
  refine z_iconst (v := 5) C dL_law_356 (by decide) ?_
  refine z_iadd C dL_law_357 ?_
  refine z_eqi (zad6 c 5) ?_
  refine z_sld C B dL_law_358 (vp_in_nI (by omega) (by omega)) ?_
  refine z_callV C dL_law_359 zm_L_37 zyX9_coach (x_coach n iv lw h03 hn _ _ _ _ _) zc_9 rfl zk_0 (by decide) (by decide) rfl rfl (Nat.le_of_ble_eq_true rfl) (by omega) (by omega) (fun v1 N1 kd1 iv1 rf1 lw1 hq1 => ?_)
  rcases hq1 with ⟨hP, rfl, rfl, rfl, rfl, e1⟩ | ⟨hP, rfl, rfl, rfl, rfl, e1⟩
  · subst e1
    refine z_aload_n C dL_law_362 rfl ?_
    refine z_aload_n C dL_law_363 rfl ?_
    refine z_iload_n C dL_law_364 rfl ?_
    refine z_iconst (v := 1) C dL_law_365 (by decide) ?_
    refine z_iadd C dL_law_366 ?_
    refine z_eqi (zad6 c 1) ?_
    refine z_sld C B dL_law_367 (vp_in_nI (by omega) (by omega)) ?_
    refine z_aload_n C dL_law_368 rfl ?_
    refine z_iload_n C dL_law_369 rfl ?_
    refine z_iconst (v := 2) C dL_law_370 (by decide) ?_
    refine z_iadd C dL_law_371 ?_
    refine z_eqi (zad6 c 2) ?_
    refine z_sld C B dL_law_372 (vp_in_nI (by omega) (by omega)) ?_
    refine z_aload_n C dL_law_373 rfl ?_
    refine z_iload_n C dL_law_374 rfl ?_
    refine z_iconst (v := 3) C dL_law_375 (by decide) ?_
    refine z_iadd C dL_law_376 ?_
    refine z_eqi (zad6 c 3) ?_
    refine z_sld C B dL_law_377 (vp_in_nI (by omega) (by omega)) ?_
    refine z_aload_n C dL_law_378 rfl ?_
    refine z_iload_n C dL_law_379 rfl ?_
    refine z_iconst (v := 4) C dL_law_380 (by decide) ?_
    refine z_iadd C dL_law_381 ?_
    refine z_eqi (zad6 c 4) ?_
    refine z_sld C B dL_law_382 (vp_in_nI (by omega) (by omega)) ?_
    refine z_aload_n C dL_law_383 rfl ?_
    refine z_iload_n C dL_law_384 rfl ?_
    refine z_iconst (v := 5) C dL_law_385 (by decide) ?_
    refine z_iadd C dL_law_386 ?_
    refine z_eqi (zad6 c 5) ?_
    refine z_sld C B dL_law_387 (vp_in_nI (by omega) (by omega)) ?_
    refine zs_callVq (n := n) C dL_law_388 zm_L_41 zyX10_coach (k_coach0 hR _ _ _ _ _ hP) zc_10 rfl zk_41 (by decide) (by decide) rfl rfl (Nat.le_of_ble_eq_true rfl) (by omega) (by omega) (fun v2 iv2 lw2 hq2 => ?_)
    obtain ⟨rfl, hR2⟩ := hq2
    refine z_icmp_eq (tgt := 1009) C dL_law_391 (by decide) (fun _ => ?_) (fun q => absurd rfl q)
    exact z_widen (by omega) (by omega) (kk n iv2 lw2 hR2)
  · subst e1
    refine z_aload_n C dL_law_362 rfl ?_
    refine z_aload_n C dL_law_363 rfl ?_
    refine z_iload_n C dL_law_364 rfl ?_
    refine z_iconst (v := 1) C dL_law_365 (by decide) ?_
    refine z_iadd C dL_law_366 ?_
    refine z_eqi (zad6 c 1) ?_
    refine z_sld C B dL_law_367 (vp_in_nI (by omega) (by omega)) ?_
    refine z_aload_n C dL_law_368 rfl ?_
    refine z_iload_n C dL_law_369 rfl ?_
    refine z_iconst (v := 2) C dL_law_370 (by decide) ?_
    refine z_iadd C dL_law_371 ?_
    refine z_eqi (zad6 c 2) ?_
    refine z_sld C B dL_law_372 (vp_in_nI (by omega) (by omega)) ?_
    refine z_aload_n C dL_law_373 rfl ?_
    refine z_iload_n C dL_law_374 rfl ?_
    refine z_iconst (v := 3) C dL_law_375 (by decide) ?_
    refine z_iadd C dL_law_376 ?_
    refine z_eqi (zad6 c 3) ?_
    refine z_sld C B dL_law_377 (vp_in_nI (by omega) (by omega)) ?_
    refine z_aload_n C dL_law_378 rfl ?_
    refine z_iload_n C dL_law_379 rfl ?_
    refine z_iconst (v := 4) C dL_law_380 (by decide) ?_
    refine z_iadd C dL_law_381 ?_
    refine z_eqi (zad6 c 4) ?_
    refine z_sld C B dL_law_382 (vp_in_nI (by omega) (by omega)) ?_
    refine z_aload_n C dL_law_383 rfl ?_
    refine z_iload_n C dL_law_384 rfl ?_
    refine z_iconst (v := 5) C dL_law_385 (by decide) ?_
    refine z_iadd C dL_law_386 ?_
    refine z_eqi (zad6 c 5) ?_
    refine z_sld C B dL_law_387 (vp_in_nI (by omega) (by omega)) ?_
    refine zs_callVq (n := (n + 1)) C dL_law_388 zm_L_41 zyX10_coach (k_coach1 hR _ _ _ _ _ hP) zc_10 rfl zk_41 (by decide) (by decide) rfl rfl (Nat.le_of_ble_eq_true rfl) (by omega) (by omega) (fun v2 iv2 lw2 hq2 => ?_)
    obtain ⟨rfl, hR2⟩ := hq2
    refine z_icmp_eq (tgt := 1009) C dL_law_391 (by decide) (fun _ => ?_) (fun q => absurd rfl q)
    exact z_widen (by omega) (by omega) (kk (n + 1) iv2 lw2 hR2)

set_option maxHeartbeats 2000000 in
set_option maxRecDepth 8000 in
theorem lc_feed (X : zX) {nm : String} (L : Nat) (xs : Nat → Int32) (n c : Nat) (iv : zI) (lw : zG) (C : zC X cL_law 4 RL (some .boolean) nm 100 600000 7302250) (B : zLw X L xs) (hl : 6 * c + 5 < L) (hL : L ≤ 3072) (hR : zRw n c iv) (kk : ∀ (n2 : Nat) (iv2 : zI) (lw2 : zG), zRw n2 (c + 1) iv2 → zJ X 0 4 1009 [some (.ref 1030), some (.ref 0), some (.ref 41), some (.int (nI (6 * c)))] [] (91 + 3 * n2) skd iv2 (srf n2) lw2 (103 + 3 * c) (10025 + 25 * c)) : zJ X 0 4 396 [some (.ref 1030), some (.ref 0), some (.ref 41), some (.int (nI (6 * c)))] [] (91 + 3 * n) skd iv (srf n) lw (100 + 3 * c) (10000 + 25 * c) := by
  refine z_aload_n C dL_law_396 rfl ?_
  refine z_aload_n C dL_law_397 rfl ?_
  refine z_iload_n C dL_law_398 rfl ?_
  refine z_iconst (v := 1) C dL_law_399 (by decide) ?_
  refine z_iadd C dL_law_400 ?_
  refine z_eqi (zad6 c 1) ?_
  refine z_sld C B dL_law_401 (vp_in_nI (by omega) (by omega)) ?_
  refine z_aload_n C dL_law_402 rfl ?_
  refine z_iload_n C dL_law_403 rfl ?_
  refine z_iconst (v := 2) C dL_law_404 (by decide) ?_
  refine z_iadd C dL_law_405 ?_
  refine z_eqi (zad6 c 2) ?_
  refine z_sld C B dL_law_406 (vp_in_nI (by omega) (by omega)) ?_
  refine z_aload_n C dL_law_407 rfl ?_
  refine z_iload_n C dL_law_408 rfl ?_
  refine z_iconst (v := 3) C dL_law_409 (by decide) ?_
  refine z_iadd C dL_law_410 ?_
  refine z_eqi (zad6 c 3) ?_
  refine z_sld C B dL_law_411 (vp_in_nI (by omega) (by omega)) ?_
  refine z_aload_n C dL_law_412 rfl ?_
  refine z_iload_n C dL_law_413 rfl ?_
  refine z_iconst (v := 4) C dL_law_414 (by decide) ?_
  refine z_iadd C dL_law_415 ?_
  refine z_eqi (zad6 c 4) ?_
  refine z_sld C B dL_law_416 (vp_in_nI (by omega) (by omega)) ?_
  refine z_aload_n C dL_law_417 rfl ?_
  refine z_iload_n C dL_law_418 rfl ?_
  refine z_iconst (v := 5) C dL_law_419 (by decide) ?_
  refine z_iadd C dL_law_420 ?_
  refine z_eqi (zad6 c 5) ?_
  refine z_sld C B dL_law_421 (vp_in_nI (by omega) (by omega)) ?_
  obtain ⟨lx, hlx, hMx⟩ := k_feed (lw := lw) hR (xs (nI (6 * c + 1)).toNatClampNeg) (xs (nI (6 * c + 2)).toNatClampNeg) (xs (nI (6 * c + 3)).toNatClampNeg) (xs (nI (6 * c + 4)).toNatClampNeg) (xs (nI (6 * c + 5)).toNatClampNeg)
  refine zs_callVq C dL_law_422 zm_L_42 zyX9_feed hMx zc_9 rfl zk_0 (by decide) (by omega) rfl rfl (Nat.le_of_ble_eq_true rfl) (by omega) (by omega) (fun v1 iv1 lw1 hq1 => ?_)
  obtain ⟨r, rfl, lm, hlm, hMm⟩ := hq1
  refine z_aload_n C dL_law_425 rfl ?_
  refine z_aload_n C dL_law_426 rfl ?_
  refine z_iload_n C dL_law_427 rfl ?_
  refine z_iconst (v := 1) C dL_law_428 (by decide) ?_
  refine z_iadd C dL_law_429 ?_
  refine z_eqi (zad6 c 1) ?_
  refine z_sld C B dL_law_430 (vp_in_nI (by omega) (by omega)) ?_
  refine z_aload_n C dL_law_431 rfl ?_
  refine z_iload_n C dL_law_432 rfl ?_
  refine z_iconst (v := 2) C dL_law_433 (by decide) ?_
  refine z_iadd C dL_law_434 ?_
  refine z_eqi (zad6 c 2) ?_
  refine z_sld C B dL_law_435 (vp_in_nI (by omega) (by omega)) ?_
  refine z_aload_n C dL_law_436 rfl ?_
  refine z_iload_n C dL_law_437 rfl ?_
  refine z_iconst (v := 3) C dL_law_438 (by decide) ?_
  refine z_iadd C dL_law_439 ?_
  refine z_eqi (zad6 c 3) ?_
  refine z_sld C B dL_law_440 (vp_in_nI (by omega) (by omega)) ?_
  refine z_aload_n C dL_law_441 rfl ?_
  refine z_iload_n C dL_law_442 rfl ?_
  refine z_iconst (v := 4) C dL_law_443 (by decide) ?_
  refine z_iadd C dL_law_444 ?_
  refine z_eqi (zad6 c 4) ?_
  refine z_sld C B dL_law_445 (vp_in_nI (by omega) (by omega)) ?_
  refine z_aload_n C dL_law_446 rfl ?_
  refine z_iload_n C dL_law_447 rfl ?_
  refine z_iconst (v := 5) C dL_law_448 (by decide) ?_
  refine z_iadd C dL_law_449 ?_
  refine z_eqi (zad6 c 5) ?_
  refine z_sld C B dL_law_450 (vp_in_nI (by omega) (by omega)) ?_
  refine zs_callVq C dL_law_451 zm_L_45 zyX10_feed hMm zc_10 rfl zk_41 (by decide) (by omega) rfl rfl (Nat.le_of_ble_eq_true rfl) (by omega) (by omega) (fun v2 iv2 lw2 hq2 => ?_)
  obtain ⟨rfl, hR2⟩ := hq2
  refine z_icmp_eq (tgt := 1009) C dL_law_454 (by decide) (fun _ => ?_) (fun q => absurd rfl q)
  exact z_widen (by omega) (by omega) (kk n iv2 lw2 hR2)

set_option maxHeartbeats 2000000 in
set_option maxRecDepth 8000 in
theorem lc_end (X : zX) {nm : String} (L : Nat) (xs : Nat → Int32) (n c : Nat) (iv : zI) (lw : zG) (C : zC X cL_law 4 RL (some .boolean) nm 100 600000 7302250) (B : zLw X L xs) (hl : 6 * c + 5 < L) (hL : L ≤ 3072) (hR : zRw n c iv) (kk : ∀ (n2 : Nat) (iv2 : zI) (lw2 : zG), zRw n2 (c + 1) iv2 → zJ X 0 4 1009 [some (.ref 1030), some (.ref 0), some (.ref 41), some (.int (nI (6 * c)))] [] (91 + 3 * n2) skd iv2 (srf n2) lw2 (103 + 3 * c) (10025 + 25 * c)) : zJ X 0 4 459 [some (.ref 1030), some (.ref 0), some (.ref 41), some (.int (nI (6 * c)))] [] (91 + 3 * n) skd iv (srf n) lw (100 + 3 * c) (10000 + 25 * c) := by
  refine z_aload_n C dL_law_459 rfl ?_
  refine z_aload_n C dL_law_460 rfl ?_
  refine z_iload_n C dL_law_461 rfl ?_
  refine z_iconst (v := 1) C dL_law_462 (by decide) ?_
  refine z_iadd C dL_law_463 ?_
  refine z_eqi (zad6 c 1) ?_
  refine z_sld C B dL_law_464 (vp_in_nI (by omega) (by omega)) ?_
  obtain ⟨lx, hlx, hMx⟩ := k_end (lw := lw) hR (xs (nI (6 * c + 1)).toNatClampNeg)
  refine zs_callVq C dL_law_465 zm_L_46 zyX9_end hMx zc_9 rfl zk_0 (by decide) (by omega) rfl rfl (Nat.le_of_ble_eq_true rfl) (by omega) (by omega) (fun v1 iv1 lw1 hq1 => ?_)
  obtain ⟨r, rfl, lm, hlm, hMm⟩ := hq1
  refine z_aload_n C dL_law_468 rfl ?_
  refine z_aload_n C dL_law_469 rfl ?_
  refine z_iload_n C dL_law_470 rfl ?_
  refine z_iconst (v := 1) C dL_law_471 (by decide) ?_
  refine z_iadd C dL_law_472 ?_
  refine z_eqi (zad6 c 1) ?_
  refine z_sld C B dL_law_473 (vp_in_nI (by omega) (by omega)) ?_
  refine zs_callVq C dL_law_474 zm_L_50 zyX10_end hMm zc_10 rfl zk_41 (by decide) (by omega) rfl rfl (Nat.le_of_ble_eq_true rfl) (by omega) (by omega) (fun v2 iv2 lw2 hq2 => ?_)
  obtain ⟨rfl, hR2⟩ := hq2
  refine z_icmp_eq (tgt := 1009) C dL_law_477 (by decide) (fun _ => ?_) (fun q => absurd rfl q)
  exact z_widen (by omega) (by omega) (kk n iv2 lw2 hR2)

set_option maxHeartbeats 2000000 in
set_option maxRecDepth 8000 in
theorem lc_orders (X : zX) {nm : String} (L : Nat) (xs : Nat → Int32) (n c : Nat) (iv : zI) (lw : zG) (C : zC X cL_law 4 RL (some .boolean) nm 100 600000 7302250) (B : zLw X L xs) (hl : 6 * c + 5 < L) (hL : L ≤ 3072) (hR : zRw n c iv) (kk : ∀ (n2 : Nat) (iv2 : zI) (lw2 : zG), zRw n2 (c + 1) iv2 → zJ X 0 4 1009 [some (.ref 1030), some (.ref 0), some (.ref 41), some (.int (nI (6 * c)))] [] (91 + 3 * n2) skd iv2 (srf n2) lw2 (103 + 3 * c) (10025 + 25 * c)) : zJ X 0 4 482 [some (.ref 1030), some (.ref 0), some (.ref 41), some (.int (nI (6 * c)))] [] (91 + 3 * n) skd iv (srf n) lw (100 + 3 * c) (10000 + 25 * c) := by
  refine z_aload_n C dL_law_482 rfl ?_
  obtain ⟨lx, hlx, hMx⟩ := k_orders (lw := lw) hR
  refine zs_callVq C dL_law_483 zm_L_51 zyX9_orders hMx zc_9 rfl zk_0 (by decide) (by omega) rfl rfl (Nat.le_of_ble_eq_true rfl) (by omega) (by omega) (fun v1 iv1 lw1 hq1 => ?_)
  obtain ⟨r, rfl, lm, hlm, hMm⟩ := hq1
  refine z_aload_n C dL_law_486 rfl ?_
  refine zs_callVq C dL_law_487 zm_L_55 zyX10_orders hMm zc_10 rfl zk_41 (by decide) (by omega) rfl rfl (Nat.le_of_ble_eq_true rfl) (by omega) (by omega) (fun v2 iv2 lw2 hq2 => ?_)
  obtain ⟨rfl, hR2⟩ := hq2
  refine z_icmp_eq (tgt := 1009) C dL_law_490 (by decide) (fun _ => ?_) (fun q => absurd rfl q)
  exact z_widen (by omega) (by omega) (kk n iv2 lw2 hR2)

set_option maxHeartbeats 2000000 in
set_option maxRecDepth 8000 in
theorem lc_fault (X : zX) {nm : String} (L : Nat) (xs : Nat → Int32) (n c : Nat) (iv : zI) (lw : zG) (C : zC X cL_law 4 RL (some .boolean) nm 100 600000 7302250) (B : zLw X L xs) (hl : 6 * c + 5 < L) (hL : L ≤ 3072) (hR : zRw n c iv) (kk : ∀ (n2 : Nat) (iv2 : zI) (lw2 : zG), zRw n2 (c + 1) iv2 → zJ X 0 4 1009 [some (.ref 1030), some (.ref 0), some (.ref 41), some (.int (nI (6 * c)))] [] (91 + 3 * n2) skd iv2 (srf n2) lw2 (103 + 3 * c) (10025 + 25 * c)) : zJ X 0 4 495 [some (.ref 1030), some (.ref 0), some (.ref 41), some (.int (nI (6 * c)))] [] (91 + 3 * n) skd iv (srf n) lw (100 + 3 * c) (10000 + 25 * c) := by
  refine z_aload_n C dL_law_495 rfl ?_
  refine z_aload_n C dL_law_496 rfl ?_
  refine z_iload_n C dL_law_497 rfl ?_
  refine z_iconst (v := 1) C dL_law_498 (by decide) ?_
  refine z_iadd C dL_law_499 ?_
  refine z_eqi (zad6 c 1) ?_
  refine z_sld C B dL_law_500 (vp_in_nI (by omega) (by omega)) ?_
  obtain ⟨lx, hlx, hMx⟩ := k_fault (lw := lw) hR (xs (nI (6 * c + 1)).toNatClampNeg)
  refine zs_callVq C dL_law_501 zm_L_56 zyX9_fault hMx zc_9 rfl zk_0 (by decide) (by omega) rfl rfl (Nat.le_of_ble_eq_true rfl) (by omega) (by omega) (fun v1 iv1 lw1 hq1 => ?_)
  obtain ⟨r, rfl, lm, hlm, hMm⟩ := hq1
  refine z_aload_n C dL_law_504 rfl ?_
  refine z_aload_n C dL_law_505 rfl ?_
  refine z_iload_n C dL_law_506 rfl ?_
  refine z_iconst (v := 1) C dL_law_507 (by decide) ?_
  refine z_iadd C dL_law_508 ?_
  refine z_eqi (zad6 c 1) ?_
  refine z_sld C B dL_law_509 (vp_in_nI (by omega) (by omega)) ?_
  refine zs_callVq C dL_law_510 zm_L_59 zyX10_fault hMm zc_10 rfl zk_41 (by decide) (by omega) rfl rfl (Nat.le_of_ble_eq_true rfl) (by omega) (by omega) (fun v2 iv2 lw2 hq2 => ?_)
  obtain ⟨rfl, hR2⟩ := hq2
  refine z_icmp_eq (tgt := 1009) C dL_law_513 (by decide) (fun _ => ?_) (fun q => absurd rfl q)
  exact z_widen (by omega) (by omega) (kk n iv2 lw2 hR2)

set_option maxHeartbeats 2000000 in
set_option maxRecDepth 8000 in
theorem lc_run (X : zX) {nm : String} (L : Nat) (xs : Nat → Int32) (n c : Nat) (iv : zI) (lw : zG) (C : zC X cL_law 4 RL (some .boolean) nm 100 600000 7302250) (B : zLw X L xs) (hl : 6 * c + 5 < L) (hL : L ≤ 3072) (hR : zRw n c iv) (kk : ∀ (n2 : Nat) (iv2 : zI) (lw2 : zG), zRw n2 (c + 1) iv2 → zJ X 0 4 1009 [some (.ref 1030), some (.ref 0), some (.ref 41), some (.int (nI (6 * c)))] [] (91 + 3 * n2) skd iv2 (srf n2) lw2 (103 + 3 * c) (10025 + 25 * c)) : zJ X 0 4 518 [some (.ref 1030), some (.ref 0), some (.ref 41), some (.int (nI (6 * c)))] [] (91 + 3 * n) skd iv (srf n) lw (100 + 3 * c) (10000 + 25 * c) := by
  refine z_aload_n C dL_law_518 rfl ?_
  refine z_aload_n C dL_law_519 rfl ?_
  refine z_iload_n C dL_law_520 rfl ?_
  refine z_iconst (v := 1) C dL_law_521 (by decide) ?_
  refine z_iadd C dL_law_522 ?_
  refine z_eqi (zad6 c 1) ?_
  refine z_sld C B dL_law_523 (vp_in_nI (by omega) (by omega)) ?_
  obtain ⟨lx, hlx, hMx⟩ := k_run (lw := lw) hR (by omega) (xs (nI (6 * c + 1)).toNatClampNeg)
  refine zs_callVq C dL_law_524 zm_L_60 zyX9_run hMx zc_9 rfl zk_0 (by decide) (by omega) rfl rfl (Nat.le_of_ble_eq_true rfl) (by omega) (by omega) (fun v1 iv1 lw1 hq1 => ?_)
  obtain ⟨r, rfl, lm, hlm, hMm⟩ := hq1
  refine z_aload_n C dL_law_527 rfl ?_
  refine z_aload_n C dL_law_528 rfl ?_
  refine z_iload_n C dL_law_529 rfl ?_
  refine z_iconst (v := 1) C dL_law_530 (by decide) ?_
  refine z_iadd C dL_law_531 ?_
  refine z_eqi (zad6 c 1) ?_
  refine z_sld C B dL_law_532 (vp_in_nI (by omega) (by omega)) ?_
  refine zs_callVq C dL_law_533 zm_L_63 zyX10_run hMm zc_10 rfl zk_41 (by decide) (by omega) rfl rfl (Nat.le_of_ble_eq_true rfl) (by omega) (by omega) (fun v2 iv2 lw2 hq2 => ?_)
  obtain ⟨rfl, hR2⟩ := hq2
  refine z_icmp_eq (tgt := 1009) C dL_law_536 (by decide) (fun _ => ?_) (fun q => absurd rfl q)
  exact z_widen (by omega) (by omega) (kk n iv2 lw2 hR2)

set_option maxHeartbeats 2000000 in
set_option maxRecDepth 8000 in
theorem lc_where (X : zX) {nm : String} (L : Nat) (xs : Nat → Int32) (n c : Nat) (iv : zI) (lw : zG) (C : zC X cL_law 4 RL (some .boolean) nm 100 600000 7302250) (B : zLw X L xs) (hl : 6 * c + 5 < L) (hL : L ≤ 3072) (hR : zRw n c iv) (kk : ∀ (n2 : Nat) (iv2 : zI) (lw2 : zG), zRw n2 (c + 1) iv2 → zJ X 0 4 1009 [some (.ref 1030), some (.ref 0), some (.ref 41), some (.int (nI (6 * c)))] [] (91 + 3 * n2) skd iv2 (srf n2) lw2 (103 + 3 * c) (10025 + 25 * c)) : zJ X 0 4 541 [some (.ref 1030), some (.ref 0), some (.ref 41), some (.int (nI (6 * c)))] [] (91 + 3 * n) skd iv (srf n) lw (100 + 3 * c) (10000 + 25 * c) := by
  refine z_aload_n C dL_law_541 rfl ?_
  refine z_aload_n C dL_law_542 rfl ?_
  refine z_iload_n C dL_law_543 rfl ?_
  refine z_iconst (v := 1) C dL_law_544 (by decide) ?_
  refine z_iadd C dL_law_545 ?_
  refine z_eqi (zad6 c 1) ?_
  refine z_sld C B dL_law_546 (vp_in_nI (by omega) (by omega)) ?_
  refine z_aload_n C dL_law_547 rfl ?_
  refine z_iload_n C dL_law_548 rfl ?_
  refine z_iconst (v := 2) C dL_law_549 (by decide) ?_
  refine z_iadd C dL_law_550 ?_
  refine z_eqi (zad6 c 2) ?_
  refine z_sld C B dL_law_551 (vp_in_nI (by omega) (by omega)) ?_
  obtain ⟨lx, hlx, hMx⟩ := k_where (lw := lw) hR (xs (nI (6 * c + 1)).toNatClampNeg) (xs (nI (6 * c + 2)).toNatClampNeg)
  refine zs_callVq C dL_law_552 zm_L_64 zyX9_where hMx zc_9 rfl zk_0 (by decide) (by omega) rfl rfl (Nat.le_of_ble_eq_true rfl) (by omega) (by omega) (fun v1 iv1 lw1 hq1 => ?_)
  obtain ⟨r, rfl, lm, hlm, hMm⟩ := hq1
  refine z_aload_n C dL_law_555 rfl ?_
  refine z_aload_n C dL_law_556 rfl ?_
  refine z_iload_n C dL_law_557 rfl ?_
  refine z_iconst (v := 1) C dL_law_558 (by decide) ?_
  refine z_iadd C dL_law_559 ?_
  refine z_eqi (zad6 c 1) ?_
  refine z_sld C B dL_law_560 (vp_in_nI (by omega) (by omega)) ?_
  refine z_aload_n C dL_law_561 rfl ?_
  refine z_iload_n C dL_law_562 rfl ?_
  refine z_iconst (v := 2) C dL_law_563 (by decide) ?_
  refine z_iadd C dL_law_564 ?_
  refine z_eqi (zad6 c 2) ?_
  refine z_sld C B dL_law_565 (vp_in_nI (by omega) (by omega)) ?_
  refine zs_callVq C dL_law_566 zm_L_67 zyX10_where hMm zc_10 rfl zk_41 (by decide) (by omega) rfl rfl (Nat.le_of_ble_eq_true rfl) (by omega) (by omega) (fun v2 iv2 lw2 hq2 => ?_)
  obtain ⟨rfl, hR2⟩ := hq2
  refine z_icmp_eq (tgt := 1009) C dL_law_569 (by decide) (fun _ => ?_) (fun q => absurd rfl q)
  exact z_widen (by omega) (by omega) (kk n iv2 lw2 hR2)

set_option maxHeartbeats 2000000 in
set_option maxRecDepth 8000 in
theorem lc_part (X : zX) {nm : String} (L : Nat) (xs : Nat → Int32) (n c : Nat) (iv : zI) (lw : zG) (C : zC X cL_law 4 RL (some .boolean) nm 100 600000 7302250) (B : zLw X L xs) (hl : 6 * c + 5 < L) (hL : L ≤ 3072) (hR : zRw n c iv) (kk : ∀ (n2 : Nat) (iv2 : zI) (lw2 : zG), zRw n2 (c + 1) iv2 → zJ X 0 4 1009 [some (.ref 1030), some (.ref 0), some (.ref 41), some (.int (nI (6 * c)))] [] (91 + 3 * n2) skd iv2 (srf n2) lw2 (103 + 3 * c) (10025 + 25 * c)) : zJ X 0 4 574 [some (.ref 1030), some (.ref 0), some (.ref 41), some (.int (nI (6 * c)))] [] (91 + 3 * n) skd iv (srf n) lw (100 + 3 * c) (10000 + 25 * c) := by
  refine z_aload_n C dL_law_574 rfl ?_
  refine z_aload_n C dL_law_575 rfl ?_
  refine z_iload_n C dL_law_576 rfl ?_
  refine z_iconst (v := 1) C dL_law_577 (by decide) ?_
  refine z_iadd C dL_law_578 ?_
  refine z_eqi (zad6 c 1) ?_
  refine z_sld C B dL_law_579 (vp_in_nI (by omega) (by omega)) ?_
  refine z_aload_n C dL_law_580 rfl ?_
  refine z_iload_n C dL_law_581 rfl ?_
  refine z_iconst (v := 2) C dL_law_582 (by decide) ?_
  refine z_iadd C dL_law_583 ?_
  refine z_eqi (zad6 c 2) ?_
  refine z_sld C B dL_law_584 (vp_in_nI (by omega) (by omega)) ?_
  obtain ⟨lx, hlx, hMx⟩ := k_part (lw := lw) hR (xs (nI (6 * c + 1)).toNatClampNeg) (xs (nI (6 * c + 2)).toNatClampNeg)
  refine zs_callVq C dL_law_585 zm_L_68 zyX9_part hMx zc_9 rfl zk_0 (by decide) (by omega) rfl rfl (Nat.le_of_ble_eq_true rfl) (by omega) (by omega) (fun v1 iv1 lw1 hq1 => ?_)
  obtain ⟨r, rfl, lm, hlm, hMm⟩ := hq1
  refine z_aload_n C dL_law_588 rfl ?_
  refine z_aload_n C dL_law_589 rfl ?_
  refine z_iload_n C dL_law_590 rfl ?_
  refine z_iconst (v := 1) C dL_law_591 (by decide) ?_
  refine z_iadd C dL_law_592 ?_
  refine z_eqi (zad6 c 1) ?_
  refine z_sld C B dL_law_593 (vp_in_nI (by omega) (by omega)) ?_
  refine z_aload_n C dL_law_594 rfl ?_
  refine z_iload_n C dL_law_595 rfl ?_
  refine z_iconst (v := 2) C dL_law_596 (by decide) ?_
  refine z_iadd C dL_law_597 ?_
  refine z_eqi (zad6 c 2) ?_
  refine z_sld C B dL_law_598 (vp_in_nI (by omega) (by omega)) ?_
  refine zs_callVq C dL_law_599 zm_L_71 zyX10_part hMm zc_10 rfl zk_41 (by decide) (by omega) rfl rfl (Nat.le_of_ble_eq_true rfl) (by omega) (by omega) (fun v2 iv2 lw2 hq2 => ?_)
  obtain ⟨rfl, hR2⟩ := hq2
  refine z_icmp_eq (tgt := 1009) C dL_law_602 (by decide) (fun _ => ?_) (fun q => absurd rfl q)
  exact z_widen (by omega) (by omega) (kk n iv2 lw2 hR2)

set_option maxHeartbeats 2000000 in
set_option maxRecDepth 8000 in
theorem lc_told (X : zX) {nm : String} (L : Nat) (xs : Nat → Int32) (n c : Nat) (iv : zI) (lw : zG) (C : zC X cL_law 4 RL (some .boolean) nm 100 600000 7302250) (B : zLw X L xs) (hl : 6 * c + 5 < L) (hL : L ≤ 3072) (hR : zRw n c iv) (kk : ∀ (n2 : Nat) (iv2 : zI) (lw2 : zG), zRw n2 (c + 1) iv2 → zJ X 0 4 1009 [some (.ref 1030), some (.ref 0), some (.ref 41), some (.int (nI (6 * c)))] [] (91 + 3 * n2) skd iv2 (srf n2) lw2 (103 + 3 * c) (10025 + 25 * c)) : zJ X 0 4 607 [some (.ref 1030), some (.ref 0), some (.ref 41), some (.int (nI (6 * c)))] [] (91 + 3 * n) skd iv (srf n) lw (100 + 3 * c) (10000 + 25 * c) := by
  refine z_aload_n C dL_law_607 rfl ?_
  refine z_aload_n C dL_law_608 rfl ?_
  refine z_iload_n C dL_law_609 rfl ?_
  refine z_iconst (v := 1) C dL_law_610 (by decide) ?_
  refine z_iadd C dL_law_611 ?_
  refine z_eqi (zad6 c 1) ?_
  refine z_sld C B dL_law_612 (vp_in_nI (by omega) (by omega)) ?_
  refine z_aload_n C dL_law_613 rfl ?_
  refine z_iload_n C dL_law_614 rfl ?_
  refine z_iconst (v := 2) C dL_law_615 (by decide) ?_
  refine z_iadd C dL_law_616 ?_
  refine z_eqi (zad6 c 2) ?_
  refine z_sld C B dL_law_617 (vp_in_nI (by omega) (by omega)) ?_
  obtain ⟨lx, hlx, hMx⟩ := k_told (lw := lw) hR (xs (nI (6 * c + 1)).toNatClampNeg) (xs (nI (6 * c + 2)).toNatClampNeg)
  refine zs_callVq C dL_law_618 zm_L_72 zyX9_told hMx zc_9 rfl zk_0 (by decide) (by omega) rfl rfl (Nat.le_of_ble_eq_true rfl) (by omega) (by omega) (fun v1 iv1 lw1 hq1 => ?_)
  obtain ⟨r, rfl, lm, hlm, hMm⟩ := hq1
  refine z_aload_n C dL_law_621 rfl ?_
  refine z_aload_n C dL_law_622 rfl ?_
  refine z_iload_n C dL_law_623 rfl ?_
  refine z_iconst (v := 1) C dL_law_624 (by decide) ?_
  refine z_iadd C dL_law_625 ?_
  refine z_eqi (zad6 c 1) ?_
  refine z_sld C B dL_law_626 (vp_in_nI (by omega) (by omega)) ?_
  refine z_aload_n C dL_law_627 rfl ?_
  refine z_iload_n C dL_law_628 rfl ?_
  refine z_iconst (v := 2) C dL_law_629 (by decide) ?_
  refine z_iadd C dL_law_630 ?_
  refine z_eqi (zad6 c 2) ?_
  refine z_sld C B dL_law_631 (vp_in_nI (by omega) (by omega)) ?_
  refine zs_callVq C dL_law_632 zm_L_75 zyX10_told hMm zc_10 rfl zk_41 (by decide) (by omega) rfl rfl (Nat.le_of_ble_eq_true rfl) (by omega) (by omega) (fun v2 iv2 lw2 hq2 => ?_)
  obtain ⟨rfl, hR2⟩ := hq2
  refine z_icmp_eq (tgt := 1009) C dL_law_635 (by decide) (fun _ => ?_) (fun q => absurd rfl q)
  exact z_widen (by omega) (by omega) (kk n iv2 lw2 hR2)

set_option maxHeartbeats 2000000 in
set_option maxRecDepth 8000 in
theorem lc_horses (X : zX) {nm : String} (L : Nat) (xs : Nat → Int32) (n c : Nat) (iv : zI) (lw : zG) (C : zC X cL_law 4 RL (some .boolean) nm 100 600000 7302250) (B : zLw X L xs) (hl : 6 * c + 5 < L) (hL : L ≤ 3072) (hR : zRw n c iv) (kk : ∀ (n2 : Nat) (iv2 : zI) (lw2 : zG), zRw n2 (c + 1) iv2 → zJ X 0 4 1009 [some (.ref 1030), some (.ref 0), some (.ref 41), some (.int (nI (6 * c)))] [] (91 + 3 * n2) skd iv2 (srf n2) lw2 (103 + 3 * c) (10025 + 25 * c)) : zJ X 0 4 640 [some (.ref 1030), some (.ref 0), some (.ref 41), some (.int (nI (6 * c)))] [] (91 + 3 * n) skd iv (srf n) lw (100 + 3 * c) (10000 + 25 * c) := by
  refine z_aload_n C dL_law_640 rfl ?_
  refine z_aload_n C dL_law_641 rfl ?_
  refine z_iload_n C dL_law_642 rfl ?_
  refine z_iconst (v := 1) C dL_law_643 (by decide) ?_
  refine z_iadd C dL_law_644 ?_
  refine z_eqi (zad6 c 1) ?_
  refine z_sld C B dL_law_645 (vp_in_nI (by omega) (by omega)) ?_
  refine z_aload_n C dL_law_646 rfl ?_
  refine z_iload_n C dL_law_647 rfl ?_
  refine z_iconst (v := 2) C dL_law_648 (by decide) ?_
  refine z_iadd C dL_law_649 ?_
  refine z_eqi (zad6 c 2) ?_
  refine z_sld C B dL_law_650 (vp_in_nI (by omega) (by omega)) ?_
  obtain ⟨lx, hlx, hMx⟩ := k_horses (lw := lw) hR (xs (nI (6 * c + 1)).toNatClampNeg) (xs (nI (6 * c + 2)).toNatClampNeg)
  refine zs_callVq C dL_law_651 zm_L_76 zyX9_horses hMx zc_9 rfl zk_0 (by decide) (by omega) rfl rfl (Nat.le_of_ble_eq_true rfl) (by omega) (by omega) (fun v1 iv1 lw1 hq1 => ?_)
  obtain ⟨r, rfl, lm, hlm, hMm⟩ := hq1
  refine z_aload_n C dL_law_654 rfl ?_
  refine z_aload_n C dL_law_655 rfl ?_
  refine z_iload_n C dL_law_656 rfl ?_
  refine z_iconst (v := 1) C dL_law_657 (by decide) ?_
  refine z_iadd C dL_law_658 ?_
  refine z_eqi (zad6 c 1) ?_
  refine z_sld C B dL_law_659 (vp_in_nI (by omega) (by omega)) ?_
  refine z_aload_n C dL_law_660 rfl ?_
  refine z_iload_n C dL_law_661 rfl ?_
  refine z_iconst (v := 2) C dL_law_662 (by decide) ?_
  refine z_iadd C dL_law_663 ?_
  refine z_eqi (zad6 c 2) ?_
  refine z_sld C B dL_law_664 (vp_in_nI (by omega) (by omega)) ?_
  refine zs_callVq C dL_law_665 zm_L_79 zyX10_horses hMm zc_10 rfl zk_41 (by decide) (by omega) rfl rfl (Nat.le_of_ble_eq_true rfl) (by omega) (by omega) (fun v2 iv2 lw2 hq2 => ?_)
  obtain ⟨rfl, hR2⟩ := hq2
  refine z_icmp_eq (tgt := 1009) C dL_law_668 (by decide) (fun _ => ?_) (fun q => absurd rfl q)
  exact z_widen (by omega) (by omega) (kk n iv2 lw2 hR2)

set_option maxHeartbeats 2000000 in
set_option maxRecDepth 8000 in
theorem lc_trip (X : zX) {nm : String} (L : Nat) (xs : Nat → Int32) (n c : Nat) (iv : zI) (lw : zG) (C : zC X cL_law 4 RL (some .boolean) nm 100 600000 7302250) (B : zLw X L xs) (hl : 6 * c + 5 < L) (hL : L ≤ 3072) (hR : zRw n c iv) (kk : ∀ (n2 : Nat) (iv2 : zI) (lw2 : zG), zRw n2 (c + 1) iv2 → zJ X 0 4 1009 [some (.ref 1030), some (.ref 0), some (.ref 41), some (.int (nI (6 * c)))] [] (91 + 3 * n2) skd iv2 (srf n2) lw2 (103 + 3 * c) (10025 + 25 * c)) : zJ X 0 4 673 [some (.ref 1030), some (.ref 0), some (.ref 41), some (.int (nI (6 * c)))] [] (91 + 3 * n) skd iv (srf n) lw (100 + 3 * c) (10000 + 25 * c) := by
  refine z_aload_n C dL_law_673 rfl ?_
  refine z_aload_n C dL_law_674 rfl ?_
  refine z_iload_n C dL_law_675 rfl ?_
  refine z_iconst (v := 1) C dL_law_676 (by decide) ?_
  refine z_iadd C dL_law_677 ?_
  refine z_eqi (zad6 c 1) ?_
  refine z_sld C B dL_law_678 (vp_in_nI (by omega) (by omega)) ?_
  refine z_aload_n C dL_law_679 rfl ?_
  refine z_iload_n C dL_law_680 rfl ?_
  refine z_iconst (v := 2) C dL_law_681 (by decide) ?_
  refine z_iadd C dL_law_682 ?_
  refine z_eqi (zad6 c 2) ?_
  refine z_sld C B dL_law_683 (vp_in_nI (by omega) (by omega)) ?_
  refine z_if_eq (tgt := 691) C dL_law_684 (by decide) (fun q684 => ?_) (fun q684 => ?_)
  · refine z_iconst (v := 0) C dL_law_691 (by decide) ?_
    refine z_aload_n C dL_law_692 rfl ?_
    refine z_iload_n C dL_law_693 rfl ?_
    refine z_iconst (v := 3) C dL_law_694 (by decide) ?_
    refine z_iadd C dL_law_695 ?_
    refine z_eqi (zad6 c 3) ?_
    refine z_sld C B dL_law_696 (vp_in_nI (by omega) (by omega)) ?_
    obtain ⟨lx, hlx, hMx⟩ := k_trip (lw := lw) hR (xs (nI (6 * c + 1)).toNatClampNeg) 0 (xs (nI (6 * c + 3)).toNatClampNeg) (Or.inl rfl)
    refine zs_callVq C dL_law_697 zm_L_80 zyX9_trip hMx zc_9 rfl zk_0 (by decide) (by omega) rfl rfl (Nat.le_of_ble_eq_true rfl) (by omega) (by omega) (fun v1 iv1 lw1 hq1 => ?_)
    obtain ⟨r, rfl, lm, hlm, hMm⟩ := hq1
    refine z_aload_n C dL_law_700 rfl ?_
    refine z_aload_n C dL_law_701 rfl ?_
    refine z_iload_n C dL_law_702 rfl ?_
    refine z_iconst (v := 1) C dL_law_703 (by decide) ?_
    refine z_iadd C dL_law_704 ?_
    refine z_eqi (zad6 c 1) ?_
    refine z_sld C B dL_law_705 (vp_in_nI (by omega) (by omega)) ?_
    refine z_aload_n C dL_law_706 rfl ?_
    refine z_iload_n C dL_law_707 rfl ?_
    refine z_iconst (v := 2) C dL_law_708 (by decide) ?_
    refine z_iadd C dL_law_709 ?_
    refine z_eqi (zad6 c 2) ?_
    refine z_sld C B dL_law_710 (vp_in_nI (by omega) (by omega)) ?_
    refine z_if_eq (tgt := 718) C dL_law_711 (by decide) (fun q711 => ?_) (fun q711 => ?_)
    · skip
      refine z_iconst (v := 0) C dL_law_718 (by decide) ?_
      refine z_aload_n C dL_law_719 rfl ?_
      refine z_iload_n C dL_law_720 rfl ?_
      refine z_iconst (v := 3) C dL_law_721 (by decide) ?_
      refine z_iadd C dL_law_722 ?_
      refine z_eqi (zad6 c 3) ?_
      refine z_sld C B dL_law_723 (vp_in_nI (by omega) (by omega)) ?_
      refine zs_callVq C dL_law_724 zm_L_84 zyX10_trip hMm zc_10 rfl zk_41 (by decide) (by omega) rfl rfl (Nat.le_of_ble_eq_true rfl) (by omega) (by omega) (fun v2 iv2 lw2 hq2 => ?_)
      obtain ⟨rfl, hR2⟩ := hq2
      refine z_icmp_eq (tgt := 1009) C dL_law_727 (by decide) (fun _ => ?_) (fun q => absurd rfl q)
      exact z_widen (by omega) (by omega) (kk n iv2 lw2 hR2)
    · exact absurd q684 q711
  · refine z_iconst (v := 1) C dL_law_687 (by decide) ?_
    refine z_goto (tgt := 692) C dL_law_688 (by decide) ?_
    refine z_aload_n C dL_law_692 rfl ?_
    refine z_iload_n C dL_law_693 rfl ?_
    refine z_iconst (v := 3) C dL_law_694 (by decide) ?_
    refine z_iadd C dL_law_695 ?_
    refine z_eqi (zad6 c 3) ?_
    refine z_sld C B dL_law_696 (vp_in_nI (by omega) (by omega)) ?_
    obtain ⟨lx, hlx, hMx⟩ := k_trip (lw := lw) hR (xs (nI (6 * c + 1)).toNatClampNeg) 1 (xs (nI (6 * c + 3)).toNatClampNeg) (Or.inr rfl)
    refine zs_callVq C dL_law_697 zm_L_80 zyX9_trip hMx zc_9 rfl zk_0 (by decide) (by omega) rfl rfl (Nat.le_of_ble_eq_true rfl) (by omega) (by omega) (fun v1 iv1 lw1 hq1 => ?_)
    obtain ⟨r, rfl, lm, hlm, hMm⟩ := hq1
    refine z_aload_n C dL_law_700 rfl ?_
    refine z_aload_n C dL_law_701 rfl ?_
    refine z_iload_n C dL_law_702 rfl ?_
    refine z_iconst (v := 1) C dL_law_703 (by decide) ?_
    refine z_iadd C dL_law_704 ?_
    refine z_eqi (zad6 c 1) ?_
    refine z_sld C B dL_law_705 (vp_in_nI (by omega) (by omega)) ?_
    refine z_aload_n C dL_law_706 rfl ?_
    refine z_iload_n C dL_law_707 rfl ?_
    refine z_iconst (v := 2) C dL_law_708 (by decide) ?_
    refine z_iadd C dL_law_709 ?_
    refine z_eqi (zad6 c 2) ?_
    refine z_sld C B dL_law_710 (vp_in_nI (by omega) (by omega)) ?_
    refine z_if_eq (tgt := 718) C dL_law_711 (by decide) (fun q711 => ?_) (fun q711 => ?_)
    · exact absurd q711 q684
    · skip
      refine z_iconst (v := 1) C dL_law_714 (by decide) ?_
      refine z_goto (tgt := 719) C dL_law_715 (by decide) ?_
      refine z_aload_n C dL_law_719 rfl ?_
      refine z_iload_n C dL_law_720 rfl ?_
      refine z_iconst (v := 3) C dL_law_721 (by decide) ?_
      refine z_iadd C dL_law_722 ?_
      refine z_eqi (zad6 c 3) ?_
      refine z_sld C B dL_law_723 (vp_in_nI (by omega) (by omega)) ?_
      refine zs_callVq C dL_law_724 zm_L_84 zyX10_trip hMm zc_10 rfl zk_41 (by decide) (by omega) rfl rfl (Nat.le_of_ble_eq_true rfl) (by omega) (by omega) (fun v2 iv2 lw2 hq2 => ?_)
      obtain ⟨rfl, hR2⟩ := hq2
      refine z_icmp_eq (tgt := 1009) C dL_law_727 (by decide) (fun _ => ?_) (fun q => absurd rfl q)
      exact z_widen (by omega) (by omega) (kk n iv2 lw2 hR2)

set_option maxHeartbeats 2000000 in
set_option maxRecDepth 8000 in
theorem lc_clear (X : zX) {nm : String} (L : Nat) (xs : Nat → Int32) (n c : Nat) (iv : zI) (lw : zG) (C : zC X cL_law 4 RL (some .boolean) nm 100 600000 7302250) (B : zLw X L xs) (hl : 6 * c + 5 < L) (hL : L ≤ 3072) (hR : zRw n c iv) (kk : ∀ (n2 : Nat) (iv2 : zI) (lw2 : zG), zRw n2 (c + 1) iv2 → zJ X 0 4 1009 [some (.ref 1030), some (.ref 0), some (.ref 41), some (.int (nI (6 * c)))] [] (91 + 3 * n2) skd iv2 (srf n2) lw2 (103 + 3 * c) (10025 + 25 * c)) : zJ X 0 4 732 [some (.ref 1030), some (.ref 0), some (.ref 41), some (.int (nI (6 * c)))] [] (91 + 3 * n) skd iv (srf n) lw (100 + 3 * c) (10000 + 25 * c) := by
  refine z_aload_n C dL_law_732 rfl ?_
  obtain ⟨lx, hlx, hMx⟩ := k_clear (lw := lw) hR
  refine zs_callVq C dL_law_733 zm_L_85 zyX9_clear hMx zc_9 rfl zk_0 (by decide) (by omega) rfl rfl (Nat.le_of_ble_eq_true rfl) (by omega) (by omega) (fun v1 iv1 lw1 hq1 => ?_)
  obtain ⟨r, rfl, lm, hlm, hMm⟩ := hq1
  refine z_aload_n C dL_law_736 rfl ?_
  refine zs_callVq C dL_law_737 zm_L_88 zyX10_clear hMm zc_10 rfl zk_41 (by decide) (by omega) rfl rfl (Nat.le_of_ble_eq_true rfl) (by omega) (by omega) (fun v2 iv2 lw2 hq2 => ?_)
  obtain ⟨rfl, hR2⟩ := hq2
  refine z_icmp_eq (tgt := 1009) C dL_law_740 (by decide) (fun _ => ?_) (fun q => absurd rfl q)
  exact z_widen (by omega) (by omega) (kk n iv2 lw2 hR2)

set_option maxHeartbeats 2000000 in
set_option maxRecDepth 8000 in
theorem lc_behind (X : zX) {nm : String} (L : Nat) (xs : Nat → Int32) (n c : Nat) (iv : zI) (lw : zG) (C : zC X cL_law 4 RL (some .boolean) nm 100 600000 7302250) (B : zLw X L xs) (hl : 6 * c + 5 < L) (hL : L ≤ 3072) (hR : zRw n c iv) (kk : ∀ (n2 : Nat) (iv2 : zI) (lw2 : zG), zRw n2 (c + 1) iv2 → zJ X 0 4 1009 [some (.ref 1030), some (.ref 0), some (.ref 41), some (.int (nI (6 * c)))] [] (91 + 3 * n2) skd iv2 (srf n2) lw2 (103 + 3 * c) (10025 + 25 * c)) : zJ X 0 4 745 [some (.ref 1030), some (.ref 0), some (.ref 41), some (.int (nI (6 * c)))] [] (91 + 3 * n) skd iv (srf n) lw (100 + 3 * c) (10000 + 25 * c) := by
  refine z_aload_n C dL_law_745 rfl ?_
  refine z_aload_n C dL_law_746 rfl ?_
  refine z_iload_n C dL_law_747 rfl ?_
  refine z_iconst (v := 1) C dL_law_748 (by decide) ?_
  refine z_iadd C dL_law_749 ?_
  refine z_eqi (zad6 c 1) ?_
  refine z_sld C B dL_law_750 (vp_in_nI (by omega) (by omega)) ?_
  refine z_aload_n C dL_law_751 rfl ?_
  refine z_iload_n C dL_law_752 rfl ?_
  refine z_iconst (v := 2) C dL_law_753 (by decide) ?_
  refine z_iadd C dL_law_754 ?_
  refine z_eqi (zad6 c 2) ?_
  refine z_sld C B dL_law_755 (vp_in_nI (by omega) (by omega)) ?_
  refine z_aload_n C dL_law_756 rfl ?_
  refine z_iload_n C dL_law_757 rfl ?_
  refine z_iconst (v := 3) C dL_law_758 (by decide) ?_
  refine z_iadd C dL_law_759 ?_
  refine z_eqi (zad6 c 3) ?_
  refine z_sld C B dL_law_760 (vp_in_nI (by omega) (by omega)) ?_
  obtain ⟨lx, hlx, hMx⟩ := k_behind (lw := lw) hR (xs (nI (6 * c + 1)).toNatClampNeg) (xs (nI (6 * c + 2)).toNatClampNeg) (xs (nI (6 * c + 3)).toNatClampNeg)
  refine zs_callVq C dL_law_761 zm_L_89 zyX9_behind hMx zc_9 rfl zk_0 (by decide) (by omega) rfl rfl (Nat.le_of_ble_eq_true rfl) (by omega) (by omega) (fun v1 iv1 lw1 hq1 => ?_)
  obtain ⟨r, rfl, lm, hlm, hMm⟩ := hq1
  refine z_aload_n C dL_law_764 rfl ?_
  refine z_aload_n C dL_law_765 rfl ?_
  refine z_iload_n C dL_law_766 rfl ?_
  refine z_iconst (v := 1) C dL_law_767 (by decide) ?_
  refine z_iadd C dL_law_768 ?_
  refine z_eqi (zad6 c 1) ?_
  refine z_sld C B dL_law_769 (vp_in_nI (by omega) (by omega)) ?_
  refine z_aload_n C dL_law_770 rfl ?_
  refine z_iload_n C dL_law_771 rfl ?_
  refine z_iconst (v := 2) C dL_law_772 (by decide) ?_
  refine z_iadd C dL_law_773 ?_
  refine z_eqi (zad6 c 2) ?_
  refine z_sld C B dL_law_774 (vp_in_nI (by omega) (by omega)) ?_
  refine z_aload_n C dL_law_775 rfl ?_
  refine z_iload_n C dL_law_776 rfl ?_
  refine z_iconst (v := 3) C dL_law_777 (by decide) ?_
  refine z_iadd C dL_law_778 ?_
  refine z_eqi (zad6 c 3) ?_
  refine z_sld C B dL_law_779 (vp_in_nI (by omega) (by omega)) ?_
  refine zs_callVq C dL_law_780 zm_L_92 zyX10_behind hMm zc_10 rfl zk_41 (by decide) (by omega) rfl rfl (Nat.le_of_ble_eq_true rfl) (by omega) (by omega) (fun v2 iv2 lw2 hq2 => ?_)
  obtain ⟨rfl, hR2⟩ := hq2
  refine z_icmp_eq (tgt := 1009) C dL_law_783 (by decide) (fun _ => ?_) (fun q => absurd rfl q)
  exact z_widen (by omega) (by omega) (kk n iv2 lw2 hR2)

set_option maxHeartbeats 2000000 in
set_option maxRecDepth 8000 in
theorem lc_fewest (X : zX) {nm : String} (L : Nat) (xs : Nat → Int32) (n c : Nat) (iv : zI) (lw : zG) (C : zC X cL_law 4 RL (some .boolean) nm 100 600000 7302250) (B : zLw X L xs) (hl : 6 * c + 5 < L) (hL : L ≤ 3072) (hR : zRw n c iv) (kk : ∀ (n2 : Nat) (iv2 : zI) (lw2 : zG), zRw n2 (c + 1) iv2 → zJ X 0 4 1009 [some (.ref 1030), some (.ref 0), some (.ref 41), some (.int (nI (6 * c)))] [] (91 + 3 * n2) skd iv2 (srf n2) lw2 (103 + 3 * c) (10025 + 25 * c)) : zJ X 0 4 788 [some (.ref 1030), some (.ref 0), some (.ref 41), some (.int (nI (6 * c)))] [] (91 + 3 * n) skd iv (srf n) lw (100 + 3 * c) (10000 + 25 * c) := by
  refine z_aload_n C dL_law_788 rfl ?_
  refine z_aload_n C dL_law_789 rfl ?_
  refine z_iload_n C dL_law_790 rfl ?_
  refine z_iconst (v := 1) C dL_law_791 (by decide) ?_
  refine z_iadd C dL_law_792 ?_
  refine z_eqi (zad6 c 1) ?_
  refine z_sld C B dL_law_793 (vp_in_nI (by omega) (by omega)) ?_
  obtain ⟨lx, hlx, hMx⟩ := k_fewest (lw := lw) hR (xs (nI (6 * c + 1)).toNatClampNeg)
  refine zs_callVq C dL_law_794 zm_L_93 zyX9_fewest hMx zc_9 rfl zk_0 (by decide) (by omega) rfl rfl (Nat.le_of_ble_eq_true rfl) (by omega) (by omega) (fun v1 iv1 lw1 hq1 => ?_)
  obtain ⟨r, rfl, lm, hlm, hMm⟩ := hq1
  refine z_aload_n C dL_law_797 rfl ?_
  refine z_aload_n C dL_law_798 rfl ?_
  refine z_iload_n C dL_law_799 rfl ?_
  refine z_iconst (v := 1) C dL_law_800 (by decide) ?_
  refine z_iadd C dL_law_801 ?_
  refine z_eqi (zad6 c 1) ?_
  refine z_sld C B dL_law_802 (vp_in_nI (by omega) (by omega)) ?_
  refine zs_callVq C dL_law_803 zm_L_96 zyX10_fewest hMm zc_10 rfl zk_41 (by decide) (by omega) rfl rfl (Nat.le_of_ble_eq_true rfl) (by omega) (by omega) (fun v2 iv2 lw2 hq2 => ?_)
  obtain ⟨rfl, hR2⟩ := hq2
  refine z_icmp_eq (tgt := 1009) C dL_law_806 (by decide) (fun _ => ?_) (fun q => absurd rfl q)
  exact z_widen (by omega) (by omega) (kk n iv2 lw2 hR2)

set_option maxHeartbeats 2000000 in
set_option maxRecDepth 8000 in
theorem lc_book (X : zX) {nm : String} (L : Nat) (xs : Nat → Int32) (n c : Nat) (iv : zI) (lw : zG) (C : zC X cL_law 4 RL (some .boolean) nm 100 600000 7302250) (B : zLw X L xs) (hl : 6 * c + 5 < L) (hL : L ≤ 3072) (hR : zRw n c iv) (kk : ∀ (n2 : Nat) (iv2 : zI) (lw2 : zG), zRw n2 (c + 1) iv2 → zJ X 0 4 1009 [some (.ref 1030), some (.ref 0), some (.ref 41), some (.int (nI (6 * c)))] [] (91 + 3 * n2) skd iv2 (srf n2) lw2 (103 + 3 * c) (10025 + 25 * c)) : zJ X 0 4 811 [some (.ref 1030), some (.ref 0), some (.ref 41), some (.int (nI (6 * c)))] [] (91 + 3 * n) skd iv (srf n) lw (100 + 3 * c) (10000 + 25 * c) := by
  refine z_aload_n C dL_law_811 rfl ?_
  refine z_aload_n C dL_law_812 rfl ?_
  refine z_iload_n C dL_law_813 rfl ?_
  refine z_iconst (v := 1) C dL_law_814 (by decide) ?_
  refine z_iadd C dL_law_815 ?_
  refine z_eqi (zad6 c 1) ?_
  refine z_sld C B dL_law_816 (vp_in_nI (by omega) (by omega)) ?_
  refine z_aload_n C dL_law_817 rfl ?_
  refine z_iload_n C dL_law_818 rfl ?_
  refine z_iconst (v := 2) C dL_law_819 (by decide) ?_
  refine z_iadd C dL_law_820 ?_
  refine z_eqi (zad6 c 2) ?_
  refine z_sld C B dL_law_821 (vp_in_nI (by omega) (by omega)) ?_
  refine z_aload_n C dL_law_822 rfl ?_
  refine z_iload_n C dL_law_823 rfl ?_
  refine z_iconst (v := 3) C dL_law_824 (by decide) ?_
  refine z_iadd C dL_law_825 ?_
  refine z_eqi (zad6 c 3) ?_
  refine z_sld C B dL_law_826 (vp_in_nI (by omega) (by omega)) ?_
  obtain ⟨lx, hlx, hMx⟩ := k_book (lw := lw) hR (xs (nI (6 * c + 1)).toNatClampNeg) (xs (nI (6 * c + 2)).toNatClampNeg) (xs (nI (6 * c + 3)).toNatClampNeg)
  refine zs_callVq C dL_law_827 zm_L_97 zyX9_book hMx zc_9 rfl zk_0 (by decide) (by omega) rfl rfl (Nat.le_of_ble_eq_true rfl) (by omega) (by omega) (fun v1 iv1 lw1 hq1 => ?_)
  obtain ⟨r, rfl, lm, hlm, hMm⟩ := hq1
  refine z_aload_n C dL_law_830 rfl ?_
  refine z_aload_n C dL_law_831 rfl ?_
  refine z_iload_n C dL_law_832 rfl ?_
  refine z_iconst (v := 1) C dL_law_833 (by decide) ?_
  refine z_iadd C dL_law_834 ?_
  refine z_eqi (zad6 c 1) ?_
  refine z_sld C B dL_law_835 (vp_in_nI (by omega) (by omega)) ?_
  refine z_aload_n C dL_law_836 rfl ?_
  refine z_iload_n C dL_law_837 rfl ?_
  refine z_iconst (v := 2) C dL_law_838 (by decide) ?_
  refine z_iadd C dL_law_839 ?_
  refine z_eqi (zad6 c 2) ?_
  refine z_sld C B dL_law_840 (vp_in_nI (by omega) (by omega)) ?_
  refine z_aload_n C dL_law_841 rfl ?_
  refine z_iload_n C dL_law_842 rfl ?_
  refine z_iconst (v := 3) C dL_law_843 (by decide) ?_
  refine z_iadd C dL_law_844 ?_
  refine z_eqi (zad6 c 3) ?_
  refine z_sld C B dL_law_845 (vp_in_nI (by omega) (by omega)) ?_
  refine zs_callVq C dL_law_846 zm_L_100 zyX10_book hMm zc_10 rfl zk_41 (by decide) (by omega) rfl rfl (Nat.le_of_ble_eq_true rfl) (by omega) (by omega) (fun v2 iv2 lw2 hq2 => ?_)
  obtain ⟨rfl, hR2⟩ := hq2
  refine z_icmp_eq (tgt := 1009) C dL_law_849 (by decide) (fun _ => ?_) (fun q => absurd rfl q)
  exact z_widen (by omega) (by omega) (kk n iv2 lw2 hR2)

set_option maxHeartbeats 2000000 in
set_option maxRecDepth 8000 in
theorem lc_untell (X : zX) {nm : String} (L : Nat) (xs : Nat → Int32) (n c : Nat) (iv : zI) (lw : zG) (C : zC X cL_law 4 RL (some .boolean) nm 100 600000 7302250) (B : zLw X L xs) (hl : 6 * c + 5 < L) (hL : L ≤ 3072) (hR : zRw n c iv) (kk : ∀ (n2 : Nat) (iv2 : zI) (lw2 : zG), zRw n2 (c + 1) iv2 → zJ X 0 4 1009 [some (.ref 1030), some (.ref 0), some (.ref 41), some (.int (nI (6 * c)))] [] (91 + 3 * n2) skd iv2 (srf n2) lw2 (103 + 3 * c) (10025 + 25 * c)) : zJ X 0 4 854 [some (.ref 1030), some (.ref 0), some (.ref 41), some (.int (nI (6 * c)))] [] (91 + 3 * n) skd iv (srf n) lw (100 + 3 * c) (10000 + 25 * c) := by
  refine z_aload_n C dL_law_854 rfl ?_
  refine z_aload_n C dL_law_855 rfl ?_
  refine z_iload_n C dL_law_856 rfl ?_
  refine z_iconst (v := 1) C dL_law_857 (by decide) ?_
  refine z_iadd C dL_law_858 ?_
  refine z_eqi (zad6 c 1) ?_
  refine z_sld C B dL_law_859 (vp_in_nI (by omega) (by omega)) ?_
  obtain ⟨lx, hlx, hMx⟩ := k_untell (lw := lw) hR (xs (nI (6 * c + 1)).toNatClampNeg)
  refine zs_callVq C dL_law_860 zm_L_101 zyX9_untell hMx zc_9 rfl zk_0 (by decide) (by omega) rfl rfl (Nat.le_of_ble_eq_true rfl) (by omega) (by omega) (fun v1 iv1 lw1 hq1 => ?_)
  obtain ⟨r, rfl, lm, hlm, hMm⟩ := hq1
  refine z_aload_n C dL_law_863 rfl ?_
  refine z_aload_n C dL_law_864 rfl ?_
  refine z_iload_n C dL_law_865 rfl ?_
  refine z_iconst (v := 1) C dL_law_866 (by decide) ?_
  refine z_iadd C dL_law_867 ?_
  refine z_eqi (zad6 c 1) ?_
  refine z_sld C B dL_law_868 (vp_in_nI (by omega) (by omega)) ?_
  refine zs_callVq C dL_law_869 zm_L_105 zyX10_untell hMm zc_10 rfl zk_41 (by decide) (by omega) rfl rfl (Nat.le_of_ble_eq_true rfl) (by omega) (by omega) (fun v2 iv2 lw2 hq2 => ?_)
  obtain ⟨rfl, hR2⟩ := hq2
  refine z_icmp_eq (tgt := 1009) C dL_law_872 (by decide) (fun _ => ?_) (fun q => absurd rfl q)
  exact z_widen (by omega) (by omega) (kk n iv2 lw2 hR2)

set_option maxHeartbeats 2000000 in
set_option maxRecDepth 8000 in
theorem lc_free (X : zX) {nm : String} (L : Nat) (xs : Nat → Int32) (n c : Nat) (iv : zI) (lw : zG) (C : zC X cL_law 4 RL (some .boolean) nm 100 600000 7302250) (B : zLw X L xs) (hl : 6 * c + 5 < L) (hL : L ≤ 3072) (hR : zRw n c iv) (kk : ∀ (n2 : Nat) (iv2 : zI) (lw2 : zG), zRw n2 (c + 1) iv2 → zJ X 0 4 1009 [some (.ref 1030), some (.ref 0), some (.ref 41), some (.int (nI (6 * c)))] [] (91 + 3 * n2) skd iv2 (srf n2) lw2 (103 + 3 * c) (10025 + 25 * c)) : zJ X 0 4 877 [some (.ref 1030), some (.ref 0), some (.ref 41), some (.int (nI (6 * c)))] [] (91 + 3 * n) skd iv (srf n) lw (100 + 3 * c) (10000 + 25 * c) := by
  refine z_aload_n C dL_law_877 rfl ?_
  refine z_aload_n C dL_law_878 rfl ?_
  refine z_iload_n C dL_law_879 rfl ?_
  refine z_iconst (v := 1) C dL_law_880 (by decide) ?_
  refine z_iadd C dL_law_881 ?_
  refine z_eqi (zad6 c 1) ?_
  refine z_sld C B dL_law_882 (vp_in_nI (by omega) (by omega)) ?_
  refine z_aload_n C dL_law_883 rfl ?_
  refine z_iload_n C dL_law_884 rfl ?_
  refine z_iconst (v := 2) C dL_law_885 (by decide) ?_
  refine z_iadd C dL_law_886 ?_
  refine z_eqi (zad6 c 2) ?_
  refine z_sld C B dL_law_887 (vp_in_nI (by omega) (by omega)) ?_
  refine z_aload_n C dL_law_888 rfl ?_
  refine z_iload_n C dL_law_889 rfl ?_
  refine z_iconst (v := 3) C dL_law_890 (by decide) ?_
  refine z_iadd C dL_law_891 ?_
  refine z_eqi (zad6 c 3) ?_
  refine z_sld C B dL_law_892 (vp_in_nI (by omega) (by omega)) ?_
  obtain ⟨lx, hlx, hMx⟩ := k_free (lw := lw) hR (xs (nI (6 * c + 1)).toNatClampNeg) (xs (nI (6 * c + 2)).toNatClampNeg) (xs (nI (6 * c + 3)).toNatClampNeg)
  refine zs_callVq C dL_law_893 zm_L_106 zyX9_free hMx zc_9 rfl zk_0 (by decide) (by omega) rfl rfl (Nat.le_of_ble_eq_true rfl) (by omega) (by omega) (fun v1 iv1 lw1 hq1 => ?_)
  obtain ⟨r, rfl, lm, hlm, hMm⟩ := hq1
  refine z_aload_n C dL_law_896 rfl ?_
  refine z_aload_n C dL_law_897 rfl ?_
  refine z_iload_n C dL_law_898 rfl ?_
  refine z_iconst (v := 1) C dL_law_899 (by decide) ?_
  refine z_iadd C dL_law_900 ?_
  refine z_eqi (zad6 c 1) ?_
  refine z_sld C B dL_law_901 (vp_in_nI (by omega) (by omega)) ?_
  refine z_aload_n C dL_law_902 rfl ?_
  refine z_iload_n C dL_law_903 rfl ?_
  refine z_iconst (v := 2) C dL_law_904 (by decide) ?_
  refine z_iadd C dL_law_905 ?_
  refine z_eqi (zad6 c 2) ?_
  refine z_sld C B dL_law_906 (vp_in_nI (by omega) (by omega)) ?_
  refine z_aload_n C dL_law_907 rfl ?_
  refine z_iload_n C dL_law_908 rfl ?_
  refine z_iconst (v := 3) C dL_law_909 (by decide) ?_
  refine z_iadd C dL_law_910 ?_
  refine z_eqi (zad6 c 3) ?_
  refine z_sld C B dL_law_911 (vp_in_nI (by omega) (by omega)) ?_
  refine zs_callVq C dL_law_912 zm_L_109 zyX10_free hMm zc_10 rfl zk_41 (by decide) (by omega) rfl rfl (Nat.le_of_ble_eq_true rfl) (by omega) (by omega) (fun v2 iv2 lw2 hq2 => ?_)
  obtain ⟨rfl, hR2⟩ := hq2
  refine z_icmp_eq (tgt := 1009) C dL_law_915 (by decide) (fun _ => ?_) (fun q => absurd rfl q)
  exact z_widen (by omega) (by omega) (kk n iv2 lw2 hR2)

set_option maxHeartbeats 2000000 in
set_option maxRecDepth 8000 in
theorem lc_parted (X : zX) {nm : String} (L : Nat) (xs : Nat → Int32) (n c : Nat) (iv : zI) (lw : zG) (C : zC X cL_law 4 RL (some .boolean) nm 100 600000 7302250) (B : zLw X L xs) (hl : 6 * c + 5 < L) (hL : L ≤ 3072) (hR : zRw n c iv) (kk : ∀ (n2 : Nat) (iv2 : zI) (lw2 : zG), zRw n2 (c + 1) iv2 → zJ X 0 4 1009 [some (.ref 1030), some (.ref 0), some (.ref 41), some (.int (nI (6 * c)))] [] (91 + 3 * n2) skd iv2 (srf n2) lw2 (103 + 3 * c) (10025 + 25 * c)) : zJ X 0 4 920 [some (.ref 1030), some (.ref 0), some (.ref 41), some (.int (nI (6 * c)))] [] (91 + 3 * n) skd iv (srf n) lw (100 + 3 * c) (10000 + 25 * c) := by
  refine z_aload_n C dL_law_920 rfl ?_
  refine z_aload_n C dL_law_921 rfl ?_
  refine z_iload_n C dL_law_922 rfl ?_
  refine z_iconst (v := 1) C dL_law_923 (by decide) ?_
  refine z_iadd C dL_law_924 ?_
  refine z_eqi (zad6 c 1) ?_
  refine z_sld C B dL_law_925 (vp_in_nI (by omega) (by omega)) ?_
  refine z_aload_n C dL_law_926 rfl ?_
  refine z_iload_n C dL_law_927 rfl ?_
  refine z_iconst (v := 2) C dL_law_928 (by decide) ?_
  refine z_iadd C dL_law_929 ?_
  refine z_eqi (zad6 c 2) ?_
  refine z_sld C B dL_law_930 (vp_in_nI (by omega) (by omega)) ?_
  obtain ⟨lx, hlx, hMx⟩ := k_parted (lw := lw) hR (xs (nI (6 * c + 1)).toNatClampNeg) (xs (nI (6 * c + 2)).toNatClampNeg)
  refine zs_callVq C dL_law_931 zm_L_110 zyX9_parted hMx zc_9 rfl zk_0 (by decide) (by omega) rfl rfl (Nat.le_of_ble_eq_true rfl) (by omega) (by omega) (fun v1 iv1 lw1 hq1 => ?_)
  obtain ⟨r, rfl, lm, hlm, hMm⟩ := hq1
  refine z_aload_n C dL_law_934 rfl ?_
  refine z_aload_n C dL_law_935 rfl ?_
  refine z_iload_n C dL_law_936 rfl ?_
  refine z_iconst (v := 1) C dL_law_937 (by decide) ?_
  refine z_iadd C dL_law_938 ?_
  refine z_eqi (zad6 c 1) ?_
  refine z_sld C B dL_law_939 (vp_in_nI (by omega) (by omega)) ?_
  refine z_aload_n C dL_law_940 rfl ?_
  refine z_iload_n C dL_law_941 rfl ?_
  refine z_iconst (v := 2) C dL_law_942 (by decide) ?_
  refine z_iadd C dL_law_943 ?_
  refine z_eqi (zad6 c 2) ?_
  refine z_sld C B dL_law_944 (vp_in_nI (by omega) (by omega)) ?_
  refine zs_callVq C dL_law_945 zm_L_113 zyX10_parted hMm zc_10 rfl zk_41 (by decide) (by omega) rfl rfl (Nat.le_of_ble_eq_true rfl) (by omega) (by omega) (fun v2 iv2 lw2 hq2 => ?_)
  obtain ⟨rfl, hR2⟩ := hq2
  refine z_icmp_eq (tgt := 1009) C dL_law_948 (by decide) (fun _ => ?_) (fun q => absurd rfl q)
  exact z_widen (by omega) (by omega) (kk n iv2 lw2 hR2)

set_option maxHeartbeats 2000000 in
set_option maxRecDepth 8000 in
theorem lc_about (X : zX) {nm : String} (L : Nat) (xs : Nat → Int32) (n c : Nat) (iv : zI) (lw : zG) (C : zC X cL_law 4 RL (some .boolean) nm 100 600000 7302250) (B : zLw X L xs) (hl : 6 * c + 5 < L) (hL : L ≤ 3072) (hR : zRw n c iv) (kk : ∀ (n2 : Nat) (iv2 : zI) (lw2 : zG), zRw n2 (c + 1) iv2 → zJ X 0 4 1009 [some (.ref 1030), some (.ref 0), some (.ref 41), some (.int (nI (6 * c)))] [] (91 + 3 * n2) skd iv2 (srf n2) lw2 (103 + 3 * c) (10025 + 25 * c)) : zJ X 0 4 953 [some (.ref 1030), some (.ref 0), some (.ref 41), some (.int (nI (6 * c)))] [] (91 + 3 * n) skd iv (srf n) lw (100 + 3 * c) (10000 + 25 * c) := by
  refine z_aload_n C dL_law_953 rfl ?_
  refine z_aload_n C dL_law_954 rfl ?_
  refine z_iload_n C dL_law_955 rfl ?_
  refine z_iconst (v := 1) C dL_law_956 (by decide) ?_
  refine z_iadd C dL_law_957 ?_
  refine z_eqi (zad6 c 1) ?_
  refine z_sld C B dL_law_958 (vp_in_nI (by omega) (by omega)) ?_
  obtain ⟨lx, hlx, hMx⟩ := k_about (lw := lw) hR (xs (nI (6 * c + 1)).toNatClampNeg)
  refine zs_callVq C dL_law_959 zm_L_114 zyX9_about hMx zc_9 rfl zk_0 (by decide) (by omega) rfl rfl (Nat.le_of_ble_eq_true rfl) (by omega) (by omega) (fun v1 iv1 lw1 hq1 => ?_)
  obtain ⟨r, rfl, lm, hlm, hMm⟩ := hq1
  refine z_aload_n C dL_law_962 rfl ?_
  refine z_aload_n C dL_law_963 rfl ?_
  refine z_iload_n C dL_law_964 rfl ?_
  refine z_iconst (v := 1) C dL_law_965 (by decide) ?_
  refine z_iadd C dL_law_966 ?_
  refine z_eqi (zad6 c 1) ?_
  refine z_sld C B dL_law_967 (vp_in_nI (by omega) (by omega)) ?_
  refine zs_callVq C dL_law_968 zm_L_117 zyX10_about hMm zc_10 rfl zk_41 (by decide) (by omega) rfl rfl (Nat.le_of_ble_eq_true rfl) (by omega) (by omega) (fun v2 iv2 lw2 hq2 => ?_)
  obtain ⟨rfl, hR2⟩ := hq2
  refine z_icmp_eq (tgt := 1009) C dL_law_971 (by decide) (fun _ => ?_) (fun q => absurd rfl q)
  exact z_widen (by omega) (by omega) (kk n iv2 lw2 hR2)

set_option maxHeartbeats 2000000 in
set_option maxRecDepth 8000 in
theorem lc_road (X : zX) {nm : String} (L : Nat) (xs : Nat → Int32) (n c : Nat) (iv : zI) (lw : zG) (C : zC X cL_law 4 RL (some .boolean) nm 100 600000 7302250) (B : zLw X L xs) (hl : 6 * c + 5 < L) (hL : L ≤ 3072) (hR : zRw n c iv) (kk : ∀ (n2 : Nat) (iv2 : zI) (lw2 : zG), zRw n2 (c + 1) iv2 → zJ X 0 4 1009 [some (.ref 1030), some (.ref 0), some (.ref 41), some (.int (nI (6 * c)))] [] (91 + 3 * n2) skd iv2 (srf n2) lw2 (103 + 3 * c) (10025 + 25 * c)) : zJ X 0 4 976 [some (.ref 1030), some (.ref 0), some (.ref 41), some (.int (nI (6 * c)))] [] (91 + 3 * n) skd iv (srf n) lw (100 + 3 * c) (10000 + 25 * c) := by
  refine z_aload_n C dL_law_976 rfl ?_
  refine z_aload_n C dL_law_977 rfl ?_
  refine z_iload_n C dL_law_978 rfl ?_
  refine z_iconst (v := 1) C dL_law_979 (by decide) ?_
  refine z_iadd C dL_law_980 ?_
  refine z_eqi (zad6 c 1) ?_
  refine z_sld C B dL_law_981 (vp_in_nI (by omega) (by omega)) ?_
  refine z_aload_n C dL_law_982 rfl ?_
  refine z_iload_n C dL_law_983 rfl ?_
  refine z_iconst (v := 2) C dL_law_984 (by decide) ?_
  refine z_iadd C dL_law_985 ?_
  refine z_eqi (zad6 c 2) ?_
  refine z_sld C B dL_law_986 (vp_in_nI (by omega) (by omega)) ?_
  obtain ⟨lx, hlx, hMx⟩ := k_road (lw := lw) hR (xs (nI (6 * c + 1)).toNatClampNeg) (xs (nI (6 * c + 2)).toNatClampNeg)
  refine zs_callVq C dL_law_987 zm_L_118 zyX9_road hMx zc_9 rfl zk_0 (by decide) (by omega) rfl rfl (Nat.le_of_ble_eq_true rfl) (by omega) (by omega) (fun v1 iv1 lw1 hq1 => ?_)
  obtain ⟨r, rfl, lm, hlm, hMm⟩ := hq1
  refine z_aload_n C dL_law_990 rfl ?_
  refine z_aload_n C dL_law_991 rfl ?_
  refine z_iload_n C dL_law_992 rfl ?_
  refine z_iconst (v := 1) C dL_law_993 (by decide) ?_
  refine z_iadd C dL_law_994 ?_
  refine z_eqi (zad6 c 1) ?_
  refine z_sld C B dL_law_995 (vp_in_nI (by omega) (by omega)) ?_
  refine z_aload_n C dL_law_996 rfl ?_
  refine z_iload_n C dL_law_997 rfl ?_
  refine z_iconst (v := 2) C dL_law_998 (by decide) ?_
  refine z_iadd C dL_law_999 ?_
  refine z_eqi (zad6 c 2) ?_
  refine z_sld C B dL_law_1000 (vp_in_nI (by omega) (by omega)) ?_
  refine zs_callVq C dL_law_1001 zm_L_121 zyX10_road hMm zc_10 rfl zk_41 (by decide) (by omega) rfl rfl (Nat.le_of_ble_eq_true rfl) (by omega) (by omega) (fun v2 iv2 lw2 hq2 => ?_)
  obtain ⟨rfl, hR2⟩ := hq2
  refine z_icmp_eq (tgt := 1009) C dL_law_1004 (by decide) (fun _ => ?_) (fun q => absurd rfl q)
  exact z_widen (by omega) (by omega) (kk n iv2 lw2 hR2)
