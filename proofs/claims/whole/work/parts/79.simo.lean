/-! the guide, either way -/
def zRg (u w : zI) (ls : zLi) : Prop := zDr 23 24 25 26 u ls ∧ zDm w ls ∧ zwl ls ∧ (∀ x, x ∈ ls → zval x.1) ∧ (zfl ls).length ≤ 400 ∧ ls.length ≤ 10
def zfa (ls : zLi) (l : Nat) : Nat := (zfl (ls.take l)).length
def zen (ls : zLi) (l : Nat) : Nat := (zfl (ls.take (l + 1))).length
theorem zfa_s : ∀ (ls : zLi) (l : Nat), l < ls.length → zfa ls (l + 1) = zfa ls l + (ls.getD l ([], 0)).1.length
  | [], l, h => absurd h (by simp)
  | x :: ls, 0, h => by
    show (zfl [x]).length = (zfl []).length + x.1.length
    rw [zfl_one, List.length_reverse]
    show _ = 0 + _
    omega
  | x :: ls, l + 1, h => by
    have ih := zfa_s ls l (by simp at h; omega)
    show (x.1.reverse ++ zfl (ls.take (l + 1))).length = (x.1.reverse ++ zfl (ls.take l)).length + (ls.getD l ([], 0)).1.length
    rw [List.length_append, List.length_append]
    have ih : (zfl (ls.take (l + 1))).length = (zfl (ls.take l)).length + (ls.getD l ([], 0)).1.length := ih
    omega
theorem zfa_at : ∀ (ls : zLi) (l j : Nat), l < ls.length → j < (ls.getD l ([], 0)).1.length → (zfl ls).getD (zfa ls l + j) 0 = (ls.getD l ([], 0)).1.reverse.getD j 0
  | [], l, j, h, _ => absurd h (by simp)
  | x :: ls, 0, j, h, hj => by
    have hj : j < x.1.length := hj
    show (x.1.reverse ++ zfl ls).getD (0 + j) 0 = x.1.reverse.getD j 0
    rw [Nat.zero_add, List.getD_eq_getElem?_getD, List.getElem?_append_left (by rw [List.length_reverse]; exact hj), ← List.getD_eq_getElem?_getD]
  | x :: ls, l + 1, j, h, hj => by
    have ih := zfa_at ls l j (by simp at h; omega) hj
    show (x.1.reverse ++ zfl ls).getD ((x.1.reverse ++ zfl (ls.take l)).length + j) 0 = (ls.getD l ([], 0)).1.reverse.getD j 0
    rw [← ih, List.getD_eq_getElem?_getD, List.getElem?_append_right (by rw [List.length_append]; omega), ← List.getD_eq_getElem?_getD, List.length_append, show x.1.reverse.length + (zfl (ls.take l)).length + j - x.1.reverse.length = zfa ls l + j by show _ = (zfl (ls.take l)).length + j; omega]
theorem zfa_le (ls : zLi) : ∀ l, l ≤ ls.length → zfa ls l ≤ (zfl ls).length := by
  intro l hl
  have e : zfl ls = zfl (ls.take l) ++ zfl (ls.drop l) := by rw [← zfl_app, List.take_append_drop]
  rw [e, List.length_append]
  show (zfl (ls.take l)).length ≤ _
  omega
theorem zfa_mo (ls : zLi) : ∀ (d a : Nat), a + d ≤ ls.length → zfa ls a ≤ zfa ls (a + d)
  | 0, a, _ => Nat.le_refl _
  | d + 1, a, h => by
    have h1 := zfa_mo ls d a (by omega)
    have h2 := zfa_s ls (a + d) (by omega)
    rw [show a + (d + 1) = a + d + 1 by omega]
    omega
theorem zgetD_mem {ls : zLi} {l : Nat} (h : l < ls.length) : ls.getD l ([], 0) ∈ ls := by
  rw [List.getD_eq_getElem?_getD, List.getElem?_eq_getElem h]
  exact List.getElem_mem h
theorem zRg.line {u w : zI} {ls : zLi} (h : zRg u w ls) {seen names : Nat → Int32} (hs : ∀ j, j < 10 → seen j = names j) {l : Nat} (hl : l < ls.length) : zev seen (u 26) (zfa ls l) (zen ls l - zfa ls l) [] = zmev names (w 64) (w 65) (zfa ls l) (zfa ls (l + 1) - zfa ls l) [] ∧ zmwf (w 64) (zfa ls l) (zfa ls (l + 1) - zfa ls l) 0 := by
  obtain ⟨⟨d1, d2, d3, d4⟩, ⟨m1, m2, m3, m4⟩, hw, hv, h4, h10⟩ := h
  have e1 := zfa_s ls l hl
  have e2 := zfa_le ls (l + 1) (by omega)
  have hx := zgetD_mem hl
  obtain ⟨w1, w2, -⟩ := hw _ hx
  have hvx := hv _ hx
  have hat := fun j => zfa_at ls l j hl
  generalize ls.getD l ([], 0) = x at *
  rw [show zen ls l = zfa ls (l + 1) from rfl, show zfa ls (l + 1) - zfa ls l = x.1.reverse.length by rw [List.length_reverse]; omega]
  refine zev_same hs x.1.reverse [] [] (zfa ls l) 0 (fun κ hκ => hvx κ (List.mem_reverse.mp hκ)) (fun j hj => ?_) (by rw [List.reverse_reverse, List.append_nil]; exact w1) (by rw [List.reverse_reverse, List.append_nil]; exact w2) rfl rfl
  rw [List.length_reverse] at hj
  have hlt : zfa ls l + j < (zfl ls).length := by omega
  rw [← hat j hj]
  exact ⟨d3 _ hlt, (m2 _ hlt).1, (m2 _ hlt).2⟩
theorem zRg.gi {u w : zI} {ls : zLi} (h : zRg u w ls) : zGI (zfl ls).length ls.length (zen ls) u ∧ zmGI ls.length (zfa ls) w := by
  have hl := fun l (hl : l < ls.length) => (h.line (seen := fun _ => 0) (names := fun _ => 0) (fun _ _ => rfl) hl).2
  obtain ⟨⟨d1, d2, d3, d4⟩, ⟨m1, m2, m3, m4⟩, hw, hv, h4, h10⟩ := h
  refine ⟨⟨d2, h4, d1, h10, fun l hl => ⟨(d4 l hl).1, zfa_le ls (l + 1) (by omega)⟩, fun j j2 a b => ?_⟩, m1, h10, fun l hl => ⟨m4 l hl, by have := zfa_le ls l hl; omega⟩, fun l hl => zfa_mo ls 1 l (by omega), hl⟩
  have := zfa_mo ls (j2 - j) (j + 1) (by omega)
  rw [show j + 1 + (j2 - j) = j2 + 1 by omega] at this
  exact this
theorem zRg.cho {u w : zI} {ls : zLi} (h : zRg u w ls) {seen names : Nat → Int32} (hs : ∀ j, j < 10 → seen j = names j) (df : Int32) : ∀ (k l : Nat), l + k = ls.length → (zcho seen (u 26) (u 24) (u 25) l (zfa ls l) k = 3 ∧ zmcho names (w 64) (w 65) (w 67) (zfa ls) df l k = df) ∨ (zordk (zcho seen (u 26) (u 24) (u 25) l (zfa ls l) k) ∧ zmcho names (w 64) (w 65) (w 67) (zfa ls) df l k = zdc (zcho seen (u 26) (u 24) (u 25) l (zfa ls l) k))
  | 0, l, _ => Or.inl ⟨rfl, rfl⟩
  | k + 1, l, hk => by
    have hl : l < ls.length := by omega
    have e := (h.line hs hl).1
    have ih := zRg.cho h hs df k (l + 1) (by omega)
    obtain ⟨⟨d1, d2, d3, d4⟩, ⟨m1, m2, m3, m4⟩, hw, hv, h4, h10⟩ := h
    have e24 : (u 24 l).toNatClampNeg = zen ls l := by
      rw [(d4 l hl).1]
      have := zfa_le ls (l + 1) (by omega)
      exact nI_clamp (show (zfl (ls.take (l + 1))).length < 2 ^ 31 by have : (zfl (ls.take (l + 1))).length ≤ _ := this; omega)
    rw [zcho, zmcho, e24, e]
    by_cases c : zbot (zmev names (w 64) (w 65) (zfa ls l) (zfa ls (l + 1) - zfa ls l) []) = 0
    · rw [if_neg (fun z => z c), if_neg (fun z => z c)]
      exact ih
    · rw [if_pos c, if_pos c]
      right
      rw [(d4 l hl).2, m3 l hl]
      exact ⟨(hw _ (zgetD_mem hl)).2.2, rfl⟩
theorem zord_sim {u w : zI} {n t m tl i : Nat} {en : Nat → Nat} {ls : zLi} (hX : zXI n t m tl en u) (hi : i < n) (hh : zRh u w) (ht : zRt u w t) (hck : w 41 0 = u 0 10) {τ : Int} (hj : zRj u w i τ) (h2 : u (91 + 3 * i) 5 = 2) (hg : zRg u w ls) : zordk (zord u i t ls.length) ∧ zmord w i t ls.length (zfa ls) = zdc (zord u i t ls.length) := by
  obtain ⟨⟨a1, a2, a3, a4, a5⟩, ⟨b1, b2, b3, b4⟩, c, d, e, f, g⟩ := hj
  obtain ⟨eb, hb⟩ := zbest_same (i := i) ht b2
  have g := g h2
  rw [h2, if_neg (by decide)] at e
  obtain ⟨t1, t2, t3, t4, t5, t6, t7, t8⟩ := ht
  have esv : zmsv w i = zsv u i := by unfold zmsv zsv; rw [t4, b3]
  have hsv : 0 ≤ (zsv u i).toInt := (t7 _).1
  have efr : zmfr w i t = zfrs u i t := by
    unfold zmfr zfrs
    rw [eb, t4, t1, nI_toInt (by omega)]
    rcases hb with z | ⟨k, hk, z⟩
    · rw [z, if_pos (by decide), if_neg (by rw [show Int32.toInt (-1) = -1 by decide]; omega)]
    · rw [z, nI_toInt (by omega), if_neg (by omega), if_pos (by omega)]
  have edf : zmdf w i t = if (zsv u i).toInt < (zfrs u i t).toInt then 2 else 1 := by
    unfold zmdf zfrs
    rw [eb, esv, t4, t1, nI_toInt (by omega)]
    rcases hb with z | ⟨k, hk, z⟩
    · rw [z, if_neg (fun q => q.1 (by decide)), if_neg (show ¬ (0 ≤ (-1 : Int32).toInt ∧ (-1 : Int32).toInt < (t : Int)) by rw [show Int32.toInt (-1) = -1 by decide]; omega), if_neg (by rw [show Int32.toInt (-1) = -1 by decide]; omega)]
    · rw [z, nI_toInt (by omega), if_pos (show 0 ≤ (k : Int) ∧ (k : Int) < (t : Int) by omega)]
      by_cases q : (zsv u i).toInt < (u 8 (nI k).toNatClampNeg).toInt
      · rw [if_pos q, if_pos ⟨by omega, q⟩]
      · rw [if_neg q, if_neg (fun z => q z.2)]
  have esg : zmsg w i = zsg u i := by unfold zmsg zsg; rw [a3, a4, b2]
  have hs : ∀ j, j < 10 → zlook u i (zfrs u i t) 28 j = zmlook w i t 75 j := by
    intro j hj
    unfold zlook zmlook
    simp only [zu_s]
    have q : j = 0 ∨ j = 1 ∨ j = 2 ∨ j = 3 ∨ j = 4 ∨ j = 5 ∨ j = 6 ∨ j = 7 ∨ j = 8 ∨ j = 9 := by omega
    rcases q with q | q | q | q | q | q | q | q | q | q <;> subst q
    · rw [pk_un (by decide), pk_un (by decide), pk_un (by decide), pk_un (by decide), pk_un (by decide), pk_un (by decide), pk_un (by decide), pk_un (by decide), pk_un (by decide), pk_us, pk_un (by decide), pk_un (by decide), pk_un (by decide), pk_un (by decide), pk_un (by decide), pk_un (by decide), pk_un (by decide), pk_un (by decide), pk_un (by decide), pk_us, g, hck, b2]
    · rw [pk_un (by decide), pk_un (by decide), pk_un (by decide), pk_un (by decide), pk_un (by decide), pk_un (by decide), pk_un (by decide), pk_un (by decide), pk_us, pk_un (by decide), pk_un (by decide), pk_un (by decide), pk_un (by decide), pk_un (by decide), pk_un (by decide), pk_un (by decide), pk_un (by decide), pk_us, a2]
    · rw [pk_un (by decide), pk_un (by decide), pk_un (by decide), pk_un (by decide), pk_un (by decide), pk_un (by decide), pk_un (by decide), pk_us, pk_un (by decide), pk_un (by decide), pk_un (by decide), pk_un (by decide), pk_un (by decide), pk_un (by decide), pk_un (by decide), pk_us, esg, hh.2.2.2.2.1]
    · rw [pk_un (by decide), pk_un (by decide), pk_un (by decide), pk_un (by decide), pk_un (by decide), pk_un (by decide), pk_us, pk_un (by decide), pk_un (by decide), pk_un (by decide), pk_un (by decide), pk_un (by decide), pk_un (by decide), pk_us, esg, hh.2.2.1]
    · rw [pk_un (by decide), pk_un (by decide), pk_un (by decide), pk_un (by decide), pk_un (by decide), pk_us, pk_un (by decide), pk_un (by decide), pk_un (by decide), pk_un (by decide), pk_un (by decide), pk_us, a1]
    · rw [pk_un (by decide), pk_un (by decide), pk_un (by decide), pk_un (by decide), pk_us, pk_un (by decide), pk_un (by decide), pk_un (by decide), pk_un (by decide), pk_us, a1]
    · rw [pk_un (by decide), pk_un (by decide), pk_un (by decide), pk_us, pk_un (by decide), pk_un (by decide), pk_un (by decide), pk_us, efr]
    · rw [pk_un (by decide), pk_un (by decide), pk_us, pk_un (by decide), pk_un (by decide), pk_us, esv]
    · rw [pk_un (by decide), pk_us, pk_un (by decide), pk_us, b2]
    · rw [pk_us, pk_us, e]
  have hcho := hg.cho hs (zmdf w i t) ls.length 0 (by omega)
  have z0 : zfa ls 0 = 0 := rfl
  rw [z0] at hcho
  unfold zmord zord zord0
  rcases hcho with ⟨q1, q2⟩ | ⟨q1, q2⟩
  · rw [q1, q2, if_pos rfl, edf]
    split
    · exact ⟨Or.inr (Or.inr rfl), rfl⟩
    · exact ⟨Or.inr (Or.inl rfl), rfl⟩
  · rw [if_neg (fun z => by rw [z] at q1; exact absurd q1 (by decide))]
    exact ⟨q1, q2⟩
