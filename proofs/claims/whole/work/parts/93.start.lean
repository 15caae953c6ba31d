/-! the start -/
theorem zst_el0 : ∀ j, j < 88 → (Cond.eq (.elem (.field (.string RX6 72) "java/lang/String" "value" "[B") (.int (Int32.ofNat j))) (.int ((zbyt.getD 0 []).getD j 0))) ∈ flatC (Jvm.Cond.and given_1 narrow_1) := by decide +kernel
theorem zst_el1 : ∀ j, j < 8 → (Cond.eq (.elem (.field (.string RX6 62) "java/lang/String" "value" "[B") (.int (Int32.ofNat j))) (.int ((zbyt.getD 1 []).getD j 0))) ∈ flatC (Jvm.Cond.and given_1 narrow_1) := by decide +kernel
theorem zst_ref {args : Array Value} {s : State} {t : Term} (h : (Cond.isRef t).before args s = true) : ∃ (v : Value) (fa : Nat), t.eval args s none [] s = some v ∧ (v = .null ∨ v = .ref fa) := by
  cases hv : t.eval args s none [] s with
  | none => simp [Cond.before, Cond.holds, Cond.value, hv] at h
  | some v =>
    cases v with
    | null => exact ⟨_, 0, rfl, Or.inl rfl⟩
    | ref a => exact ⟨_, a, rfl, Or.inr rfl⟩
    | _ => simp [Cond.before, Cond.holds, Cond.value, hv] at h
theorem zst_str {s : State} {b : Nat} (hts : ∀ w ∈ lw_tbl, w.before #[Value.ref b] s = true) (hgv : (Jvm.Cond.and given_1 narrow_1).before #[Value.ref b] s = true) : ∃ ad0 : Nat → Nat, ad0 1030 = b ∧ zStr ad0 (fun q => s.heap.size ≤ q) s s.heap := by
  have hs := flat_of_before _ hgv
  have hA : ∀ a : Nat, a < s.heap.size → ¬ s.heap.size ≤ a := fun a h => Nat.not_le.mpr h
  obtain ⟨adK, adV, hS, hE⟩ := vk_Sof (args := #[Value.ref b]) (s := s) (N := 2) (tm := fun i => if i = 0 then .string RX6 72 else .string RX6 62) (len := [88, 8]) (byt := zbyt) (A := fun q => s.heap.size ≤ q)
    (fun i hi => by rcases (show i = 0 ∨ i = 1 by omega) with rfl | rfl <;> decide)
    (fun i hi => by
      rcases (show i = 0 ∨ i = 1 by omega) with rfl | rfl
      · exact hs _ (by decide +kernel)
      · exact hs _ (by decide +kernel))
    (fun i hi => by
      rcases (show i = 0 ∨ i = 1 by omega) with rfl | rfl
      · exact hs _ (by decide +kernel)
      · exact hs _ (by decide +kernel))
    (fun i hi => by
      rcases (show i = 0 ∨ i = 1 by omega) with rfl | rfl
      · exact hs _ (by decide +kernel)
      · exact hs _ (by decide +kernel))
    (fun i hi => by
      rcases (show i = 0 ∨ i = 1 by omega) with rfl | rfl
      · exact hs _ (by decide +kernel)
      · exact hs _ (by decide +kernel))
    (fun i hi j hj => by
      rcases (show i = 0 ∨ i = 1 by omega) with rfl | rfl
      · exact hs _ (zst_el0 j hj)
      · exact hs _ (zst_el1 j hj))
    (fun i j hi hj hij => by
      rcases (show i = 0 ∨ i = 1 by omega) with rfl | rfl
      · rcases (show j = 0 ∨ j = 1 by omega) with rfl | rfl
        · exact absurd rfl hij
        · first | exact Or.inl (hs _ (by decide +kernel)) | exact Or.inr (hs _ (by decide +kernel))
      · rcases (show j = 0 ∨ j = 1 by omega) with rfl | rfl
        · first | exact Or.inl (hs _ (by decide +kernel)) | exact Or.inr (hs _ (by decide +kernel))
        · exact absurd rfl hij) hA
  have hcs : (Cond.eq (.static "java/lang/String" "COMPACT_STRINGS" "Z") (.int 1)).before #[Value.ref b] s = true := hs _ (by decide +kernel)
  have hfm : (Cond.isRef (.static "jdk/internal/util/Preconditions" "SIOOBE_FORMATTER" "Ljava/util/function/BiFunction;")).before #[Value.ref b] s = true := hs _ (by decide +kernel)
  obtain ⟨fv, fa, hfa, hfv⟩ := zst_ref hfm
  refine ⟨fun k => if k = 1030 then b else if k = 1020 then fa else if 1010 ≤ k then adV (k - 1010) else adK (k - 1000), rfl, ?_, ?_, ?_, ?_, ?_, ?_⟩
  · refine ⟨fun i hi => ?_, fun i j hi hj h => ?_⟩
    · have h1 := hS.1 i hi
      have e1 : (fun i => if (1000 + i) = 1030 then b else if (1000 + i) = 1020 then fa else if 1010 ≤ 1000 + i then adV (1000 + i - 1010) else adK (1000 + i - 1000)) i = adK i := by
        show (if (1000 + i) = 1030 then b else if (1000 + i) = 1020 then fa else if 1010 ≤ 1000 + i then adV (1000 + i - 1010) else adK (1000 + i - 1000)) = adK i
        rw [if_neg (by omega), if_neg (by omega), if_neg (by omega), show 1000 + i - 1000 = i by omega]
      have e2 : (fun i => if (1010 + i) = 1030 then b else if (1010 + i) = 1020 then fa else if 1010 ≤ 1010 + i then adV (1010 + i - 1010) else adK (1010 + i - 1000)) i = adV i := by
        show (if (1010 + i) = 1030 then b else if (1010 + i) = 1020 then fa else if 1010 ≤ 1010 + i then adV (1010 + i - 1010) else adK (1010 + i - 1000)) = adV i
        rw [if_neg (by omega), if_neg (by omega), if_pos (by omega), show 1010 + i - 1010 = i by omega]
      rw [e1, e2]
      exact h1
    · have e1 : ∀ i, i < 2 → (if (1000 + i) = 1030 then b else if (1000 + i) = 1020 then fa else if 1010 ≤ 1000 + i then adV (1000 + i - 1010) else adK (1000 + i - 1000)) = adK i := fun i hi => by
        rw [if_neg (by omega), if_neg (by omega), if_neg (by omega), show 1000 + i - 1000 = i by omega]
      have h : (if (1000 + i) = 1030 then b else if (1000 + i) = 1020 then fa else if 1010 ≤ 1000 + i then adV (1000 + i - 1010) else adK (1000 + i - 1000)) = (if (1000 + j) = 1030 then b else if (1000 + j) = 1020 then fa else if 1010 ≤ 1000 + j then adV (1000 + j - 1010) else adK (1000 + j - 1000)) := h
      rw [e1 i hi, e1 j hj] at h
      exact hS.2 i j hi hj h
  · exact vk_R.of (A := #[Value.ref b]) (hts _ zs_X6_72) (hE 0 (by decide))
  · exact vk_R.of (A := #[Value.ref b]) (hts _ zs_X6_62) (hE 1 (by decide))
  · exact va_Zof (hts (Cond.laysStatic "java/lang/String" "COMPACT_STRINGS" "Z") (by decide +kernel)) (hts (Cond.initialized "java/lang/String") (by decide +kernel)) (va_eqt hcs) hA
  · exact ⟨fv, hfv, va_Zof (hts (Cond.laysStatic "jdk/internal/util/Preconditions" "SIOOBE_FORMATTER" "Ljava/util/function/BiFunction;") (by decide +kernel)) (hts (Cond.initialized "jdk/internal/util/Preconditions") (by decide +kernel)) hfa hA⟩
  · exact va_AO.of (hts _ za_coach)
