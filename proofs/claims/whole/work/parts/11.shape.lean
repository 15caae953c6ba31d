/-! THE SHAPE: cells 0 .. 90 stand from the constructors on; coach i is the cells 91 + 3 i, and two behind it -/
def zkt : List (Nat × Nat) := [(9 + 4, 0), (2 + 4, 0), (0, 7), (0, 7), (0, 7), (0, 7), (0, 8), (7 + 4, 0), (0, 20), (0, 20), (0, 20), (3, 8), (8 + 4, 0), (1, 800), (5 + 4, 0), (6 + 4, 0), (0, 801), (0, 801), (1 + 4, 0), (0, 10), (0, 10), (0, 400), (0, 100), (1 + 4, 0), (0, 10), (0, 10), (0, 400), (0, 100), (0, 10), (4 + 4, 0), (0, 24), (0, 24), (2, 24), (2, 24), (2, 24), (3 + 4, 0), (0, 100), (0, 100), (0, 100), (0, 100), (0, 100), (10 + 4, 0), (0, 8), (0, 8), (0, 8), (0, 8), (0, 8), (0, 20), (0, 20), (0, 20), (0, 8), (0, 8), (0, 8), (0, 8), (0, 8), (0, 8), (0, 8), (0, 8), (0, 8), (0, 8), (0, 8), (0, 8), (0, 40), (0, 40), (0, 500), (0, 500), (0, 11), (0, 10), (0, 500), (0, 500), (0, 11), (0, 10), (0, 800), (0, 400), (0, 400), (0, 10), (0, 24), (0, 24), (0, 24), (0, 24), (0, 24), (0, 24), (0, 24), (0, 24), (0, 100), (0, 100), (0, 100), (0, 100), (0, 100), (2, 100), (0, 4)]
def skd : zD := fun k => if k < 91 then zkt.getD k (0, 0) else if (k - 91) % 3 = 0 then (0 + 4, 0) else (0, 5)
def zrt : List (List (Option Nat)) := [[some 1, some 7, some 11, none, some 12, some 14, some 23, some 28, some 29, some 35, none], [none, some 2, some 3, some 4, some 5, some 6], [], [], [], [], [], [none, some 8, some 9, some 10], [], [], [], [], [some 13, none], [], [some 15, some 18, none, none, none, none, none], [some 13, none, none, none, some 16, some 17], [], [], [none, some 19, some 20, none, some 21, some 22], [], [], [], [], [none, some 24, some 25, none, some 26, some 27], [], [], [], [], [], [none, some 30, some 31, some 32, some 33, some 34], [], [], [], [], [], [none, some 36, some 37, some 38, some 39, some 40], [], [], [], [], [], [none, none, some 42, some 43, some 44, some 45, some 46, none, some 47, some 48, some 49, none, some 50, some 51, some 52, some 53, some 54, some 55, some 56, some 57, some 58, some 59, some 60, some 61, some 62, some 63, some 64, some 65, some 66, some 67, none, some 68, some 69, some 70, some 71, none, none, none, some 72, none, none, none, none, none, none, none, none, none, some 73, none, none, some 74, some 75, none, some 76, some 77, some 78, some 79, some 80, some 81, some 82, some 83, none, some 84, some 85, some 86, some 87, some 88, some 89, some 90], [], [], [], [], [], [], [], [], [], [], [], [], [], [], [], [], [], [], [], [], [], [], [], [], [], [], [], [], [], [], [], [], [], [], [], [], [], [], [], [], [], [], [], [], [], [], [], [], []]
def srf (n : Nat) : zF := fun c j => if c = 11 then (if j < n then some (91 + 3 * j) else none) else if c < 91 then (zrt.getD c []).getD j none else if (c - 91) % 3 = 0 ∧ c < 91 + 3 * n then (if j = 13 then some (c + 1) else if j = 14 then some (c + 2) else none) else none
theorem zk_0 : skd 0 = (9 + 4, 0) := rfl
theorem zk_1 : skd 1 = (2 + 4, 0) := rfl
theorem zk_2 : skd 2 = (0, 7) := rfl
theorem zk_3 : skd 3 = (0, 7) := rfl
theorem zk_4 : skd 4 = (0, 7) := rfl
theorem zk_5 : skd 5 = (0, 7) := rfl
theorem zk_6 : skd 6 = (0, 8) := rfl
theorem zk_7 : skd 7 = (7 + 4, 0) := rfl
theorem zk_8 : skd 8 = (0, 20) := rfl
theorem zk_9 : skd 9 = (0, 20) := rfl
theorem zk_10 : skd 10 = (0, 20) := rfl
theorem zk_11 : skd 11 = (3, 8) := rfl
theorem zk_12 : skd 12 = (8 + 4, 0) := rfl
theorem zk_13 : skd 13 = (1, 800) := rfl
theorem zk_14 : skd 14 = (5 + 4, 0) := rfl
theorem zk_15 : skd 15 = (6 + 4, 0) := rfl
theorem zk_16 : skd 16 = (0, 801) := rfl
theorem zk_17 : skd 17 = (0, 801) := rfl
theorem zk_18 : skd 18 = (1 + 4, 0) := rfl
theorem zk_19 : skd 19 = (0, 10) := rfl
theorem zk_20 : skd 20 = (0, 10) := rfl
theorem zk_21 : skd 21 = (0, 400) := rfl
theorem zk_22 : skd 22 = (0, 100) := rfl
theorem zk_23 : skd 23 = (1 + 4, 0) := rfl
theorem zk_24 : skd 24 = (0, 10) := rfl
theorem zk_25 : skd 25 = (0, 10) := rfl
theorem zk_26 : skd 26 = (0, 400) := rfl
theorem zk_27 : skd 27 = (0, 100) := rfl
theorem zk_28 : skd 28 = (0, 10) := rfl
theorem zk_29 : skd 29 = (4 + 4, 0) := rfl
theorem zk_30 : skd 30 = (0, 24) := rfl
theorem zk_31 : skd 31 = (0, 24) := rfl
theorem zk_32 : skd 32 = (2, 24) := rfl
theorem zk_33 : skd 33 = (2, 24) := rfl
theorem zk_34 : skd 34 = (2, 24) := rfl
theorem zk_35 : skd 35 = (3 + 4, 0) := rfl
theorem zk_36 : skd 36 = (0, 100) := rfl
theorem zk_37 : skd 37 = (0, 100) := rfl
theorem zk_38 : skd 38 = (0, 100) := rfl
theorem zk_39 : skd 39 = (0, 100) := rfl
theorem zk_40 : skd 40 = (0, 100) := rfl
theorem zk_41 : skd 41 = (10 + 4, 0) := rfl
theorem zk_42 : skd 42 = (0, 8) := rfl
theorem zk_43 : skd 43 = (0, 8) := rfl
theorem zk_44 : skd 44 = (0, 8) := rfl
theorem zk_45 : skd 45 = (0, 8) := rfl
theorem zk_46 : skd 46 = (0, 8) := rfl
theorem zk_47 : skd 47 = (0, 20) := rfl
theorem zk_48 : skd 48 = (0, 20) := rfl
theorem zk_49 : skd 49 = (0, 20) := rfl
theorem zk_50 : skd 50 = (0, 8) := rfl
theorem zk_51 : skd 51 = (0, 8) := rfl
theorem zk_52 : skd 52 = (0, 8) := rfl
theorem zk_53 : skd 53 = (0, 8) := rfl
theorem zk_54 : skd 54 = (0, 8) := rfl
theorem zk_55 : skd 55 = (0, 8) := rfl
theorem zk_56 : skd 56 = (0, 8) := rfl
theorem zk_57 : skd 57 = (0, 8) := rfl
theorem zk_58 : skd 58 = (0, 8) := rfl
theorem zk_59 : skd 59 = (0, 8) := rfl
theorem zk_60 : skd 60 = (0, 8) := rfl
theorem zk_61 : skd 61 = (0, 8) := rfl
theorem zk_62 : skd 62 = (0, 40) := rfl
theorem zk_63 : skd 63 = (0, 40) := rfl
theorem zk_64 : skd 64 = (0, 500) := rfl
theorem zk_65 : skd 65 = (0, 500) := rfl
theorem zk_66 : skd 66 = (0, 11) := rfl
theorem zk_67 : skd 67 = (0, 10) := rfl
theorem zk_68 : skd 68 = (0, 500) := rfl
theorem zk_69 : skd 69 = (0, 500) := rfl
theorem zk_70 : skd 70 = (0, 11) := rfl
theorem zk_71 : skd 71 = (0, 10) := rfl
theorem zk_72 : skd 72 = (0, 800) := rfl
theorem zk_73 : skd 73 = (0, 400) := rfl
theorem zk_74 : skd 74 = (0, 400) := rfl
theorem zk_75 : skd 75 = (0, 10) := rfl
theorem zk_76 : skd 76 = (0, 24) := rfl
theorem zk_77 : skd 77 = (0, 24) := rfl
theorem zk_78 : skd 78 = (0, 24) := rfl
theorem zk_79 : skd 79 = (0, 24) := rfl
theorem zk_80 : skd 80 = (0, 24) := rfl
theorem zk_81 : skd 81 = (0, 24) := rfl
theorem zk_82 : skd 82 = (0, 24) := rfl
theorem zk_83 : skd 83 = (0, 24) := rfl
theorem zk_84 : skd 84 = (0, 100) := rfl
theorem zk_85 : skd 85 = (0, 100) := rfl
theorem zk_86 : skd 86 = (0, 100) := rfl
theorem zk_87 : skd 87 = (0, 100) := rfl
theorem zk_88 : skd 88 = (0, 100) := rfl
theorem zk_89 : skd 89 = (2, 100) := rfl
theorem zk_90 : skd 90 = (0, 4) := rfl
theorem zr_0_0 (n : Nat) : srf n 0 0 = some 1 := rfl
theorem zr_0_1 (n : Nat) : srf n 0 1 = some 7 := rfl
theorem zr_0_2 (n : Nat) : srf n 0 2 = some 11 := rfl
theorem zr_0_4 (n : Nat) : srf n 0 4 = some 12 := rfl
theorem zr_0_5 (n : Nat) : srf n 0 5 = some 14 := rfl
theorem zr_0_6 (n : Nat) : srf n 0 6 = some 23 := rfl
theorem zr_0_7 (n : Nat) : srf n 0 7 = some 28 := rfl
theorem zr_0_8 (n : Nat) : srf n 0 8 = some 29 := rfl
theorem zr_0_9 (n : Nat) : srf n 0 9 = some 35 := rfl
theorem zr_1_1 (n : Nat) : srf n 1 1 = some 2 := rfl
theorem zr_1_2 (n : Nat) : srf n 1 2 = some 3 := rfl
theorem zr_1_3 (n : Nat) : srf n 1 3 = some 4 := rfl
theorem zr_1_4 (n : Nat) : srf n 1 4 = some 5 := rfl
theorem zr_1_5 (n : Nat) : srf n 1 5 = some 6 := rfl
theorem zr_7_1 (n : Nat) : srf n 7 1 = some 8 := rfl
theorem zr_7_2 (n : Nat) : srf n 7 2 = some 9 := rfl
theorem zr_7_3 (n : Nat) : srf n 7 3 = some 10 := rfl
theorem zr_12_0 (n : Nat) : srf n 12 0 = some 13 := rfl
theorem zr_14_0 (n : Nat) : srf n 14 0 = some 15 := rfl
theorem zr_14_1 (n : Nat) : srf n 14 1 = some 18 := rfl
theorem zr_15_0 (n : Nat) : srf n 15 0 = some 13 := rfl
theorem zr_15_4 (n : Nat) : srf n 15 4 = some 16 := rfl
theorem zr_15_5 (n : Nat) : srf n 15 5 = some 17 := rfl
theorem zr_18_1 (n : Nat) : srf n 18 1 = some 19 := rfl
theorem zr_18_2 (n : Nat) : srf n 18 2 = some 20 := rfl
theorem zr_18_4 (n : Nat) : srf n 18 4 = some 21 := rfl
theorem zr_18_5 (n : Nat) : srf n 18 5 = some 22 := rfl
theorem zr_23_1 (n : Nat) : srf n 23 1 = some 24 := rfl
theorem zr_23_2 (n : Nat) : srf n 23 2 = some 25 := rfl
theorem zr_23_4 (n : Nat) : srf n 23 4 = some 26 := rfl
theorem zr_23_5 (n : Nat) : srf n 23 5 = some 27 := rfl
theorem zr_29_1 (n : Nat) : srf n 29 1 = some 30 := rfl
theorem zr_29_2 (n : Nat) : srf n 29 2 = some 31 := rfl
theorem zr_29_3 (n : Nat) : srf n 29 3 = some 32 := rfl
theorem zr_29_4 (n : Nat) : srf n 29 4 = some 33 := rfl
theorem zr_29_5 (n : Nat) : srf n 29 5 = some 34 := rfl
theorem zr_35_1 (n : Nat) : srf n 35 1 = some 36 := rfl
theorem zr_35_2 (n : Nat) : srf n 35 2 = some 37 := rfl
theorem zr_35_3 (n : Nat) : srf n 35 3 = some 38 := rfl
theorem zr_35_4 (n : Nat) : srf n 35 4 = some 39 := rfl
theorem zr_35_5 (n : Nat) : srf n 35 5 = some 40 := rfl
theorem zr_41_2 (n : Nat) : srf n 41 2 = some 42 := rfl
theorem zr_41_3 (n : Nat) : srf n 41 3 = some 43 := rfl
theorem zr_41_4 (n : Nat) : srf n 41 4 = some 44 := rfl
theorem zr_41_5 (n : Nat) : srf n 41 5 = some 45 := rfl
theorem zr_41_6 (n : Nat) : srf n 41 6 = some 46 := rfl
theorem zr_41_8 (n : Nat) : srf n 41 8 = some 47 := rfl
theorem zr_41_9 (n : Nat) : srf n 41 9 = some 48 := rfl
theorem zr_41_10 (n : Nat) : srf n 41 10 = some 49 := rfl
theorem zr_41_12 (n : Nat) : srf n 41 12 = some 50 := rfl
theorem zr_41_13 (n : Nat) : srf n 41 13 = some 51 := rfl
theorem zr_41_14 (n : Nat) : srf n 41 14 = some 52 := rfl
theorem zr_41_15 (n : Nat) : srf n 41 15 = some 53 := rfl
theorem zr_41_16 (n : Nat) : srf n 41 16 = some 54 := rfl
theorem zr_41_17 (n : Nat) : srf n 41 17 = some 55 := rfl
theorem zr_41_18 (n : Nat) : srf n 41 18 = some 56 := rfl
theorem zr_41_19 (n : Nat) : srf n 41 19 = some 57 := rfl
theorem zr_41_20 (n : Nat) : srf n 41 20 = some 58 := rfl
theorem zr_41_21 (n : Nat) : srf n 41 21 = some 59 := rfl
theorem zr_41_22 (n : Nat) : srf n 41 22 = some 60 := rfl
theorem zr_41_23 (n : Nat) : srf n 41 23 = some 61 := rfl
theorem zr_41_24 (n : Nat) : srf n 41 24 = some 62 := rfl
theorem zr_41_25 (n : Nat) : srf n 41 25 = some 63 := rfl
theorem zr_41_26 (n : Nat) : srf n 41 26 = some 64 := rfl
theorem zr_41_27 (n : Nat) : srf n 41 27 = some 65 := rfl
theorem zr_41_28 (n : Nat) : srf n 41 28 = some 66 := rfl
theorem zr_41_29 (n : Nat) : srf n 41 29 = some 67 := rfl
theorem zr_41_31 (n : Nat) : srf n 41 31 = some 68 := rfl
theorem zr_41_32 (n : Nat) : srf n 41 32 = some 69 := rfl
theorem zr_41_33 (n : Nat) : srf n 41 33 = some 70 := rfl
theorem zr_41_34 (n : Nat) : srf n 41 34 = some 71 := rfl
theorem zr_41_38 (n : Nat) : srf n 41 38 = some 72 := rfl
theorem zr_41_48 (n : Nat) : srf n 41 48 = some 73 := rfl
theorem zr_41_51 (n : Nat) : srf n 41 51 = some 74 := rfl
theorem zr_41_52 (n : Nat) : srf n 41 52 = some 75 := rfl
theorem zr_41_54 (n : Nat) : srf n 41 54 = some 76 := rfl
theorem zr_41_55 (n : Nat) : srf n 41 55 = some 77 := rfl
theorem zr_41_56 (n : Nat) : srf n 41 56 = some 78 := rfl
theorem zr_41_57 (n : Nat) : srf n 41 57 = some 79 := rfl
theorem zr_41_58 (n : Nat) : srf n 41 58 = some 80 := rfl
theorem zr_41_59 (n : Nat) : srf n 41 59 = some 81 := rfl
theorem zr_41_60 (n : Nat) : srf n 41 60 = some 82 := rfl
theorem zr_41_61 (n : Nat) : srf n 41 61 = some 83 := rfl
theorem zr_41_63 (n : Nat) : srf n 41 63 = some 84 := rfl
theorem zr_41_64 (n : Nat) : srf n 41 64 = some 85 := rfl
theorem zr_41_65 (n : Nat) : srf n 41 65 = some 86 := rfl
theorem zr_41_66 (n : Nat) : srf n 41 66 = some 87 := rfl
theorem zr_41_67 (n : Nat) : srf n 41 67 = some 88 := rfl
theorem zr_41_68 (n : Nat) : srf n 41 68 = some 89 := rfl
theorem zr_41_69 (n : Nat) : srf n 41 69 = some 90 := rfl
theorem zkc (i : Nat) : skd (91 + 3 * i) = (0 + 4, 0) := by
  unfold skd
  rw [if_neg (by omega), if_pos (by omega)]
theorem zkc1 (i : Nat) : skd (91 + 3 * i + 1) = (0, 5) := by
  unfold skd
  rw [if_neg (by omega), if_neg (by omega)]
theorem zkc2 (i : Nat) : skd (91 + 3 * i + 2) = (0, 5) := by
  unfold skd
  rw [if_neg (by omega), if_neg (by omega)]
theorem zrc13 {n i : Nat} (h : i < n) : srf n (91 + 3 * i) 13 = some (91 + 3 * i + 1) := by
  unfold srf
  rw [if_neg (by omega), if_neg (by omega), if_pos (by omega), if_pos rfl]
theorem zrc14 {n i : Nat} (h : i < n) : srf n (91 + 3 * i) 14 = some (91 + 3 * i + 2) := by
  unfold srf
  rw [if_neg (by omega), if_neg (by omega), if_pos (by omega), if_neg (by decide), if_pos rfl]
theorem zrfl {n i : Nat} (h : i < n) : srf n 11 i = some (91 + 3 * i) := by
  unfold srf
  rw [if_pos rfl, if_pos h]
theorem zrtA : (zrt.all (fun l => l.all (fun q => match q with
  | none => true
  | some r => decide (r < 91)))) = true := by decide +kernel
theorem srf_ok (n : Nat) : zok (91 + 3 * n) (srf n) := by
  intro k j r h
  unfold srf at h
  split at h
  · split at h
    · cases h; omega
    · cases h
  · split at h
    · rw [List.getD_eq_getElem?_getD, List.getD_eq_getElem?_getD] at h
      cases h1 : zrt[k]? with
      | none => rw [h1] at h; simp at h
      | some l =>
        rw [h1] at h
        simp only [Option.getD_some] at h
        cases h2 : l[j]? with
        | none => rw [h2] at h; simp at h
        | some q =>
          rw [h2] at h
          simp only [Option.getD_some] at h
          subst h
          have h3 := List.all_eq_true.mp (List.all_eq_true.mp zrtA l (List.mem_of_getElem? h1)) _ (List.mem_of_getElem? h2)
          simp only [decide_eq_true_eq] at h3
          omega
    · split at h
      · next h5 =>
        split at h
        · cases h; omega
        · split at h
          · cases h; omega
          · cases h
      · cases h
/-- a truth as an int -/
def zb (P : Prop) [Decidable P] : Int32 := if P then 1 else 0
theorem zb_t {P : Prop} [Decidable P] (h : P) : zb P = 1 := if_pos h
theorem zb_f {P : Prop} [Decidable P] (h : ¬ P) : zb P = 0 := if_neg h
theorem zb_nar (P : Prop) [Decidable P] : narrow .boolean (.int (zb P)) = .int (zb P) := by
  unfold zb
  split <;> rfl
theorem zb_c {P Q : Prop} [Decidable P] [Decidable Q] (h : P ↔ Q) : zb P = zb Q := by
  unfold zb
  by_cases hp : P
  · rw [if_pos hp, if_pos (h.mp hp)]
  · rw [if_neg hp, if_neg (fun q => hp (h.mpr q))]
theorem zb_0 {P : Prop} [Decidable P] (h : zb P = 0) : ¬ P := fun hp => by rw [zb_t hp] at h; exact absurd h (by decide)
theorem zb_1 {P : Prop} [Decidable P] (h : ¬ zb P = 0) : P := Decidable.byContradiction (fun hp => h (zb_f hp))
/-! contracts in the shape of n coaches -/
abbrev zJs (X : zX) (n nL pc : Nat) (lv : zLs) (st : List Value) (iv : zI) (lw : zG) : Prop := zJ X (91 + 3 * n) nL pc lv st (91 + 3 * n) skd iv (srf n) lw 0 0
def zQ (n : Nat) (Q : Option Value → zI → zG → Prop) : zP := fun v N kd iv rf lw => N = 91 + 3 * n ∧ kd = skd ∧ rf = srf n ∧ Q v iv lw
abbrev zMs (y : MethodName) (cc : ByteArray) (nL : Nat) (ret : Option FieldType) (lvl : Nat) (as : List Value) (n : Nat) (iv : zI) (lw : zG) (Q : Option Value → zI → zG → Prop) : Prop := zM y cc nL ret lvl 0 0 as (91 + 3 * n) skd iv (srf n) lw (zQ n Q)
def zQi (r : Int32) (iv' : zI) (lw' : zG) : Option Value → zI → zG → Prop := fun v iv lw => v = some (.int r) ∧ iv = iv' ∧ lw = lw'
def zQv (iv' : zI) (lw' : zG) : Option Value → zI → zG → Prop := fun v iv lw => v = none ∧ iv = iv' ∧ lw = lw'
def zQr (o : Option Nat) (iv' : zI) (lw' : zG) : Option Value → zI → zG → Prop := fun v iv lw => v = some (va_rf o) ∧ iv = iv' ∧ lw = lw'
abbrev zMi (y : MethodName) (cc : ByteArray) (nL : Nat) (ret : Option FieldType) (lvl : Nat) (as : List Value) (n : Nat) (iv : zI) (lw : zG) (r : Int32) (iv' : zI) (lw' : zG) : Prop := zMs y cc nL ret lvl as n iv lw (zQi r iv' lw')
abbrev zMv (y : MethodName) (cc : ByteArray) (nL : Nat) (ret : Option FieldType) (lvl : Nat) (as : List Value) (n : Nat) (iv : zI) (lw : zG) (iv' : zI) (lw' : zG) : Prop := zMs y cc nL ret lvl as n iv lw (zQv iv' lw')
abbrev zMr (y : MethodName) (cc : ByteArray) (nL : Nat) (ret : Option FieldType) (lvl : Nat) (as : List Value) (n : Nat) (iv : zI) (lw : zG) (o : Option Nat) (iv' : zI) (lw' : zG) : Prop := zMs y cc nL ret lvl as n iv lw (zQr o iv' lw')
section ZS
variable {X : zX} {cc : ByteArray} {n N0 nL pc pc' : Nat} {own : String} {ret : Option FieldType} {nm : String} {lvl MC MS : Nat} {lv lv' : zLs} {st : List Value} {iv : zI} {lw : zG} {cells slots : Nat} {N : Nat} {kd : zD} {rf : zF}
theorem zs_iret {r : Int32} {iv' : zI} {lw' : zG} {v : Int32} {ty : FieldType} (C : zC X cc nL own (some ty) nm lvl 0 0) (E : zEnd X (91 + 3 * n) 0 0 (zQ n (zQi r iv' lw'))) (hd : zd cc pc .ireturn 1 pc') (hn : narrow ty (.int v) = .int v) (h : v = r) (hi : iv = iv') (hw : lw = lw') : zJs X n nL pc lv [.int v] iv lw :=
  z_iret C E hd hn (Nat.le_refl _) (Nat.le_refl _) ⟨rfl, rfl, rfl, by rw [h], hi, hw⟩
theorem zs_vret {iv' : zI} {lw' : zG} (C : zC X cc nL own none nm lvl 0 0) (E : zEnd X (91 + 3 * n) 0 0 (zQ n (zQv iv' lw'))) (hd : zd cc pc .return_ 1 pc') (hi : iv = iv') (hw : lw = lw') : zJs X n nL pc lv [] iv lw :=
  z_vret C E hd (Nat.le_refl _) (Nat.le_refl _) ⟨rfl, rfl, rfl, rfl, hi, hw⟩
theorem zs_qiret {Q : Option Value → zI → zG → Prop} {v : Int32} {ty : FieldType} (C : zC X cc nL own (some ty) nm lvl 0 0) (E : zEnd X (91 + 3 * n) 0 0 (zQ n Q)) (hd : zd cc pc .ireturn 1 pc') (hn : narrow ty (.int v) = .int v) (h : Q (some (.int v)) iv lw) : zJs X n nL pc lv [.int v] iv lw :=
  z_iret C E hd hn (Nat.le_refl _) (Nat.le_refl _) ⟨rfl, rfl, rfl, h⟩
theorem zs_qvret {Q : Option Value → zI → zG → Prop} (C : zC X cc nL own none nm lvl 0 0) (E : zEnd X (91 + 3 * n) 0 0 (zQ n Q)) (hd : zd cc pc .return_ 1 pc') (h : Q none iv lw) : zJs X n nL pc lv [] iv lw :=
  z_vret C E hd (Nat.le_refl _) (Nat.le_refl _) ⟨rfl, rfl, rfl, h⟩
theorem zs_aret {o o' : Option Nat} {iv' : zI} {lw' : zG} {cn : String} (C : zC X cc nL own (some (.object cn)) nm lvl 0 0) (E : zEnd X (91 + 3 * n) 0 0 (zQ n (zQr o' iv' lw'))) (hd : zd cc pc .areturn 1 pc') (h : o = o') (hi : iv = iv') (hw : lw = lw') : zJs X n nL pc lv [va_rf o] iv lw :=
  z_aret C E hd (Nat.le_refl _) (Nat.le_refl _) ⟨rfl, rfl, rfl, by rw [h], hi, hw⟩

theorem zs_callVi {y : MethodName} {cb : ByteArray} {nb : Nat} {rb : Option FieldType} {na index b ci : Nat} {lb : Nat} {As : List Value} {st0 : List Value} {C0 : String} {T0 : u_T} {n0 : Nat} {r : Int32} {iv1 : zI} {lw1 : zG} (C : zC X cc nL own ret nm lvl MC MS) (hd : zd cc pc (.invokevirtual index) 3 pc') (hm : Cond.methodLink own index y ∈ zw) (hY : zYv y cb nb rb na) (hM : zMs y cb nb rb lb (.ref b :: As) n iv lw (zQi r iv1 lw1)) (hci : zCl ci C0 T0 n0) (hcy : y.cls = C0) (hk : skd b = (ci + 4, 0)) (hbb : b < 1000) (hlb : lb + 1 ≤ lvl) (hst : st0 = As.reverse ++ .ref b :: st) (hn : As.length = na) (hrm : (st.map fun v => v.category).sum ≤ 8) (hc : cells ≤ MC) (hs : slots ≤ MS) (k : zJ X N0 nL pc' lv (.int r :: st) (91 + 3 * n) skd iv1 (srf n) lw1 cells slots) : zJ X N0 nL pc lv st0 (91 + 3 * n) skd iv (srf n) lw cells slots := by
  refine z_callV C hd hm hY hM hci hcy hk hbb hlb hst hn hrm (by omega) (by omega) (fun v N' kd' iv' rf' lw' hq => ?_)
  obtain ⟨rfl, rfl, rfl, rfl, rfl, rfl⟩ := hq
  exact k
theorem zs_callVv {y : MethodName} {cb : ByteArray} {nb : Nat} {rb : Option FieldType} {na index b ci : Nat} {lb : Nat} {As : List Value} {st0 : List Value} {C0 : String} {T0 : u_T} {n0 : Nat} {iv1 : zI} {lw1 : zG} (C : zC X cc nL own ret nm lvl MC MS) (hd : zd cc pc (.invokevirtual index) 3 pc') (hm : Cond.methodLink own index y ∈ zw) (hY : zYv y cb nb rb na) (hM : zMs y cb nb rb lb (.ref b :: As) n iv lw (zQv iv1 lw1)) (hci : zCl ci C0 T0 n0) (hcy : y.cls = C0) (hk : skd b = (ci + 4, 0)) (hbb : b < 1000) (hlb : lb + 1 ≤ lvl) (hst : st0 = As.reverse ++ .ref b :: st) (hn : As.length = na) (hrm : (st.map fun v => v.category).sum ≤ 8) (hc : cells ≤ MC) (hs : slots ≤ MS) (k : zJ X N0 nL pc' lv st (91 + 3 * n) skd iv1 (srf n) lw1 cells slots) : zJ X N0 nL pc lv st0 (91 + 3 * n) skd iv (srf n) lw cells slots := by
  refine z_callV C hd hm hY hM hci hcy hk hbb hlb hst hn hrm (by omega) (by omega) (fun v N' kd' iv' rf' lw' hq => ?_)
  obtain ⟨rfl, rfl, rfl, rfl, rfl, rfl⟩ := hq
  exact k
theorem zs_callVr {y : MethodName} {cb : ByteArray} {nb : Nat} {rb : Option FieldType} {na index b ci : Nat} {lb : Nat} {As : List Value} {st0 : List Value} {C0 : String} {T0 : u_T} {n0 : Nat} {o : Option Nat} {iv1 : zI} {lw1 : zG} (C : zC X cc nL own ret nm lvl MC MS) (hd : zd cc pc (.invokevirtual index) 3 pc') (hm : Cond.methodLink own index y ∈ zw) (hY : zYv y cb nb rb na) (hM : zMs y cb nb rb lb (.ref b :: As) n iv lw (zQr o iv1 lw1)) (hci : zCl ci C0 T0 n0) (hcy : y.cls = C0) (hk : skd b = (ci + 4, 0)) (hbb : b < 1000) (hlb : lb + 1 ≤ lvl) (hst : st0 = As.reverse ++ .ref b :: st) (hn : As.length = na) (hrm : (st.map fun v => v.category).sum ≤ 8) (hc : cells ≤ MC) (hs : slots ≤ MS) (k : zJ X N0 nL pc' lv (va_rf o :: st) (91 + 3 * n) skd iv1 (srf n) lw1 cells slots) : zJ X N0 nL pc lv st0 (91 + 3 * n) skd iv (srf n) lw cells slots := by
  refine z_callV C hd hm hY hM hci hcy hk hbb hlb hst hn hrm (by omega) (by omega) (fun v N' kd' iv' rf' lw' hq => ?_)
  obtain ⟨rfl, rfl, rfl, rfl, rfl, rfl⟩ := hq
  exact k
theorem zs_callVq {y : MethodName} {cb : ByteArray} {nb : Nat} {rb : Option FieldType} {na index b ci : Nat} {lb : Nat} {As : List Value} {st0 : List Value} {C0 : String} {T0 : u_T} {n0 : Nat} {Q : Option Value → zI → zG → Prop} (C : zC X cc nL own ret nm lvl MC MS) (hd : zd cc pc (.invokevirtual index) 3 pc') (hm : Cond.methodLink own index y ∈ zw) (hY : zYv y cb nb rb na) (hM : zMs y cb nb rb lb (.ref b :: As) n iv lw (Q)) (hci : zCl ci C0 T0 n0) (hcy : y.cls = C0) (hk : skd b = (ci + 4, 0)) (hbb : b < 1000) (hlb : lb + 1 ≤ lvl) (hst : st0 = As.reverse ++ .ref b :: st) (hn : As.length = na) (hrm : (st.map fun v => v.category).sum ≤ 8) (hc : cells ≤ MC) (hs : slots ≤ MS) (k : ∀ (v : Option Value) (iv1 : zI) (lw1 : zG), Q v iv1 lw1 → zJ X N0 nL pc' lv (v.toList ++ st) (91 + 3 * n) skd iv1 (srf n) lw1 cells slots) : zJ X N0 nL pc lv st0 (91 + 3 * n) skd iv (srf n) lw cells slots := by
  refine z_callV C hd hm hY hM hci hcy hk hbb hlb hst hn hrm (by omega) (by omega) (fun v N' kd' iv' rf' lw' hq => ?_)
  obtain ⟨rfl, rfl, rfl, hq⟩ := hq
  exact k v iv' lw' hq
theorem zs_callSi {y : MethodName} {cb : ByteArray} {nb : Nat} {rb : Option FieldType} {na index : Nat} {lb : Nat} {As : List Value} {st0 : List Value} {r : Int32} {iv1 : zI} {lw1 : zG} (C : zC X cc nL own ret nm lvl MC MS) (hd : zd cc pc (.invokestatic index) 3 pc') (hm : Cond.methodLink own index y ∈ zw) (hY : zYs y cb nb rb na) (hM : zMs y cb nb rb lb As n iv lw (zQi r iv1 lw1)) (hlb : lb + 1 ≤ lvl) (hst : st0 = As.reverse ++ st) (hn : As.length = na) (hrm : (st.map fun v => v.category).sum ≤ 8) (hc : cells ≤ MC) (hs : slots ≤ MS) (k : zJ X N0 nL pc' lv (.int r :: st) (91 + 3 * n) skd iv1 (srf n) lw1 cells slots) : zJ X N0 nL pc lv st0 (91 + 3 * n) skd iv (srf n) lw cells slots := by
  refine z_callS C hd hm hY hM hlb hst hn hrm (by omega) (by omega) (fun v N' kd' iv' rf' lw' hq => ?_)
  obtain ⟨rfl, rfl, rfl, rfl, rfl, rfl⟩ := hq
  exact k
theorem zs_callSv {y : MethodName} {cb : ByteArray} {nb : Nat} {rb : Option FieldType} {na index : Nat} {lb : Nat} {As : List Value} {st0 : List Value} {iv1 : zI} {lw1 : zG} (C : zC X cc nL own ret nm lvl MC MS) (hd : zd cc pc (.invokestatic index) 3 pc') (hm : Cond.methodLink own index y ∈ zw) (hY : zYs y cb nb rb na) (hM : zMs y cb nb rb lb As n iv lw (zQv iv1 lw1)) (hlb : lb + 1 ≤ lvl) (hst : st0 = As.reverse ++ st) (hn : As.length = na) (hrm : (st.map fun v => v.category).sum ≤ 8) (hc : cells ≤ MC) (hs : slots ≤ MS) (k : zJ X N0 nL pc' lv st (91 + 3 * n) skd iv1 (srf n) lw1 cells slots) : zJ X N0 nL pc lv st0 (91 + 3 * n) skd iv (srf n) lw cells slots := by
  refine z_callS C hd hm hY hM hlb hst hn hrm (by omega) (by omega) (fun v N' kd' iv' rf' lw' hq => ?_)
  obtain ⟨rfl, rfl, rfl, rfl, rfl, rfl⟩ := hq
  exact k
theorem zs_callSr {y : MethodName} {cb : ByteArray} {nb : Nat} {rb : Option FieldType} {na index : Nat} {lb : Nat} {As : List Value} {st0 : List Value} {o : Option Nat} {iv1 : zI} {lw1 : zG} (C : zC X cc nL own ret nm lvl MC MS) (hd : zd cc pc (.invokestatic index) 3 pc') (hm : Cond.methodLink own index y ∈ zw) (hY : zYs y cb nb rb na) (hM : zMs y cb nb rb lb As n iv lw (zQr o iv1 lw1)) (hlb : lb + 1 ≤ lvl) (hst : st0 = As.reverse ++ st) (hn : As.length = na) (hrm : (st.map fun v => v.category).sum ≤ 8) (hc : cells ≤ MC) (hs : slots ≤ MS) (k : zJ X N0 nL pc' lv (va_rf o :: st) (91 + 3 * n) skd iv1 (srf n) lw1 cells slots) : zJ X N0 nL pc lv st0 (91 + 3 * n) skd iv (srf n) lw cells slots := by
  refine z_callS C hd hm hY hM hlb hst hn hrm (by omega) (by omega) (fun v N' kd' iv' rf' lw' hq => ?_)
  obtain ⟨rfl, rfl, rfl, rfl, rfl, rfl⟩ := hq
  exact k
theorem zs_callSq {y : MethodName} {cb : ByteArray} {nb : Nat} {rb : Option FieldType} {na index : Nat} {lb : Nat} {As : List Value} {st0 : List Value} {Q : Option Value → zI → zG → Prop} (C : zC X cc nL own ret nm lvl MC MS) (hd : zd cc pc (.invokestatic index) 3 pc') (hm : Cond.methodLink own index y ∈ zw) (hY : zYs y cb nb rb na) (hM : zMs y cb nb rb lb As n iv lw (Q)) (hlb : lb + 1 ≤ lvl) (hst : st0 = As.reverse ++ st) (hn : As.length = na) (hrm : (st.map fun v => v.category).sum ≤ 8) (hc : cells ≤ MC) (hs : slots ≤ MS) (k : ∀ (v : Option Value) (iv1 : zI) (lw1 : zG), Q v iv1 lw1 → zJ X N0 nL pc' lv (v.toList ++ st) (91 + 3 * n) skd iv1 (srf n) lw1 cells slots) : zJ X N0 nL pc lv st0 (91 + 3 * n) skd iv (srf n) lw cells slots := by
  refine z_callS C hd hm hY hM hlb hst hn hrm (by omega) (by omega) (fun v N' kd' iv' rf' lw' hq => ?_)
  obtain ⟨rfl, rfl, rfl, hq⟩ := hq
  exact k v iv' lw' hq
theorem zs_callVR {y : MethodName} {cb : ByteArray} {nb : Nat} {rb : Option FieldType} {na index b ci : Nat} {lb : Nat} {As : List Value} {st0 : List Value} {C0 : String} {T0 : u_T} {n0 : Nat} {r : Nat} {iv1 : zI} {lw1 : zG} (C : zC X cc nL own ret nm lvl MC MS) (hd : zd cc pc (.invokevirtual index) 3 pc') (hm : Cond.methodLink own index y ∈ zw) (hY : zYv y cb nb rb na) (hM : zMs y cb nb rb lb (.ref b :: As) n iv lw (zQr (some r) iv1 lw1)) (hci : zCl ci C0 T0 n0) (hcy : y.cls = C0) (hk : skd b = (ci + 4, 0)) (hbb : b < 1000) (hlb : lb + 1 ≤ lvl) (hst : st0 = As.reverse ++ .ref b :: st) (hn : As.length = na) (hrm : (st.map fun v => v.category).sum ≤ 8) (hc : cells ≤ MC) (hs : slots ≤ MS) (k : zJ X N0 nL pc' lv (.ref r :: st) (91 + 3 * n) skd iv1 (srf n) lw1 cells slots) : zJ X N0 nL pc lv st0 (91 + 3 * n) skd iv (srf n) lw cells slots := zs_callVr C hd hm hY hM hci hcy hk hbb hlb hst hn hrm hc hs k
theorem zs_callVN {y : MethodName} {cb : ByteArray} {nb : Nat} {rb : Option FieldType} {na index b ci : Nat} {lb : Nat} {As : List Value} {st0 : List Value} {C0 : String} {T0 : u_T} {n0 : Nat} {iv1 : zI} {lw1 : zG} (C : zC X cc nL own ret nm lvl MC MS) (hd : zd cc pc (.invokevirtual index) 3 pc') (hm : Cond.methodLink own index y ∈ zw) (hY : zYv y cb nb rb na) (hM : zMs y cb nb rb lb (.ref b :: As) n iv lw (zQr none iv1 lw1)) (hci : zCl ci C0 T0 n0) (hcy : y.cls = C0) (hk : skd b = (ci + 4, 0)) (hbb : b < 1000) (hlb : lb + 1 ≤ lvl) (hst : st0 = As.reverse ++ .ref b :: st) (hn : As.length = na) (hrm : (st.map fun v => v.category).sum ≤ 8) (hc : cells ≤ MC) (hs : slots ≤ MS) (k : zJ X N0 nL pc' lv (.null :: st) (91 + 3 * n) skd iv1 (srf n) lw1 cells slots) : zJ X N0 nL pc lv st0 (91 + 3 * n) skd iv (srf n) lw cells slots := zs_callVr C hd hm hY hM hci hcy hk hbb hlb hst hn hrm hc hs k
theorem zs_getR {index ci j b r : Nat} {fin : Bool} (C : zC X cc nL own ret nm lvl MC MS) (hd : zd cc pc (.getfield index) 3 pc') (hf : zFl own index ci j 2 fin) (hk : kd b = (ci + 4, 0)) (hbb : b < 1000) (hr : rf b j = some r) (k : zJ X N0 nL pc' lv (.ref r :: st) N kd iv rf lw cells slots) : zJ X N0 nL pc lv (.ref b :: st) N kd iv rf lw cells slots :=
  z_getR C hd hf hk hbb (by rw [hr]; exact k)
theorem zt_if_lt {x : Int32} {a : Int} {off : Int} {tgt : Nat} (C : zC X cc nL own ret nm lvl MC MS) (hd : zd cc pc (.ifCond .lt off) 3 pc') (hx : x.toInt = a) (ht : (pc : Int) + off = (tgt : Int)) (kt : a < 0 → zJ X N0 nL tgt lv st N kd iv rf lw cells slots) (kf : ¬ a < 0 → zJ X N0 nL pc' lv st N kd iv rf lw cells slots) : zJ X N0 nL pc lv (.int x :: st) N kd iv rf lw cells slots :=
  z_if_lt C hd ht (fun q => kt (by rw [Int32.lt_iff_toInt_lt, Int32.toInt_zero, hx] at q; exact q)) (fun q => kf (by rw [Int32.lt_iff_toInt_lt, Int32.toInt_zero, hx] at q; exact q))
theorem zt_if_ge {x : Int32} {a : Int} {off : Int} {tgt : Nat} (C : zC X cc nL own ret nm lvl MC MS) (hd : zd cc pc (.ifCond .ge off) 3 pc') (hx : x.toInt = a) (ht : (pc : Int) + off = (tgt : Int)) (kt : 0 ≤ a → zJ X N0 nL tgt lv st N kd iv rf lw cells slots) (kf : ¬ 0 ≤ a → zJ X N0 nL pc' lv st N kd iv rf lw cells slots) : zJ X N0 nL pc lv (.int x :: st) N kd iv rf lw cells slots :=
  z_if_ge C hd ht (fun q => kt (by rw [Int32.le_iff_toInt_le, Int32.toInt_zero, hx] at q; exact q)) (fun q => kf (by rw [Int32.le_iff_toInt_le, Int32.toInt_zero, hx] at q; exact q))
theorem zt_if_gt {x : Int32} {a : Int} {off : Int} {tgt : Nat} (C : zC X cc nL own ret nm lvl MC MS) (hd : zd cc pc (.ifCond .gt off) 3 pc') (hx : x.toInt = a) (ht : (pc : Int) + off = (tgt : Int)) (kt : 0 < a → zJ X N0 nL tgt lv st N kd iv rf lw cells slots) (kf : ¬ 0 < a → zJ X N0 nL pc' lv st N kd iv rf lw cells slots) : zJ X N0 nL pc lv (.int x :: st) N kd iv rf lw cells slots :=
  z_if_gt C hd ht (fun q => kt (by rw [Int32.lt_iff_toInt_lt, Int32.toInt_zero, hx] at q; exact q)) (fun q => kf (by rw [Int32.lt_iff_toInt_lt, Int32.toInt_zero, hx] at q; exact q))
theorem zt_if_le {x : Int32} {a : Int} {off : Int} {tgt : Nat} (C : zC X cc nL own ret nm lvl MC MS) (hd : zd cc pc (.ifCond .le off) 3 pc') (hx : x.toInt = a) (ht : (pc : Int) + off = (tgt : Int)) (kt : a ≤ 0 → zJ X N0 nL tgt lv st N kd iv rf lw cells slots) (kf : ¬ a ≤ 0 → zJ X N0 nL pc' lv st N kd iv rf lw cells slots) : zJ X N0 nL pc lv (.int x :: st) N kd iv rf lw cells slots :=
  z_if_le C hd ht (fun q => kt (by rw [Int32.le_iff_toInt_le, Int32.toInt_zero, hx] at q; exact q)) (fun q => kf (by rw [Int32.le_iff_toInt_le, Int32.toInt_zero, hx] at q; exact q))
theorem zt_icmp_lt {x y : Int32} {a b : Int} {off : Int} {tgt : Nat} (C : zC X cc nL own ret nm lvl MC MS) (hd : zd cc pc (.if_icmp .lt off) 3 pc') (hx : x.toInt = a) (hy : y.toInt = b) (ht : (pc : Int) + off = (tgt : Int)) (kt : a < b → zJ X N0 nL tgt lv st N kd iv rf lw cells slots) (kf : ¬ a < b → zJ X N0 nL pc' lv st N kd iv rf lw cells slots) : zJ X N0 nL pc lv (.int y :: .int x :: st) N kd iv rf lw cells slots :=
  z_icmp_lt C hd ht (fun q => kt (by rw [Int32.lt_iff_toInt_lt, hx, hy] at q; exact q)) (fun q => kf (by rw [Int32.lt_iff_toInt_lt, hx, hy] at q; exact q))
theorem zt_icmp_ge {x y : Int32} {a b : Int} {off : Int} {tgt : Nat} (C : zC X cc nL own ret nm lvl MC MS) (hd : zd cc pc (.if_icmp .ge off) 3 pc') (hx : x.toInt = a) (hy : y.toInt = b) (ht : (pc : Int) + off = (tgt : Int)) (kt : b ≤ a → zJ X N0 nL tgt lv st N kd iv rf lw cells slots) (kf : ¬ b ≤ a → zJ X N0 nL pc' lv st N kd iv rf lw cells slots) : zJ X N0 nL pc lv (.int y :: .int x :: st) N kd iv rf lw cells slots :=
  z_icmp_ge C hd ht (fun q => kt (by rw [Int32.le_iff_toInt_le, hx, hy] at q; exact q)) (fun q => kf (by rw [Int32.le_iff_toInt_le, hx, hy] at q; exact q))
theorem zt_icmp_gt {x y : Int32} {a b : Int} {off : Int} {tgt : Nat} (C : zC X cc nL own ret nm lvl MC MS) (hd : zd cc pc (.if_icmp .gt off) 3 pc') (hx : x.toInt = a) (hy : y.toInt = b) (ht : (pc : Int) + off = (tgt : Int)) (kt : b < a → zJ X N0 nL tgt lv st N kd iv rf lw cells slots) (kf : ¬ b < a → zJ X N0 nL pc' lv st N kd iv rf lw cells slots) : zJ X N0 nL pc lv (.int y :: .int x :: st) N kd iv rf lw cells slots :=
  z_icmp_gt C hd ht (fun q => kt (by rw [Int32.lt_iff_toInt_lt, hx, hy] at q; exact q)) (fun q => kf (by rw [Int32.lt_iff_toInt_lt, hx, hy] at q; exact q))
theorem zt_icmp_le {x y : Int32} {a b : Int} {off : Int} {tgt : Nat} (C : zC X cc nL own ret nm lvl MC MS) (hd : zd cc pc (.if_icmp .le off) 3 pc') (hx : x.toInt = a) (hy : y.toInt = b) (ht : (pc : Int) + off = (tgt : Int)) (kt : a ≤ b → zJ X N0 nL tgt lv st N kd iv rf lw cells slots) (kf : ¬ a ≤ b → zJ X N0 nL pc' lv st N kd iv rf lw cells slots) : zJ X N0 nL pc lv (.int y :: .int x :: st) N kd iv rf lw cells slots :=
  z_icmp_le C hd ht (fun q => kt (by rw [Int32.le_iff_toInt_le, hx, hy] at q; exact q)) (fun q => kf (by rw [Int32.le_iff_toInt_le, hx, hy] at q; exact q))
theorem zb_if_eq {P : Prop} [Decidable P] {off : Int} {tgt : Nat} (C : zC X cc nL own ret nm lvl MC MS) (hd : zd cc pc (.ifCond .eq off) 3 pc') (ht : (pc : Int) + off = (tgt : Int)) (kt : ¬ P → zJ X N0 nL tgt lv st N kd iv rf lw cells slots) (kf : P → zJ X N0 nL pc' lv st N kd iv rf lw cells slots) : zJ X N0 nL pc lv (.int (zb P) :: st) N kd iv rf lw cells slots :=
  z_if_eq C hd ht (fun q => kt (zb_0 q)) (fun q => kf (zb_1 q))
theorem zb_if_ne {P : Prop} [Decidable P] {off : Int} {tgt : Nat} (C : zC X cc nL own ret nm lvl MC MS) (hd : zd cc pc (.ifCond .ne off) 3 pc') (ht : (pc : Int) + off = (tgt : Int)) (kt : P → zJ X N0 nL tgt lv st N kd iv rf lw cells slots) (kf : ¬ P → zJ X N0 nL pc' lv st N kd iv rf lw cells slots) : zJ X N0 nL pc lv (.int (zb P) :: st) N kd iv rf lw cells slots :=
  z_if_ne C hd ht (fun q => kt (zb_1 q)) (fun q => kf (zb_0 q))
end ZS
