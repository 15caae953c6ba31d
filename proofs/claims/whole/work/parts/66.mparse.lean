/-! the reference's parser: its tests -/
theorem zWd.r {κ : Int32} {w : Int64} (h : zWd κ w) : κ = 3 ∨ (200 ≤ κ.toInt ∧ κ.toInt < 218) := by
  unfold zWd at h
  rcases h with ⟨h, -⟩ | ⟨h, -⟩ | ⟨h, -⟩ | ⟨h, -⟩ | ⟨h, -⟩ | ⟨h, -⟩ | ⟨h, -⟩ | ⟨h, -⟩ | ⟨h, -⟩ | ⟨h, -⟩ | ⟨h, -⟩ | ⟨h, -⟩ | ⟨h, -⟩ | ⟨h, -⟩ | ⟨h, -⟩ | ⟨h, -⟩ | ⟨h, -⟩ | ⟨h, -⟩ | ⟨h, -⟩
  · subst h; exact Or.inr (by decide)
  · subst h; exact Or.inr (by decide)
  · subst h; exact Or.inr (by decide)
  · subst h; exact Or.inr (by decide)
  · subst h; exact Or.inr (by decide)
  · subst h; exact Or.inr (by decide)
  · subst h; exact Or.inr (by decide)
  · subst h; exact Or.inr (by decide)
  · subst h; exact Or.inr (by decide)
  · subst h; exact Or.inr (by decide)
  · subst h; exact Or.inr (by decide)
  · subst h; exact Or.inr (by decide)
  · subst h; exact Or.inr (by decide)
  · subst h; exact Or.inr (by decide)
  · subst h; exact Or.inr (by decide)
  · subst h; exact Or.inr (by decide)
  · subst h; exact Or.inr (by decide)
  · subst h; exact Or.inr (by decide)
  · exact Or.inl h

theorem zWd.w0 {κ : Int32} {w : Int64} (h : zWd κ w) : w = 2003330414 ↔ κ = 200 := by
  unfold zWd at h
  rcases h with ⟨h, e⟩ | ⟨h, e⟩ | ⟨h, e⟩ | ⟨h, e⟩ | ⟨h, e⟩ | ⟨h, e⟩ | ⟨h, e⟩ | ⟨h, e⟩ | ⟨h, e⟩ | ⟨h, e⟩ | ⟨h, e⟩ | ⟨h, e⟩ | ⟨h, e⟩ | ⟨h, e⟩ | ⟨h, e⟩ | ⟨h, e⟩ | ⟨h, e⟩ | ⟨h, e⟩ | ⟨h, e⟩
  · exact ⟨fun _ => h, fun _ => e⟩
  · subst h; subst e; exact ⟨fun z => absurd z (by decide), fun z => absurd z (by decide)⟩
  · subst h; subst e; exact ⟨fun z => absurd z (by decide), fun z => absurd z (by decide)⟩
  · subst h; subst e; exact ⟨fun z => absurd z (by decide), fun z => absurd z (by decide)⟩
  · subst h; subst e; exact ⟨fun z => absurd z (by decide), fun z => absurd z (by decide)⟩
  · subst h; subst e; exact ⟨fun z => absurd z (by decide), fun z => absurd z (by decide)⟩
  · subst h; subst e; exact ⟨fun z => absurd z (by decide), fun z => absurd z (by decide)⟩
  · subst h; subst e; exact ⟨fun z => absurd z (by decide), fun z => absurd z (by decide)⟩
  · subst h; subst e; exact ⟨fun z => absurd z (by decide), fun z => absurd z (by decide)⟩
  · subst h; subst e; exact ⟨fun z => absurd z (by decide), fun z => absurd z (by decide)⟩
  · subst h; subst e; exact ⟨fun z => absurd z (by decide), fun z => absurd z (by decide)⟩
  · subst h; subst e; exact ⟨fun z => absurd z (by decide), fun z => absurd z (by decide)⟩
  · subst h; subst e; exact ⟨fun z => absurd z (by decide), fun z => absurd z (by decide)⟩
  · subst h; subst e; exact ⟨fun z => absurd z (by decide), fun z => absurd z (by decide)⟩
  · subst h; subst e; exact ⟨fun z => absurd z (by decide), fun z => absurd z (by decide)⟩
  · subst h; subst e; exact ⟨fun z => absurd z (by decide), fun z => absurd z (by decide)⟩
  · subst h; subst e; exact ⟨fun z => absurd z (by decide), fun z => absurd z (by decide)⟩
  · subst h; subst e; exact ⟨fun z => absurd z (by decide), fun z => absurd z (by decide)⟩
  · subst h; exact ⟨fun z => absurd z e.1, fun z => absurd z (by decide)⟩

theorem zWd.w1 {κ : Int32} {w : Int64} (h : zWd κ w) : w = 25711 ↔ κ = 201 := by
  unfold zWd at h
  rcases h with ⟨h, e⟩ | ⟨h, e⟩ | ⟨h, e⟩ | ⟨h, e⟩ | ⟨h, e⟩ | ⟨h, e⟩ | ⟨h, e⟩ | ⟨h, e⟩ | ⟨h, e⟩ | ⟨h, e⟩ | ⟨h, e⟩ | ⟨h, e⟩ | ⟨h, e⟩ | ⟨h, e⟩ | ⟨h, e⟩ | ⟨h, e⟩ | ⟨h, e⟩ | ⟨h, e⟩ | ⟨h, e⟩
  · subst h; subst e; exact ⟨fun z => absurd z (by decide), fun z => absurd z (by decide)⟩
  · exact ⟨fun _ => h, fun _ => e⟩
  · subst h; subst e; exact ⟨fun z => absurd z (by decide), fun z => absurd z (by decide)⟩
  · subst h; subst e; exact ⟨fun z => absurd z (by decide), fun z => absurd z (by decide)⟩
  · subst h; subst e; exact ⟨fun z => absurd z (by decide), fun z => absurd z (by decide)⟩
  · subst h; subst e; exact ⟨fun z => absurd z (by decide), fun z => absurd z (by decide)⟩
  · subst h; subst e; exact ⟨fun z => absurd z (by decide), fun z => absurd z (by decide)⟩
  · subst h; subst e; exact ⟨fun z => absurd z (by decide), fun z => absurd z (by decide)⟩
  · subst h; subst e; exact ⟨fun z => absurd z (by decide), fun z => absurd z (by decide)⟩
  · subst h; subst e; exact ⟨fun z => absurd z (by decide), fun z => absurd z (by decide)⟩
  · subst h; subst e; exact ⟨fun z => absurd z (by decide), fun z => absurd z (by decide)⟩
  · subst h; subst e; exact ⟨fun z => absurd z (by decide), fun z => absurd z (by decide)⟩
  · subst h; subst e; exact ⟨fun z => absurd z (by decide), fun z => absurd z (by decide)⟩
  · subst h; subst e; exact ⟨fun z => absurd z (by decide), fun z => absurd z (by decide)⟩
  · subst h; subst e; exact ⟨fun z => absurd z (by decide), fun z => absurd z (by decide)⟩
  · subst h; subst e; exact ⟨fun z => absurd z (by decide), fun z => absurd z (by decide)⟩
  · subst h; subst e; exact ⟨fun z => absurd z (by decide), fun z => absurd z (by decide)⟩
  · subst h; subst e; exact ⟨fun z => absurd z (by decide), fun z => absurd z (by decide)⟩
  · subst h; exact ⟨fun z => absurd z e.2.1, fun z => absurd z (by decide)⟩

theorem zWd.w2 {κ : Int32} {w : Int64} (h : zWd κ w) : w = 2002872692 ↔ κ = 202 := by
  unfold zWd at h
  rcases h with ⟨h, e⟩ | ⟨h, e⟩ | ⟨h, e⟩ | ⟨h, e⟩ | ⟨h, e⟩ | ⟨h, e⟩ | ⟨h, e⟩ | ⟨h, e⟩ | ⟨h, e⟩ | ⟨h, e⟩ | ⟨h, e⟩ | ⟨h, e⟩ | ⟨h, e⟩ | ⟨h, e⟩ | ⟨h, e⟩ | ⟨h, e⟩ | ⟨h, e⟩ | ⟨h, e⟩ | ⟨h, e⟩
  · subst h; subst e; exact ⟨fun z => absurd z (by decide), fun z => absurd z (by decide)⟩
  · subst h; subst e; exact ⟨fun z => absurd z (by decide), fun z => absurd z (by decide)⟩
  · exact ⟨fun _ => h, fun _ => e⟩
  · subst h; subst e; exact ⟨fun z => absurd z (by decide), fun z => absurd z (by decide)⟩
  · subst h; subst e; exact ⟨fun z => absurd z (by decide), fun z => absurd z (by decide)⟩
  · subst h; subst e; exact ⟨fun z => absurd z (by decide), fun z => absurd z (by decide)⟩
  · subst h; subst e; exact ⟨fun z => absurd z (by decide), fun z => absurd z (by decide)⟩
  · subst h; subst e; exact ⟨fun z => absurd z (by decide), fun z => absurd z (by decide)⟩
  · subst h; subst e; exact ⟨fun z => absurd z (by decide), fun z => absurd z (by decide)⟩
  · subst h; subst e; exact ⟨fun z => absurd z (by decide), fun z => absurd z (by decide)⟩
  · subst h; subst e; exact ⟨fun z => absurd z (by decide), fun z => absurd z (by decide)⟩
  · subst h; subst e; exact ⟨fun z => absurd z (by decide), fun z => absurd z (by decide)⟩
  · subst h; subst e; exact ⟨fun z => absurd z (by decide), fun z => absurd z (by decide)⟩
  · subst h; subst e; exact ⟨fun z => absurd z (by decide), fun z => absurd z (by decide)⟩
  · subst h; subst e; exact ⟨fun z => absurd z (by decide), fun z => absurd z (by decide)⟩
  · subst h; subst e; exact ⟨fun z => absurd z (by decide), fun z => absurd z (by decide)⟩
  · subst h; subst e; exact ⟨fun z => absurd z (by decide), fun z => absurd z (by decide)⟩
  · subst h; subst e; exact ⟨fun z => absurd z (by decide), fun z => absurd z (by decide)⟩
  · subst h; exact ⟨fun z => absurd z e.2.2.1, fun z => absurd z (by decide)⟩

theorem zWd.w3 {κ : Int32} {w : Int64} (h : zWd κ w) : w = 26479 ↔ κ = 203 := by
  unfold zWd at h
  rcases h with ⟨h, e⟩ | ⟨h, e⟩ | ⟨h, e⟩ | ⟨h, e⟩ | ⟨h, e⟩ | ⟨h, e⟩ | ⟨h, e⟩ | ⟨h, e⟩ | ⟨h, e⟩ | ⟨h, e⟩ | ⟨h, e⟩ | ⟨h, e⟩ | ⟨h, e⟩ | ⟨h, e⟩ | ⟨h, e⟩ | ⟨h, e⟩ | ⟨h, e⟩ | ⟨h, e⟩ | ⟨h, e⟩
  · subst h; subst e; exact ⟨fun z => absurd z (by decide), fun z => absurd z (by decide)⟩
  · subst h; subst e; exact ⟨fun z => absurd z (by decide), fun z => absurd z (by decide)⟩
  · subst h; subst e; exact ⟨fun z => absurd z (by decide), fun z => absurd z (by decide)⟩
  · exact ⟨fun _ => h, fun _ => e⟩
  · subst h; subst e; exact ⟨fun z => absurd z (by decide), fun z => absurd z (by decide)⟩
  · subst h; subst e; exact ⟨fun z => absurd z (by decide), fun z => absurd z (by decide)⟩
  · subst h; subst e; exact ⟨fun z => absurd z (by decide), fun z => absurd z (by decide)⟩
  · subst h; subst e; exact ⟨fun z => absurd z (by decide), fun z => absurd z (by decide)⟩
  · subst h; subst e; exact ⟨fun z => absurd z (by decide), fun z => absurd z (by decide)⟩
  · subst h; subst e; exact ⟨fun z => absurd z (by decide), fun z => absurd z (by decide)⟩
  · subst h; subst e; exact ⟨fun z => absurd z (by decide), fun z => absurd z (by decide)⟩
  · subst h; subst e; exact ⟨fun z => absurd z (by decide), fun z => absurd z (by decide)⟩
  · subst h; subst e; exact ⟨fun z => absurd z (by decide), fun z => absurd z (by decide)⟩
  · subst h; subst e; exact ⟨fun z => absurd z (by decide), fun z => absurd z (by decide)⟩
  · subst h; subst e; exact ⟨fun z => absurd z (by decide), fun z => absurd z (by decide)⟩
  · subst h; subst e; exact ⟨fun z => absurd z (by decide), fun z => absurd z (by decide)⟩
  · subst h; subst e; exact ⟨fun z => absurd z (by decide), fun z => absurd z (by decide)⟩
  · subst h; subst e; exact ⟨fun z => absurd z (by decide), fun z => absurd z (by decide)⟩
  · subst h; exact ⟨fun z => absurd z e.2.2.2.1, fun z => absurd z (by decide)⟩

theorem zWd.w4 {κ : Int32} {w : Int64} (h : zWd κ w) : w = 109299962373989 ↔ κ = 204 := by
  unfold zWd at h
  rcases h with ⟨h, e⟩ | ⟨h, e⟩ | ⟨h, e⟩ | ⟨h, e⟩ | ⟨h, e⟩ | ⟨h, e⟩ | ⟨h, e⟩ | ⟨h, e⟩ | ⟨h, e⟩ | ⟨h, e⟩ | ⟨h, e⟩ | ⟨h, e⟩ | ⟨h, e⟩ | ⟨h, e⟩ | ⟨h, e⟩ | ⟨h, e⟩ | ⟨h, e⟩ | ⟨h, e⟩ | ⟨h, e⟩
  · subst h; subst e; exact ⟨fun z => absurd z (by decide), fun z => absurd z (by decide)⟩
  · subst h; subst e; exact ⟨fun z => absurd z (by decide), fun z => absurd z (by decide)⟩
  · subst h; subst e; exact ⟨fun z => absurd z (by decide), fun z => absurd z (by decide)⟩
  · subst h; subst e; exact ⟨fun z => absurd z (by decide), fun z => absurd z (by decide)⟩
  · exact ⟨fun _ => h, fun _ => e⟩
  · subst h; subst e; exact ⟨fun z => absurd z (by decide), fun z => absurd z (by decide)⟩
  · subst h; subst e; exact ⟨fun z => absurd z (by decide), fun z => absurd z (by decide)⟩
  · subst h; subst e; exact ⟨fun z => absurd z (by decide), fun z => absurd z (by decide)⟩
  · subst h; subst e; exact ⟨fun z => absurd z (by decide), fun z => absurd z (by decide)⟩
  · subst h; subst e; exact ⟨fun z => absurd z (by decide), fun z => absurd z (by decide)⟩
  · subst h; subst e; exact ⟨fun z => absurd z (by decide), fun z => absurd z (by decide)⟩
  · subst h; subst e; exact ⟨fun z => absurd z (by decide), fun z => absurd z (by decide)⟩
  · subst h; subst e; exact ⟨fun z => absurd z (by decide), fun z => absurd z (by decide)⟩
  · subst h; subst e; exact ⟨fun z => absurd z (by decide), fun z => absurd z (by decide)⟩
  · subst h; subst e; exact ⟨fun z => absurd z (by decide), fun z => absurd z (by decide)⟩
  · subst h; subst e; exact ⟨fun z => absurd z (by decide), fun z => absurd z (by decide)⟩
  · subst h; subst e; exact ⟨fun z => absurd z (by decide), fun z => absurd z (by decide)⟩
  · subst h; subst e; exact ⟨fun z => absurd z (by decide), fun z => absurd z (by decide)⟩
  · subst h; exact ⟨fun z => absurd z e.2.2.2.2.1, fun z => absurd z (by decide)⟩

theorem zWd.w5 {κ : Int32} {w : Int64} (h : zWd κ w) : w = 28530 ↔ κ = 205 := by
  unfold zWd at h
  rcases h with ⟨h, e⟩ | ⟨h, e⟩ | ⟨h, e⟩ | ⟨h, e⟩ | ⟨h, e⟩ | ⟨h, e⟩ | ⟨h, e⟩ | ⟨h, e⟩ | ⟨h, e⟩ | ⟨h, e⟩ | ⟨h, e⟩ | ⟨h, e⟩ | ⟨h, e⟩ | ⟨h, e⟩ | ⟨h, e⟩ | ⟨h, e⟩ | ⟨h, e⟩ | ⟨h, e⟩ | ⟨h, e⟩
  · subst h; subst e; exact ⟨fun z => absurd z (by decide), fun z => absurd z (by decide)⟩
  · subst h; subst e; exact ⟨fun z => absurd z (by decide), fun z => absurd z (by decide)⟩
  · subst h; subst e; exact ⟨fun z => absurd z (by decide), fun z => absurd z (by decide)⟩
  · subst h; subst e; exact ⟨fun z => absurd z (by decide), fun z => absurd z (by decide)⟩
  · subst h; subst e; exact ⟨fun z => absurd z (by decide), fun z => absurd z (by decide)⟩
  · exact ⟨fun _ => h, fun _ => e⟩
  · subst h; subst e; exact ⟨fun z => absurd z (by decide), fun z => absurd z (by decide)⟩
  · subst h; subst e; exact ⟨fun z => absurd z (by decide), fun z => absurd z (by decide)⟩
  · subst h; subst e; exact ⟨fun z => absurd z (by decide), fun z => absurd z (by decide)⟩
  · subst h; subst e; exact ⟨fun z => absurd z (by decide), fun z => absurd z (by decide)⟩
  · subst h; subst e; exact ⟨fun z => absurd z (by decide), fun z => absurd z (by decide)⟩
  · subst h; subst e; exact ⟨fun z => absurd z (by decide), fun z => absurd z (by decide)⟩
  · subst h; subst e; exact ⟨fun z => absurd z (by decide), fun z => absurd z (by decide)⟩
  · subst h; subst e; exact ⟨fun z => absurd z (by decide), fun z => absurd z (by decide)⟩
  · subst h; subst e; exact ⟨fun z => absurd z (by decide), fun z => absurd z (by decide)⟩
  · subst h; subst e; exact ⟨fun z => absurd z (by decide), fun z => absurd z (by decide)⟩
  · subst h; subst e; exact ⟨fun z => absurd z (by decide), fun z => absurd z (by decide)⟩
  · subst h; subst e; exact ⟨fun z => absurd z (by decide), fun z => absurd z (by decide)⟩
  · subst h; exact ⟨fun z => absurd z e.2.2.2.2.2.1, fun z => absurd z (by decide)⟩

theorem zWd.w6 {κ : Int32} {w : Int64} (h : zWd κ w) : w = 6385252 ↔ κ = 206 := by
  unfold zWd at h
  rcases h with ⟨h, e⟩ | ⟨h, e⟩ | ⟨h, e⟩ | ⟨h, e⟩ | ⟨h, e⟩ | ⟨h, e⟩ | ⟨h, e⟩ | ⟨h, e⟩ | ⟨h, e⟩ | ⟨h, e⟩ | ⟨h, e⟩ | ⟨h, e⟩ | ⟨h, e⟩ | ⟨h, e⟩ | ⟨h, e⟩ | ⟨h, e⟩ | ⟨h, e⟩ | ⟨h, e⟩ | ⟨h, e⟩
  · subst h; subst e; exact ⟨fun z => absurd z (by decide), fun z => absurd z (by decide)⟩
  · subst h; subst e; exact ⟨fun z => absurd z (by decide), fun z => absurd z (by decide)⟩
  · subst h; subst e; exact ⟨fun z => absurd z (by decide), fun z => absurd z (by decide)⟩
  · subst h; subst e; exact ⟨fun z => absurd z (by decide), fun z => absurd z (by decide)⟩
  · subst h; subst e; exact ⟨fun z => absurd z (by decide), fun z => absurd z (by decide)⟩
  · subst h; subst e; exact ⟨fun z => absurd z (by decide), fun z => absurd z (by decide)⟩
  · exact ⟨fun _ => h, fun _ => e⟩
  · subst h; subst e; exact ⟨fun z => absurd z (by decide), fun z => absurd z (by decide)⟩
  · subst h; subst e; exact ⟨fun z => absurd z (by decide), fun z => absurd z (by decide)⟩
  · subst h; subst e; exact ⟨fun z => absurd z (by decide), fun z => absurd z (by decide)⟩
  · subst h; subst e; exact ⟨fun z => absurd z (by decide), fun z => absurd z (by decide)⟩
  · subst h; subst e; exact ⟨fun z => absurd z (by decide), fun z => absurd z (by decide)⟩
  · subst h; subst e; exact ⟨fun z => absurd z (by decide), fun z => absurd z (by decide)⟩
  · subst h; subst e; exact ⟨fun z => absurd z (by decide), fun z => absurd z (by decide)⟩
  · subst h; subst e; exact ⟨fun z => absurd z (by decide), fun z => absurd z (by decide)⟩
  · subst h; subst e; exact ⟨fun z => absurd z (by decide), fun z => absurd z (by decide)⟩
  · subst h; subst e; exact ⟨fun z => absurd z (by decide), fun z => absurd z (by decide)⟩
  · subst h; subst e; exact ⟨fun z => absurd z (by decide), fun z => absurd z (by decide)⟩
  · subst h; exact ⟨fun z => absurd z e.2.2.2.2.2.2.1, fun z => absurd z (by decide)⟩

theorem zWd.w7 {κ : Int32} {w : Int64} (h : zWd κ w) : w = 7237492 ↔ κ = 207 := by
  unfold zWd at h
  rcases h with ⟨h, e⟩ | ⟨h, e⟩ | ⟨h, e⟩ | ⟨h, e⟩ | ⟨h, e⟩ | ⟨h, e⟩ | ⟨h, e⟩ | ⟨h, e⟩ | ⟨h, e⟩ | ⟨h, e⟩ | ⟨h, e⟩ | ⟨h, e⟩ | ⟨h, e⟩ | ⟨h, e⟩ | ⟨h, e⟩ | ⟨h, e⟩ | ⟨h, e⟩ | ⟨h, e⟩ | ⟨h, e⟩
  · subst h; subst e; exact ⟨fun z => absurd z (by decide), fun z => absurd z (by decide)⟩
  · subst h; subst e; exact ⟨fun z => absurd z (by decide), fun z => absurd z (by decide)⟩
  · subst h; subst e; exact ⟨fun z => absurd z (by decide), fun z => absurd z (by decide)⟩
  · subst h; subst e; exact ⟨fun z => absurd z (by decide), fun z => absurd z (by decide)⟩
  · subst h; subst e; exact ⟨fun z => absurd z (by decide), fun z => absurd z (by decide)⟩
  · subst h; subst e; exact ⟨fun z => absurd z (by decide), fun z => absurd z (by decide)⟩
  · subst h; subst e; exact ⟨fun z => absurd z (by decide), fun z => absurd z (by decide)⟩
  · exact ⟨fun _ => h, fun _ => e⟩
  · subst h; subst e; exact ⟨fun z => absurd z (by decide), fun z => absurd z (by decide)⟩
  · subst h; subst e; exact ⟨fun z => absurd z (by decide), fun z => absurd z (by decide)⟩
  · subst h; subst e; exact ⟨fun z => absurd z (by decide), fun z => absurd z (by decide)⟩
  · subst h; subst e; exact ⟨fun z => absurd z (by decide), fun z => absurd z (by decide)⟩
  · subst h; subst e; exact ⟨fun z => absurd z (by decide), fun z => absurd z (by decide)⟩
  · subst h; subst e; exact ⟨fun z => absurd z (by decide), fun z => absurd z (by decide)⟩
  · subst h; subst e; exact ⟨fun z => absurd z (by decide), fun z => absurd z (by decide)⟩
  · subst h; subst e; exact ⟨fun z => absurd z (by decide), fun z => absurd z (by decide)⟩
  · subst h; subst e; exact ⟨fun z => absurd z (by decide), fun z => absurd z (by decide)⟩
  · subst h; subst e; exact ⟨fun z => absurd z (by decide), fun z => absurd z (by decide)⟩
  · subst h; exact ⟨fun z => absurd z e.2.2.2.2.2.2.2.1, fun z => absurd z (by decide)⟩

theorem zWd.w8 {κ : Int32} {w : Int64} (h : zWd κ w) : w = 1818326117 ↔ κ = 208 := by
  unfold zWd at h
  rcases h with ⟨h, e⟩ | ⟨h, e⟩ | ⟨h, e⟩ | ⟨h, e⟩ | ⟨h, e⟩ | ⟨h, e⟩ | ⟨h, e⟩ | ⟨h, e⟩ | ⟨h, e⟩ | ⟨h, e⟩ | ⟨h, e⟩ | ⟨h, e⟩ | ⟨h, e⟩ | ⟨h, e⟩ | ⟨h, e⟩ | ⟨h, e⟩ | ⟨h, e⟩ | ⟨h, e⟩ | ⟨h, e⟩
  · subst h; subst e; exact ⟨fun z => absurd z (by decide), fun z => absurd z (by decide)⟩
  · subst h; subst e; exact ⟨fun z => absurd z (by decide), fun z => absurd z (by decide)⟩
  · subst h; subst e; exact ⟨fun z => absurd z (by decide), fun z => absurd z (by decide)⟩
  · subst h; subst e; exact ⟨fun z => absurd z (by decide), fun z => absurd z (by decide)⟩
  · subst h; subst e; exact ⟨fun z => absurd z (by decide), fun z => absurd z (by decide)⟩
  · subst h; subst e; exact ⟨fun z => absurd z (by decide), fun z => absurd z (by decide)⟩
  · subst h; subst e; exact ⟨fun z => absurd z (by decide), fun z => absurd z (by decide)⟩
  · subst h; subst e; exact ⟨fun z => absurd z (by decide), fun z => absurd z (by decide)⟩
  · exact ⟨fun _ => h, fun _ => e⟩
  · subst h; subst e; exact ⟨fun z => absurd z (by decide), fun z => absurd z (by decide)⟩
  · subst h; subst e; exact ⟨fun z => absurd z (by decide), fun z => absurd z (by decide)⟩
  · subst h; subst e; exact ⟨fun z => absurd z (by decide), fun z => absurd z (by decide)⟩
  · subst h; subst e; exact ⟨fun z => absurd z (by decide), fun z => absurd z (by decide)⟩
  · subst h; subst e; exact ⟨fun z => absurd z (by decide), fun z => absurd z (by decide)⟩
  · subst h; subst e; exact ⟨fun z => absurd z (by decide), fun z => absurd z (by decide)⟩
  · subst h; subst e; exact ⟨fun z => absurd z (by decide), fun z => absurd z (by decide)⟩
  · subst h; subst e; exact ⟨fun z => absurd z (by decide), fun z => absurd z (by decide)⟩
  · subst h; subst e; exact ⟨fun z => absurd z (by decide), fun z => absurd z (by decide)⟩
  · subst h; exact ⟨fun z => absurd z e.2.2.2.2.2.2.2.2.1, fun z => absurd z (by decide)⟩

theorem zWd.w9 {κ : Int32} {w : Int64} (h : zWd κ w) : w = 1819238756 ↔ κ = 209 := by
  unfold zWd at h
  rcases h with ⟨h, e⟩ | ⟨h, e⟩ | ⟨h, e⟩ | ⟨h, e⟩ | ⟨h, e⟩ | ⟨h, e⟩ | ⟨h, e⟩ | ⟨h, e⟩ | ⟨h, e⟩ | ⟨h, e⟩ | ⟨h, e⟩ | ⟨h, e⟩ | ⟨h, e⟩ | ⟨h, e⟩ | ⟨h, e⟩ | ⟨h, e⟩ | ⟨h, e⟩ | ⟨h, e⟩ | ⟨h, e⟩
  · subst h; subst e; exact ⟨fun z => absurd z (by decide), fun z => absurd z (by decide)⟩
  · subst h; subst e; exact ⟨fun z => absurd z (by decide), fun z => absurd z (by decide)⟩
  · subst h; subst e; exact ⟨fun z => absurd z (by decide), fun z => absurd z (by decide)⟩
  · subst h; subst e; exact ⟨fun z => absurd z (by decide), fun z => absurd z (by decide)⟩
  · subst h; subst e; exact ⟨fun z => absurd z (by decide), fun z => absurd z (by decide)⟩
  · subst h; subst e; exact ⟨fun z => absurd z (by decide), fun z => absurd z (by decide)⟩
  · subst h; subst e; exact ⟨fun z => absurd z (by decide), fun z => absurd z (by decide)⟩
  · subst h; subst e; exact ⟨fun z => absurd z (by decide), fun z => absurd z (by decide)⟩
  · subst h; subst e; exact ⟨fun z => absurd z (by decide), fun z => absurd z (by decide)⟩
  · exact ⟨fun _ => h, fun _ => e⟩
  · subst h; subst e; exact ⟨fun z => absurd z (by decide), fun z => absurd z (by decide)⟩
  · subst h; subst e; exact ⟨fun z => absurd z (by decide), fun z => absurd z (by decide)⟩
  · subst h; subst e; exact ⟨fun z => absurd z (by decide), fun z => absurd z (by decide)⟩
  · subst h; subst e; exact ⟨fun z => absurd z (by decide), fun z => absurd z (by decide)⟩
  · subst h; subst e; exact ⟨fun z => absurd z (by decide), fun z => absurd z (by decide)⟩
  · subst h; subst e; exact ⟨fun z => absurd z (by decide), fun z => absurd z (by decide)⟩
  · subst h; subst e; exact ⟨fun z => absurd z (by decide), fun z => absurd z (by decide)⟩
  · subst h; subst e; exact ⟨fun z => absurd z (by decide), fun z => absurd z (by decide)⟩
  · subst h; exact ⟨fun z => absurd z e.2.2.2.2.2.2.2.2.2.1, fun z => absurd z (by decide)⟩

theorem zWd.w10 {κ : Int32} {w : Int64} (h : zWd κ w) : w = 7173476 ↔ κ = 210 := by
  unfold zWd at h
  rcases h with ⟨h, e⟩ | ⟨h, e⟩ | ⟨h, e⟩ | ⟨h, e⟩ | ⟨h, e⟩ | ⟨h, e⟩ | ⟨h, e⟩ | ⟨h, e⟩ | ⟨h, e⟩ | ⟨h, e⟩ | ⟨h, e⟩ | ⟨h, e⟩ | ⟨h, e⟩ | ⟨h, e⟩ | ⟨h, e⟩ | ⟨h, e⟩ | ⟨h, e⟩ | ⟨h, e⟩ | ⟨h, e⟩
  · subst h; subst e; exact ⟨fun z => absurd z (by decide), fun z => absurd z (by decide)⟩
  · subst h; subst e; exact ⟨fun z => absurd z (by decide), fun z => absurd z (by decide)⟩
  · subst h; subst e; exact ⟨fun z => absurd z (by decide), fun z => absurd z (by decide)⟩
  · subst h; subst e; exact ⟨fun z => absurd z (by decide), fun z => absurd z (by decide)⟩
  · subst h; subst e; exact ⟨fun z => absurd z (by decide), fun z => absurd z (by decide)⟩
  · subst h; subst e; exact ⟨fun z => absurd z (by decide), fun z => absurd z (by decide)⟩
  · subst h; subst e; exact ⟨fun z => absurd z (by decide), fun z => absurd z (by decide)⟩
  · subst h; subst e; exact ⟨fun z => absurd z (by decide), fun z => absurd z (by decide)⟩
  · subst h; subst e; exact ⟨fun z => absurd z (by decide), fun z => absurd z (by decide)⟩
  · subst h; subst e; exact ⟨fun z => absurd z (by decide), fun z => absurd z (by decide)⟩
  · exact ⟨fun _ => h, fun _ => e⟩
  · subst h; subst e; exact ⟨fun z => absurd z (by decide), fun z => absurd z (by decide)⟩
  · subst h; subst e; exact ⟨fun z => absurd z (by decide), fun z => absurd z (by decide)⟩
  · subst h; subst e; exact ⟨fun z => absurd z (by decide), fun z => absurd z (by decide)⟩
  · subst h; subst e; exact ⟨fun z => absurd z (by decide), fun z => absurd z (by decide)⟩
  · subst h; subst e; exact ⟨fun z => absurd z (by decide), fun z => absurd z (by decide)⟩
  · subst h; subst e; exact ⟨fun z => absurd z (by decide), fun z => absurd z (by decide)⟩
  · subst h; subst e; exact ⟨fun z => absurd z (by decide), fun z => absurd z (by decide)⟩
  · subst h; exact ⟨fun z => absurd z e.2.2.2.2.2.2.2.2.2.2.1, fun z => absurd z (by decide)⟩

theorem zWd.w11 {κ : Int32} {w : Int64} (h : zWd κ w) : w = 469920146803 ↔ κ = 211 := by
  unfold zWd at h
  rcases h with ⟨h, e⟩ | ⟨h, e⟩ | ⟨h, e⟩ | ⟨h, e⟩ | ⟨h, e⟩ | ⟨h, e⟩ | ⟨h, e⟩ | ⟨h, e⟩ | ⟨h, e⟩ | ⟨h, e⟩ | ⟨h, e⟩ | ⟨h, e⟩ | ⟨h, e⟩ | ⟨h, e⟩ | ⟨h, e⟩ | ⟨h, e⟩ | ⟨h, e⟩ | ⟨h, e⟩ | ⟨h, e⟩
  · subst h; subst e; exact ⟨fun z => absurd z (by decide), fun z => absurd z (by decide)⟩
  · subst h; subst e; exact ⟨fun z => absurd z (by decide), fun z => absurd z (by decide)⟩
  · subst h; subst e; exact ⟨fun z => absurd z (by decide), fun z => absurd z (by decide)⟩
  · subst h; subst e; exact ⟨fun z => absurd z (by decide), fun z => absurd z (by decide)⟩
  · subst h; subst e; exact ⟨fun z => absurd z (by decide), fun z => absurd z (by decide)⟩
  · subst h; subst e; exact ⟨fun z => absurd z (by decide), fun z => absurd z (by decide)⟩
  · subst h; subst e; exact ⟨fun z => absurd z (by decide), fun z => absurd z (by decide)⟩
  · subst h; subst e; exact ⟨fun z => absurd z (by decide), fun z => absurd z (by decide)⟩
  · subst h; subst e; exact ⟨fun z => absurd z (by decide), fun z => absurd z (by decide)⟩
  · subst h; subst e; exact ⟨fun z => absurd z (by decide), fun z => absurd z (by decide)⟩
  · subst h; subst e; exact ⟨fun z => absurd z (by decide), fun z => absurd z (by decide)⟩
  · exact ⟨fun _ => h, fun _ => e⟩
  · subst h; subst e; exact ⟨fun z => absurd z (by decide), fun z => absurd z (by decide)⟩
  · subst h; subst e; exact ⟨fun z => absurd z (by decide), fun z => absurd z (by decide)⟩
  · subst h; subst e; exact ⟨fun z => absurd z (by decide), fun z => absurd z (by decide)⟩
  · subst h; subst e; exact ⟨fun z => absurd z (by decide), fun z => absurd z (by decide)⟩
  · subst h; subst e; exact ⟨fun z => absurd z (by decide), fun z => absurd z (by decide)⟩
  · subst h; subst e; exact ⟨fun z => absurd z (by decide), fun z => absurd z (by decide)⟩
  · subst h; exact ⟨fun z => absurd z e.2.2.2.2.2.2.2.2.2.2.2.1, fun z => absurd z (by decide)⟩

theorem zWd.w12 {κ : Int32} {w : Int64} (h : zWd κ w) : w = 1835100524 ↔ κ = 212 := by
  unfold zWd at h
  rcases h with ⟨h, e⟩ | ⟨h, e⟩ | ⟨h, e⟩ | ⟨h, e⟩ | ⟨h, e⟩ | ⟨h, e⟩ | ⟨h, e⟩ | ⟨h, e⟩ | ⟨h, e⟩ | ⟨h, e⟩ | ⟨h, e⟩ | ⟨h, e⟩ | ⟨h, e⟩ | ⟨h, e⟩ | ⟨h, e⟩ | ⟨h, e⟩ | ⟨h, e⟩ | ⟨h, e⟩ | ⟨h, e⟩
  · subst h; subst e; exact ⟨fun z => absurd z (by decide), fun z => absurd z (by decide)⟩
  · subst h; subst e; exact ⟨fun z => absurd z (by decide), fun z => absurd z (by decide)⟩
  · subst h; subst e; exact ⟨fun z => absurd z (by decide), fun z => absurd z (by decide)⟩
  · subst h; subst e; exact ⟨fun z => absurd z (by decide), fun z => absurd z (by decide)⟩
  · subst h; subst e; exact ⟨fun z => absurd z (by decide), fun z => absurd z (by decide)⟩
  · subst h; subst e; exact ⟨fun z => absurd z (by decide), fun z => absurd z (by decide)⟩
  · subst h; subst e; exact ⟨fun z => absurd z (by decide), fun z => absurd z (by decide)⟩
  · subst h; subst e; exact ⟨fun z => absurd z (by decide), fun z => absurd z (by decide)⟩
  · subst h; subst e; exact ⟨fun z => absurd z (by decide), fun z => absurd z (by decide)⟩
  · subst h; subst e; exact ⟨fun z => absurd z (by decide), fun z => absurd z (by decide)⟩
  · subst h; subst e; exact ⟨fun z => absurd z (by decide), fun z => absurd z (by decide)⟩
  · subst h; subst e; exact ⟨fun z => absurd z (by decide), fun z => absurd z (by decide)⟩
  · exact ⟨fun _ => h, fun _ => e⟩
  · subst h; subst e; exact ⟨fun z => absurd z (by decide), fun z => absurd z (by decide)⟩
  · subst h; subst e; exact ⟨fun z => absurd z (by decide), fun z => absurd z (by decide)⟩
  · subst h; subst e; exact ⟨fun z => absurd z (by decide), fun z => absurd z (by decide)⟩
  · subst h; subst e; exact ⟨fun z => absurd z (by decide), fun z => absurd z (by decide)⟩
  · subst h; subst e; exact ⟨fun z => absurd z (by decide), fun z => absurd z (by decide)⟩
  · subst h; exact ⟨fun z => absurd z e.2.2.2.2.2.2.2.2.2.2.2.2.1, fun z => absurd z (by decide)⟩

theorem zWd.w13 {κ : Int32} {w : Int64} (h : zWd κ w) : w = 474214787188 ↔ κ = 213 := by
  unfold zWd at h
  rcases h with ⟨h, e⟩ | ⟨h, e⟩ | ⟨h, e⟩ | ⟨h, e⟩ | ⟨h, e⟩ | ⟨h, e⟩ | ⟨h, e⟩ | ⟨h, e⟩ | ⟨h, e⟩ | ⟨h, e⟩ | ⟨h, e⟩ | ⟨h, e⟩ | ⟨h, e⟩ | ⟨h, e⟩ | ⟨h, e⟩ | ⟨h, e⟩ | ⟨h, e⟩ | ⟨h, e⟩ | ⟨h, e⟩
  · subst h; subst e; exact ⟨fun z => absurd z (by decide), fun z => absurd z (by decide)⟩
  · subst h; subst e; exact ⟨fun z => absurd z (by decide), fun z => absurd z (by decide)⟩
  · subst h; subst e; exact ⟨fun z => absurd z (by decide), fun z => absurd z (by decide)⟩
  · subst h; subst e; exact ⟨fun z => absurd z (by decide), fun z => absurd z (by decide)⟩
  · subst h; subst e; exact ⟨fun z => absurd z (by decide), fun z => absurd z (by decide)⟩
  · subst h; subst e; exact ⟨fun z => absurd z (by decide), fun z => absurd z (by decide)⟩
  · subst h; subst e; exact ⟨fun z => absurd z (by decide), fun z => absurd z (by decide)⟩
  · subst h; subst e; exact ⟨fun z => absurd z (by decide), fun z => absurd z (by decide)⟩
  · subst h; subst e; exact ⟨fun z => absurd z (by decide), fun z => absurd z (by decide)⟩
  · subst h; subst e; exact ⟨fun z => absurd z (by decide), fun z => absurd z (by decide)⟩
  · subst h; subst e; exact ⟨fun z => absurd z (by decide), fun z => absurd z (by decide)⟩
  · subst h; subst e; exact ⟨fun z => absurd z (by decide), fun z => absurd z (by decide)⟩
  · subst h; subst e; exact ⟨fun z => absurd z (by decide), fun z => absurd z (by decide)⟩
  · exact ⟨fun _ => h, fun _ => e⟩
  · subst h; subst e; exact ⟨fun z => absurd z (by decide), fun z => absurd z (by decide)⟩
  · subst h; subst e; exact ⟨fun z => absurd z (by decide), fun z => absurd z (by decide)⟩
  · subst h; subst e; exact ⟨fun z => absurd z (by decide), fun z => absurd z (by decide)⟩
  · subst h; subst e; exact ⟨fun z => absurd z (by decide), fun z => absurd z (by decide)⟩
  · subst h; exact ⟨fun z => absurd z e.2.2.2.2.2.2.2.2.2.2.2.2.2.1, fun z => absurd z (by decide)⟩

theorem zWd.w14 {κ : Int32} {w : Int64} (h : zWd κ w) : w = 440005915496 ↔ κ = 214 := by
  unfold zWd at h
  rcases h with ⟨h, e⟩ | ⟨h, e⟩ | ⟨h, e⟩ | ⟨h, e⟩ | ⟨h, e⟩ | ⟨h, e⟩ | ⟨h, e⟩ | ⟨h, e⟩ | ⟨h, e⟩ | ⟨h, e⟩ | ⟨h, e⟩ | ⟨h, e⟩ | ⟨h, e⟩ | ⟨h, e⟩ | ⟨h, e⟩ | ⟨h, e⟩ | ⟨h, e⟩ | ⟨h, e⟩ | ⟨h, e⟩
  · subst h; subst e; exact ⟨fun z => absurd z (by decide), fun z => absurd z (by decide)⟩
  · subst h; subst e; exact ⟨fun z => absurd z (by decide), fun z => absurd z (by decide)⟩
  · subst h; subst e; exact ⟨fun z => absurd z (by decide), fun z => absurd z (by decide)⟩
  · subst h; subst e; exact ⟨fun z => absurd z (by decide), fun z => absurd z (by decide)⟩
  · subst h; subst e; exact ⟨fun z => absurd z (by decide), fun z => absurd z (by decide)⟩
  · subst h; subst e; exact ⟨fun z => absurd z (by decide), fun z => absurd z (by decide)⟩
  · subst h; subst e; exact ⟨fun z => absurd z (by decide), fun z => absurd z (by decide)⟩
  · subst h; subst e; exact ⟨fun z => absurd z (by decide), fun z => absurd z (by decide)⟩
  · subst h; subst e; exact ⟨fun z => absurd z (by decide), fun z => absurd z (by decide)⟩
  · subst h; subst e; exact ⟨fun z => absurd z (by decide), fun z => absurd z (by decide)⟩
  · subst h; subst e; exact ⟨fun z => absurd z (by decide), fun z => absurd z (by decide)⟩
  · subst h; subst e; exact ⟨fun z => absurd z (by decide), fun z => absurd z (by decide)⟩
  · subst h; subst e; exact ⟨fun z => absurd z (by decide), fun z => absurd z (by decide)⟩
  · subst h; subst e; exact ⟨fun z => absurd z (by decide), fun z => absurd z (by decide)⟩
  · exact ⟨fun _ => h, fun _ => e⟩
  · subst h; subst e; exact ⟨fun z => absurd z (by decide), fun z => absurd z (by decide)⟩
  · subst h; subst e; exact ⟨fun z => absurd z (by decide), fun z => absurd z (by decide)⟩
  · subst h; subst e; exact ⟨fun z => absurd z (by decide), fun z => absurd z (by decide)⟩
  · subst h; exact ⟨fun z => absurd z e.2.2.2.2.2.2.2.2.2.2.2.2.2.2.1, fun z => absurd z (by decide)⟩

theorem zWd.w15 {κ : Int32} {w : Int64} (h : zWd κ w) : w = 499985311076 ↔ κ = 215 := by
  unfold zWd at h
  rcases h with ⟨h, e⟩ | ⟨h, e⟩ | ⟨h, e⟩ | ⟨h, e⟩ | ⟨h, e⟩ | ⟨h, e⟩ | ⟨h, e⟩ | ⟨h, e⟩ | ⟨h, e⟩ | ⟨h, e⟩ | ⟨h, e⟩ | ⟨h, e⟩ | ⟨h, e⟩ | ⟨h, e⟩ | ⟨h, e⟩ | ⟨h, e⟩ | ⟨h, e⟩ | ⟨h, e⟩ | ⟨h, e⟩
  · subst h; subst e; exact ⟨fun z => absurd z (by decide), fun z => absurd z (by decide)⟩
  · subst h; subst e; exact ⟨fun z => absurd z (by decide), fun z => absurd z (by decide)⟩
  · subst h; subst e; exact ⟨fun z => absurd z (by decide), fun z => absurd z (by decide)⟩
  · subst h; subst e; exact ⟨fun z => absurd z (by decide), fun z => absurd z (by decide)⟩
  · subst h; subst e; exact ⟨fun z => absurd z (by decide), fun z => absurd z (by decide)⟩
  · subst h; subst e; exact ⟨fun z => absurd z (by decide), fun z => absurd z (by decide)⟩
  · subst h; subst e; exact ⟨fun z => absurd z (by decide), fun z => absurd z (by decide)⟩
  · subst h; subst e; exact ⟨fun z => absurd z (by decide), fun z => absurd z (by decide)⟩
  · subst h; subst e; exact ⟨fun z => absurd z (by decide), fun z => absurd z (by decide)⟩
  · subst h; subst e; exact ⟨fun z => absurd z (by decide), fun z => absurd z (by decide)⟩
  · subst h; subst e; exact ⟨fun z => absurd z (by decide), fun z => absurd z (by decide)⟩
  · subst h; subst e; exact ⟨fun z => absurd z (by decide), fun z => absurd z (by decide)⟩
  · subst h; subst e; exact ⟨fun z => absurd z (by decide), fun z => absurd z (by decide)⟩
  · subst h; subst e; exact ⟨fun z => absurd z (by decide), fun z => absurd z (by decide)⟩
  · subst h; subst e; exact ⟨fun z => absurd z (by decide), fun z => absurd z (by decide)⟩
  · exact ⟨fun _ => h, fun _ => e⟩
  · subst h; subst e; exact ⟨fun z => absurd z (by decide), fun z => absurd z (by decide)⟩
  · subst h; subst e; exact ⟨fun z => absurd z (by decide), fun z => absurd z (by decide)⟩
  · subst h; exact ⟨fun z => absurd z e.2.2.2.2.2.2.2.2.2.2.2.2.2.2.2.1, fun z => absurd z (by decide)⟩

theorem zWd.w16 {κ : Int32} {w : Int64} (h : zWd κ w) : w = 6909550 ↔ κ = 216 := by
  unfold zWd at h
  rcases h with ⟨h, e⟩ | ⟨h, e⟩ | ⟨h, e⟩ | ⟨h, e⟩ | ⟨h, e⟩ | ⟨h, e⟩ | ⟨h, e⟩ | ⟨h, e⟩ | ⟨h, e⟩ | ⟨h, e⟩ | ⟨h, e⟩ | ⟨h, e⟩ | ⟨h, e⟩ | ⟨h, e⟩ | ⟨h, e⟩ | ⟨h, e⟩ | ⟨h, e⟩ | ⟨h, e⟩ | ⟨h, e⟩
  · subst h; subst e; exact ⟨fun z => absurd z (by decide), fun z => absurd z (by decide)⟩
  · subst h; subst e; exact ⟨fun z => absurd z (by decide), fun z => absurd z (by decide)⟩
  · subst h; subst e; exact ⟨fun z => absurd z (by decide), fun z => absurd z (by decide)⟩
  · subst h; subst e; exact ⟨fun z => absurd z (by decide), fun z => absurd z (by decide)⟩
  · subst h; subst e; exact ⟨fun z => absurd z (by decide), fun z => absurd z (by decide)⟩
  · subst h; subst e; exact ⟨fun z => absurd z (by decide), fun z => absurd z (by decide)⟩
  · subst h; subst e; exact ⟨fun z => absurd z (by decide), fun z => absurd z (by decide)⟩
  · subst h; subst e; exact ⟨fun z => absurd z (by decide), fun z => absurd z (by decide)⟩
  · subst h; subst e; exact ⟨fun z => absurd z (by decide), fun z => absurd z (by decide)⟩
  · subst h; subst e; exact ⟨fun z => absurd z (by decide), fun z => absurd z (by decide)⟩
  · subst h; subst e; exact ⟨fun z => absurd z (by decide), fun z => absurd z (by decide)⟩
  · subst h; subst e; exact ⟨fun z => absurd z (by decide), fun z => absurd z (by decide)⟩
  · subst h; subst e; exact ⟨fun z => absurd z (by decide), fun z => absurd z (by decide)⟩
  · subst h; subst e; exact ⟨fun z => absurd z (by decide), fun z => absurd z (by decide)⟩
  · subst h; subst e; exact ⟨fun z => absurd z (by decide), fun z => absurd z (by decide)⟩
  · subst h; subst e; exact ⟨fun z => absurd z (by decide), fun z => absurd z (by decide)⟩
  · exact ⟨fun _ => h, fun _ => e⟩
  · subst h; subst e; exact ⟨fun z => absurd z (by decide), fun z => absurd z (by decide)⟩
  · subst h; exact ⟨fun z => absurd z e.2.2.2.2.2.2.2.2.2.2.2.2.2.2.2.2.1, fun z => absurd z (by decide)⟩

theorem zWd.w17 {κ : Int32} {w : Int64} (h : zWd κ w) : w = 131260264768868 ↔ κ = 217 := by
  unfold zWd at h
  rcases h with ⟨h, e⟩ | ⟨h, e⟩ | ⟨h, e⟩ | ⟨h, e⟩ | ⟨h, e⟩ | ⟨h, e⟩ | ⟨h, e⟩ | ⟨h, e⟩ | ⟨h, e⟩ | ⟨h, e⟩ | ⟨h, e⟩ | ⟨h, e⟩ | ⟨h, e⟩ | ⟨h, e⟩ | ⟨h, e⟩ | ⟨h, e⟩ | ⟨h, e⟩ | ⟨h, e⟩ | ⟨h, e⟩
  · subst h; subst e; exact ⟨fun z => absurd z (by decide), fun z => absurd z (by decide)⟩
  · subst h; subst e; exact ⟨fun z => absurd z (by decide), fun z => absurd z (by decide)⟩
  · subst h; subst e; exact ⟨fun z => absurd z (by decide), fun z => absurd z (by decide)⟩
  · subst h; subst e; exact ⟨fun z => absurd z (by decide), fun z => absurd z (by decide)⟩
  · subst h; subst e; exact ⟨fun z => absurd z (by decide), fun z => absurd z (by decide)⟩
  · subst h; subst e; exact ⟨fun z => absurd z (by decide), fun z => absurd z (by decide)⟩
  · subst h; subst e; exact ⟨fun z => absurd z (by decide), fun z => absurd z (by decide)⟩
  · subst h; subst e; exact ⟨fun z => absurd z (by decide), fun z => absurd z (by decide)⟩
  · subst h; subst e; exact ⟨fun z => absurd z (by decide), fun z => absurd z (by decide)⟩
  · subst h; subst e; exact ⟨fun z => absurd z (by decide), fun z => absurd z (by decide)⟩
  · subst h; subst e; exact ⟨fun z => absurd z (by decide), fun z => absurd z (by decide)⟩
  · subst h; subst e; exact ⟨fun z => absurd z (by decide), fun z => absurd z (by decide)⟩
  · subst h; subst e; exact ⟨fun z => absurd z (by decide), fun z => absurd z (by decide)⟩
  · subst h; subst e; exact ⟨fun z => absurd z (by decide), fun z => absurd z (by decide)⟩
  · subst h; subst e; exact ⟨fun z => absurd z (by decide), fun z => absurd z (by decide)⟩
  · subst h; subst e; exact ⟨fun z => absurd z (by decide), fun z => absurd z (by decide)⟩
  · subst h; subst e; exact ⟨fun z => absurd z (by decide), fun z => absurd z (by decide)⟩
  · exact ⟨fun _ => h, fun _ => e⟩
  · subst h; exact ⟨fun z => absurd z e.2.2.2.2.2.2.2.2.2.2.2.2.2.2.2.2.2, fun z => absurd z (by decide)⟩

theorem zSm.sg {κ so nu : Int32} {w : Int64} (h : zSm κ so nu w) {c : Int32} (hc : zsgn c) : so = c ↔ κ = c := by
  have k : ∀ x : Int32, ¬ zsgn x → ¬ x = c := fun x hx z => hx (z ▸ hc)
  have hcb : 40 ≤ c.toInt ∧ c.toInt ≤ 62 := by rcases hc with h | h | h | h | h | h | h | h <;> subst h <;> decide
  rcases h with ⟨h1, h2⟩ | ⟨h1, h2⟩ | ⟨h1, h2, -⟩ | ⟨h1, h2⟩ | ⟨h1, h2⟩
  · subst h1; subst h2; exact ⟨fun z => absurd z (k 0 (by decide)), fun z => absurd z (k 1 (by decide))⟩
  · subst h1; subst h2; exact ⟨fun z => absurd z (k 3 (by decide)), fun z => absurd z (k 2 (by decide))⟩
  · subst h2; exact ⟨fun z => absurd z (k 2 (by decide)), fun z => by rw [z] at h1; omega⟩
  · subst h2; exact Iff.rfl
  · subst h1
    refine ⟨fun z => absurd z (k 1 (by decide)), fun z => ?_⟩
    rcases h2.r with q | q
    · rw [q] at z; exact absurd z (k 3 (by decide))
    · rw [z] at q; omega
theorem zsgn_b {c : Int32} (hc : zsgn c) : 40 ≤ c.toInt ∧ c.toInt ≤ 62 := by rcases hc with h | h | h | h | h | h | h | h <;> subst h <;> decide
theorem zSm.s3 {κ so nu : Int32} {w : Int64} (h : zSm κ so nu w) : so = 3 ↔ κ = 2 := by
  rcases h with ⟨h1, h2⟩ | ⟨h1, h2⟩ | ⟨h1, h2, -⟩ | ⟨h1, h2⟩ | ⟨h1, h2⟩
  · subst h1; subst h2; decide
  · subst h1; subst h2; decide
  · subst h2; exact ⟨fun z => absurd z (by decide), fun z => by subst z; exact absurd h1.1 (by decide)⟩
  · subst h2
    have := zsgn_b h1
    exact ⟨fun z => by subst z; exact absurd this.1 (by decide), fun z => by subst z; exact absurd this.1 (by decide)⟩
  · subst h1
    refine ⟨fun z => absurd z (by decide), fun z => ?_⟩
    subst z
    rcases h2.r with q | q
    · exact absurd q (by decide)
    · exact absurd q.1 (by decide)
theorem zSm.s0 {κ so nu : Int32} {w : Int64} (h : zSm κ so nu w) : so = 0 ↔ κ = 1 := by
  rcases h with ⟨h1, h2⟩ | ⟨h1, h2⟩ | ⟨h1, h2, -⟩ | ⟨h1, h2⟩ | ⟨h1, h2⟩
  · subst h1; subst h2; decide
  · subst h1; subst h2; decide
  · subst h2; exact ⟨fun z => absurd z (by decide), fun z => by subst z; exact absurd h1.1 (by decide)⟩
  · subst h2
    have := zsgn_b h1
    exact ⟨fun z => by subst z; exact absurd this.1 (by decide), fun z => by subst z; exact absurd this.1 (by decide)⟩
  · subst h1
    refine ⟨fun z => absurd z (by decide), fun z => ?_⟩
    subst z
    rcases h2.r with q | q
    · exact absurd q (by decide)
    · exact absurd q.1 (by decide)
theorem zSm.s2 {κ so nu : Int32} {w : Int64} (h : zSm κ so nu w) : (so = 2 ↔ 1000 ≤ κ.toInt) ∧ (so = 2 → nu = κ - 1000 ∧ κ.toInt < 1001000) := by
  rcases h with ⟨h1, h2⟩ | ⟨h1, h2⟩ | ⟨h1, h2, h3⟩ | ⟨h1, h2⟩ | ⟨h1, h2⟩
  · subst h1; subst h2; exact ⟨by decide, fun z => absurd z (by decide)⟩
  · subst h1; subst h2; exact ⟨by decide, fun z => absurd z (by decide)⟩
  · subst h2; exact ⟨⟨fun _ => h1.1, fun _ => rfl⟩, fun _ => ⟨h3, h1.2⟩⟩
  · subst h2
    have := zsgn_b h1
    exact ⟨⟨fun z => by subst z; exact absurd this.1 (by decide), fun z => by omega⟩, fun z => by subst z; exact absurd this.1 (by decide)⟩
  · subst h1
    refine ⟨⟨fun z => absurd z (by decide), fun z => ?_⟩, fun z => absurd z (by decide)⟩
    rcases h2.r with q | q
    · subst q; exact absurd z (by decide)
    · omega
theorem zSm.s1 {κ so nu : Int32} {w : Int64} (h : zSm κ so nu w) : (so = 1 → zWd κ w) ∧ (so = 1 ↔ κ = 3 ∨ (200 ≤ κ.toInt ∧ κ.toInt < 218)) := by
  rcases h with ⟨h1, h2⟩ | ⟨h1, h2⟩ | ⟨h1, h2, h3⟩ | ⟨h1, h2⟩ | ⟨h1, h2⟩
  · subst h1; subst h2; exact ⟨fun z => absurd z (by decide), by decide⟩
  · subst h1; subst h2; exact ⟨fun z => absurd z (by decide), by decide⟩
  · subst h2
    refine ⟨fun z => absurd z (by decide), ⟨fun z => absurd z (by decide), fun z => ?_⟩⟩
    rcases z with z | z
    · subst z; exact absurd h1.1 (by decide)
    · omega
  · subst h2
    have := zsgn_b h1
    refine ⟨fun z => by subst z; exact absurd this.1 (by decide), ⟨fun z => by subst z; exact absurd this.1 (by decide), fun z => ?_⟩⟩
    rcases z with z | z
    · subst z; exact absurd this.1 (by decide)
    · omega
  · exact ⟨fun _ => h2, ⟨fun _ => h2.r, fun _ => h1⟩⟩

theorem zSm.w0 {κ so nu : Int32} {w : Int64} (h : zSm κ so nu w) : (so = 1 ∧ w = 2003330414) ↔ κ = 200 := by
  refine ⟨fun z => (h.s1.1 z.1).w0.mp z.2, fun z => ?_⟩
  have h1 : so = 1 := h.s1.2.mpr (Or.inr (by rw [z]; decide))
  exact ⟨h1, (h.s1.1 h1).w0.mpr z⟩

theorem zSm.w1 {κ so nu : Int32} {w : Int64} (h : zSm κ so nu w) : (so = 1 ∧ w = 25711) ↔ κ = 201 := by
  refine ⟨fun z => (h.s1.1 z.1).w1.mp z.2, fun z => ?_⟩
  have h1 : so = 1 := h.s1.2.mpr (Or.inr (by rw [z]; decide))
  exact ⟨h1, (h.s1.1 h1).w1.mpr z⟩

theorem zSm.w2 {κ so nu : Int32} {w : Int64} (h : zSm κ so nu w) : (so = 1 ∧ w = 2002872692) ↔ κ = 202 := by
  refine ⟨fun z => (h.s1.1 z.1).w2.mp z.2, fun z => ?_⟩
  have h1 : so = 1 := h.s1.2.mpr (Or.inr (by rw [z]; decide))
  exact ⟨h1, (h.s1.1 h1).w2.mpr z⟩

theorem zSm.w3 {κ so nu : Int32} {w : Int64} (h : zSm κ so nu w) : (so = 1 ∧ w = 26479) ↔ κ = 203 := by
  refine ⟨fun z => (h.s1.1 z.1).w3.mp z.2, fun z => ?_⟩
  have h1 : so = 1 := h.s1.2.mpr (Or.inr (by rw [z]; decide))
  exact ⟨h1, (h.s1.1 h1).w3.mpr z⟩

theorem zSm.w4 {κ so nu : Int32} {w : Int64} (h : zSm κ so nu w) : (so = 1 ∧ w = 109299962373989) ↔ κ = 204 := by
  refine ⟨fun z => (h.s1.1 z.1).w4.mp z.2, fun z => ?_⟩
  have h1 : so = 1 := h.s1.2.mpr (Or.inr (by rw [z]; decide))
  exact ⟨h1, (h.s1.1 h1).w4.mpr z⟩

theorem zSm.w5 {κ so nu : Int32} {w : Int64} (h : zSm κ so nu w) : (so = 1 ∧ w = 28530) ↔ κ = 205 := by
  refine ⟨fun z => (h.s1.1 z.1).w5.mp z.2, fun z => ?_⟩
  have h1 : so = 1 := h.s1.2.mpr (Or.inr (by rw [z]; decide))
  exact ⟨h1, (h.s1.1 h1).w5.mpr z⟩

theorem zSm.w6 {κ so nu : Int32} {w : Int64} (h : zSm κ so nu w) : (so = 1 ∧ w = 6385252) ↔ κ = 206 := by
  refine ⟨fun z => (h.s1.1 z.1).w6.mp z.2, fun z => ?_⟩
  have h1 : so = 1 := h.s1.2.mpr (Or.inr (by rw [z]; decide))
  exact ⟨h1, (h.s1.1 h1).w6.mpr z⟩

theorem zSm.w7 {κ so nu : Int32} {w : Int64} (h : zSm κ so nu w) : (so = 1 ∧ w = 7237492) ↔ κ = 207 := by
  refine ⟨fun z => (h.s1.1 z.1).w7.mp z.2, fun z => ?_⟩
  have h1 : so = 1 := h.s1.2.mpr (Or.inr (by rw [z]; decide))
  exact ⟨h1, (h.s1.1 h1).w7.mpr z⟩

theorem zSm.w8 {κ so nu : Int32} {w : Int64} (h : zSm κ so nu w) : (so = 1 ∧ w = 1818326117) ↔ κ = 208 := by
  refine ⟨fun z => (h.s1.1 z.1).w8.mp z.2, fun z => ?_⟩
  have h1 : so = 1 := h.s1.2.mpr (Or.inr (by rw [z]; decide))
  exact ⟨h1, (h.s1.1 h1).w8.mpr z⟩

theorem zSm.w9 {κ so nu : Int32} {w : Int64} (h : zSm κ so nu w) : (so = 1 ∧ w = 1819238756) ↔ κ = 209 := by
  refine ⟨fun z => (h.s1.1 z.1).w9.mp z.2, fun z => ?_⟩
  have h1 : so = 1 := h.s1.2.mpr (Or.inr (by rw [z]; decide))
  exact ⟨h1, (h.s1.1 h1).w9.mpr z⟩

theorem zSm.w10 {κ so nu : Int32} {w : Int64} (h : zSm κ so nu w) : (so = 1 ∧ w = 7173476) ↔ κ = 210 := by
  refine ⟨fun z => (h.s1.1 z.1).w10.mp z.2, fun z => ?_⟩
  have h1 : so = 1 := h.s1.2.mpr (Or.inr (by rw [z]; decide))
  exact ⟨h1, (h.s1.1 h1).w10.mpr z⟩

theorem zSm.w11 {κ so nu : Int32} {w : Int64} (h : zSm κ so nu w) : (so = 1 ∧ w = 469920146803) ↔ κ = 211 := by
  refine ⟨fun z => (h.s1.1 z.1).w11.mp z.2, fun z => ?_⟩
  have h1 : so = 1 := h.s1.2.mpr (Or.inr (by rw [z]; decide))
  exact ⟨h1, (h.s1.1 h1).w11.mpr z⟩

theorem zSm.w12 {κ so nu : Int32} {w : Int64} (h : zSm κ so nu w) : (so = 1 ∧ w = 1835100524) ↔ κ = 212 := by
  refine ⟨fun z => (h.s1.1 z.1).w12.mp z.2, fun z => ?_⟩
  have h1 : so = 1 := h.s1.2.mpr (Or.inr (by rw [z]; decide))
  exact ⟨h1, (h.s1.1 h1).w12.mpr z⟩

theorem zSm.w13 {κ so nu : Int32} {w : Int64} (h : zSm κ so nu w) : (so = 1 ∧ w = 474214787188) ↔ κ = 213 := by
  refine ⟨fun z => (h.s1.1 z.1).w13.mp z.2, fun z => ?_⟩
  have h1 : so = 1 := h.s1.2.mpr (Or.inr (by rw [z]; decide))
  exact ⟨h1, (h.s1.1 h1).w13.mpr z⟩

theorem zSm.w14 {κ so nu : Int32} {w : Int64} (h : zSm κ so nu w) : (so = 1 ∧ w = 440005915496) ↔ κ = 214 := by
  refine ⟨fun z => (h.s1.1 z.1).w14.mp z.2, fun z => ?_⟩
  have h1 : so = 1 := h.s1.2.mpr (Or.inr (by rw [z]; decide))
  exact ⟨h1, (h.s1.1 h1).w14.mpr z⟩

theorem zSm.w15 {κ so nu : Int32} {w : Int64} (h : zSm κ so nu w) : (so = 1 ∧ w = 499985311076) ↔ κ = 215 := by
  refine ⟨fun z => (h.s1.1 z.1).w15.mp z.2, fun z => ?_⟩
  have h1 : so = 1 := h.s1.2.mpr (Or.inr (by rw [z]; decide))
  exact ⟨h1, (h.s1.1 h1).w15.mpr z⟩

theorem zSm.w16 {κ so nu : Int32} {w : Int64} (h : zSm κ so nu w) : (so = 1 ∧ w = 6909550) ↔ κ = 216 := by
  refine ⟨fun z => (h.s1.1 z.1).w16.mp z.2, fun z => ?_⟩
  have h1 : so = 1 := h.s1.2.mpr (Or.inr (by rw [z]; decide))
  exact ⟨h1, (h.s1.1 h1).w16.mpr z⟩

theorem zSm.w17 {κ so nu : Int32} {w : Int64} (h : zSm κ so nu w) : (so = 1 ∧ w = 131260264768868) ↔ κ = 217 := by
  refine ⟨fun z => (h.s1.1 z.1).w17.mp z.2, fun z => ?_⟩
  have h1 : so = 1 := h.s1.2.mpr (Or.inr (by rw [z]; decide))
  exact ⟨h1, (h.s1.1 h1).w17.mpr z⟩

set_option maxRecDepth 4000 in
theorem m_isWord (n : Nat) (iv : zI) (lw : zG) (c : Int64) : zMi yX10_isWord cX10_isWord 3 (some .boolean) 0 [.ref 41, .long c] n iv lw (zb (iv 41 44 = 1 ∧ lw 41 47 = c)) iv lw := by
  refine zM.of (by decide) (Nat.le_of_ble_eq_true rfl) (fun X C E => ?_)
  change zJs X n 3 0 [some (.ref 41), some (.long c), none] [] iv lw
  refine z_aload_n C dX10_isWord_0 rfl ?_
  refine z_getI C dX10_isWord_1 zf_X10_238 zk_41 (by decide) ?_
  refine z_iconst (v := 1) C dX10_isWord_4 (by decide) ?_
  refine z_icmp_ne (tgt := 21) C dX10_isWord_5 (by decide) (fun q5 => ?_) (fun q5 => ?_)
  · refine z_iconst (v := 0) C dX10_isWord_21 (by decide) ?_
    refine zs_iret C E dX10_isWord_22 rfl ?_ ?_ ?_
    · exact (zb_f (fun z => q5 z.1)).symm
    · rfl
    · rfl
  · refine z_aload_n C dX10_isWord_8 rfl ?_
    refine z_getL C dX10_isWord_9 zf_X10_231 zk_41 (by decide) ?_
    refine z_lload_n C dX10_isWord_12 rfl ?_
    refine z_lcmp C dX10_isWord_13 ?_
    refine z_if_ne (tgt := 21) C dX10_isWord_14 (by decide) (fun q14 => ?_) (fun q14 => ?_)
    · rw [lg_cmp_eq] at q14
      refine z_iconst (v := 0) C dX10_isWord_21 (by decide) ?_
      refine zs_iret C E dX10_isWord_22 rfl ?_ ?_ ?_
      · exact (zb_f (fun z => q14 z.2)).symm
      · rfl
      · rfl
    · rw [lg_cmp_eq] at q14
      refine z_iconst (v := 1) C dX10_isWord_17 (by decide) ?_
      refine z_goto (tgt := 22) C dX10_isWord_18 (by decide) ?_
      refine zs_iret C E dX10_isWord_22 rfl ?_ ?_ ?_
      · exact (zb_t ⟨q5, q14⟩).symm
      · rfl
      · rfl

set_option maxRecDepth 4000 in
theorem m_isKey (n : Nat) (iv : zI) (lw : zG) : zMi yX10_isKey cX10_isKey 1 (some .boolean) 0 [.ref 41] n iv lw (zb (lw 41 47 = 2003330414 ∨ lw 41 47 = 25711 ∨ lw 41 47 = 2002872692 ∨ lw 41 47 = 26479 ∨ lw 41 47 = 109299962373989 ∨ lw 41 47 = 28530 ∨ lw 41 47 = 6385252 ∨ lw 41 47 = 7237492)) iv lw := by
  refine zM.of (by decide) (Nat.le_of_ble_eq_true rfl) (fun X C E => ?_)
  change zJs X n 1 0 [some (.ref 41)] [] iv lw
  refine z_aload_n C dX10_isKey_0 rfl ?_
  refine z_getL C dX10_isKey_1 zf_X10_231 zk_41 (by decide) ?_
  refine z_ldc2 C dX10_isKey_4 zk_X10_253 ?_
  refine z_lcmp C dX10_isKey_7 ?_
  refine z_if_eq (tgt := 88) C dX10_isKey_8 (by decide) (fun q8 => ?_) (fun q8 => ?_)
  · rw [lg_cmp_eq] at q8
    refine z_iconst (v := 1) C dX10_isKey_88 (by decide) ?_
    refine z_goto (tgt := 93) C dX10_isKey_89 (by decide) ?_
    refine zs_iret C E dX10_isKey_93 rfl ?_ ?_ ?_
    · exact (zb_t (Or.inl q8)).symm
    · rfl
    · rfl
  · rw [lg_cmp_eq] at q8
    refine z_aload_n C dX10_isKey_11 rfl ?_
    refine z_getL C dX10_isKey_12 zf_X10_231 zk_41 (by decide) ?_
    refine z_ldc2 C dX10_isKey_15 zk_X10_255 ?_
    refine z_lcmp C dX10_isKey_18 ?_
    refine z_if_eq (tgt := 88) C dX10_isKey_19 (by decide) (fun q19 => ?_) (fun q19 => ?_)
    · rw [lg_cmp_eq] at q19
      refine z_iconst (v := 1) C dX10_isKey_88 (by decide) ?_
      refine z_goto (tgt := 93) C dX10_isKey_89 (by decide) ?_
      refine zs_iret C E dX10_isKey_93 rfl ?_ ?_ ?_
      · exact (zb_t (Or.inr (Or.inl q19))).symm
      · rfl
      · rfl
    · rw [lg_cmp_eq] at q19
      refine z_aload_n C dX10_isKey_22 rfl ?_
      refine z_getL C dX10_isKey_23 zf_X10_231 zk_41 (by decide) ?_
      refine z_ldc2 C dX10_isKey_26 zk_X10_257 ?_
      refine z_lcmp C dX10_isKey_29 ?_
      refine z_if_eq (tgt := 88) C dX10_isKey_30 (by decide) (fun q30 => ?_) (fun q30 => ?_)
      · rw [lg_cmp_eq] at q30
        refine z_iconst (v := 1) C dX10_isKey_88 (by decide) ?_
        refine z_goto (tgt := 93) C dX10_isKey_89 (by decide) ?_
        refine zs_iret C E dX10_isKey_93 rfl ?_ ?_ ?_
        · exact (zb_t (Or.inr (Or.inr (Or.inl q30)))).symm
        · rfl
        · rfl
      · rw [lg_cmp_eq] at q30
        refine z_aload_n C dX10_isKey_33 rfl ?_
        refine z_getL C dX10_isKey_34 zf_X10_231 zk_41 (by decide) ?_
        refine z_ldc2 C dX10_isKey_37 zk_X10_259 ?_
        refine z_lcmp C dX10_isKey_40 ?_
        refine z_if_eq (tgt := 88) C dX10_isKey_41 (by decide) (fun q41 => ?_) (fun q41 => ?_)
        · rw [lg_cmp_eq] at q41
          refine z_iconst (v := 1) C dX10_isKey_88 (by decide) ?_
          refine z_goto (tgt := 93) C dX10_isKey_89 (by decide) ?_
          refine zs_iret C E dX10_isKey_93 rfl ?_ ?_ ?_
          · exact (zb_t (Or.inr (Or.inr (Or.inr (Or.inl q41))))).symm
          · rfl
          · rfl
        · rw [lg_cmp_eq] at q41
          refine z_aload_n C dX10_isKey_44 rfl ?_
          refine z_getL C dX10_isKey_45 zf_X10_231 zk_41 (by decide) ?_
          refine z_ldc2 C dX10_isKey_48 zk_X10_261 ?_
          refine z_lcmp C dX10_isKey_51 ?_
          refine z_if_eq (tgt := 88) C dX10_isKey_52 (by decide) (fun q52 => ?_) (fun q52 => ?_)
          · rw [lg_cmp_eq] at q52
            refine z_iconst (v := 1) C dX10_isKey_88 (by decide) ?_
            refine z_goto (tgt := 93) C dX10_isKey_89 (by decide) ?_
            refine zs_iret C E dX10_isKey_93 rfl ?_ ?_ ?_
            · exact (zb_t (Or.inr (Or.inr (Or.inr (Or.inr (Or.inl q52)))))).symm
            · rfl
            · rfl
          · rw [lg_cmp_eq] at q52
            refine z_aload_n C dX10_isKey_55 rfl ?_
            refine z_getL C dX10_isKey_56 zf_X10_231 zk_41 (by decide) ?_
            refine z_ldc2 C dX10_isKey_59 zk_X10_263 ?_
            refine z_lcmp C dX10_isKey_62 ?_
            refine z_if_eq (tgt := 88) C dX10_isKey_63 (by decide) (fun q63 => ?_) (fun q63 => ?_)
            · rw [lg_cmp_eq] at q63
              refine z_iconst (v := 1) C dX10_isKey_88 (by decide) ?_
              refine z_goto (tgt := 93) C dX10_isKey_89 (by decide) ?_
              refine zs_iret C E dX10_isKey_93 rfl ?_ ?_ ?_
              · exact (zb_t (Or.inr (Or.inr (Or.inr (Or.inr (Or.inr (Or.inl q63))))))).symm
              · rfl
              · rfl
            · rw [lg_cmp_eq] at q63
              refine z_aload_n C dX10_isKey_66 rfl ?_
              refine z_getL C dX10_isKey_67 zf_X10_231 zk_41 (by decide) ?_
              refine z_ldc2 C dX10_isKey_70 zk_X10_265 ?_
              refine z_lcmp C dX10_isKey_73 ?_
              refine z_if_eq (tgt := 88) C dX10_isKey_74 (by decide) (fun q74 => ?_) (fun q74 => ?_)
              · rw [lg_cmp_eq] at q74
                refine z_iconst (v := 1) C dX10_isKey_88 (by decide) ?_
                refine z_goto (tgt := 93) C dX10_isKey_89 (by decide) ?_
                refine zs_iret C E dX10_isKey_93 rfl ?_ ?_ ?_
                · exact (zb_t (Or.inr (Or.inr (Or.inr (Or.inr (Or.inr (Or.inr (Or.inl q74)))))))).symm
                · rfl
                · rfl
              · rw [lg_cmp_eq] at q74
                refine z_aload_n C dX10_isKey_77 rfl ?_
                refine z_getL C dX10_isKey_78 zf_X10_231 zk_41 (by decide) ?_
                refine z_ldc2 C dX10_isKey_81 zk_X10_267 ?_
                refine z_lcmp C dX10_isKey_84 ?_
                refine z_if_ne (tgt := 92) C dX10_isKey_85 (by decide) (fun q85 => ?_) (fun q85 => ?_)
                · rw [lg_cmp_eq] at q85
                  refine z_iconst (v := 0) C dX10_isKey_92 (by decide) ?_
                  refine zs_iret C E dX10_isKey_93 rfl ?_ ?_ ?_
                  · exact (zb_f (fun z => by rcases z with z | z | z | z | z | z | z | z <;> first | exact q8 z | exact q19 z | exact q30 z | exact q41 z | exact q52 z | exact q63 z | exact q74 z | exact q85 z)).symm
                  · rfl
                  · rfl
                · rw [lg_cmp_eq] at q85
                  refine z_iconst (v := 1) C dX10_isKey_88 (by decide) ?_
                  refine z_goto (tgt := 93) C dX10_isKey_89 (by decide) ?_
                  refine zs_iret C E dX10_isKey_93 rfl ?_ ?_ ?_
                  · exact (zb_t (Or.inr (Or.inr (Or.inr (Or.inr (Or.inr (Or.inr (Or.inr (q85))))))))).symm
                  · rfl
                  · rfl

def zmnm (w : Int64) : Int32 := (if w = 1818326117 then 0 else (if w = 1819238756 then 1 else (if w = 7173476 then 2 else (if w = 469920146803 then 3 else (if w = 1835100524 then 4 else (if w = 474214787188 then 5 else (if w = 440005915496 then 6 else (if w = 499985311076 then 7 else (if w = 6909550 then 8 else (if w = 131260264768868 then 9 else -1))))))))))

set_option maxRecDepth 4000 in
theorem m_named (n : Nat) (iv : zI) (lw : zG) : zMi yX10_named cX10_named 1 (some .int) 0 [.ref 41] n iv lw (zmnm (lw 41 47)) iv lw := by
  refine zM.of (by decide) (Nat.le_of_ble_eq_true rfl) (fun X C E => ?_)
  change zJs X n 1 0 [some (.ref 41)] [] iv lw
  refine z_aload_n C dX10_named_0 rfl ?_
  refine z_getL C dX10_named_1 zf_X10_231 zk_41 (by decide) ?_
  refine z_ldc2 C dX10_named_4 zk_X10_269 ?_
  refine z_lcmp C dX10_named_7 ?_
  refine z_if_ne (tgt := 13) C dX10_named_8 (by decide) (fun q8 => ?_) (fun q8 => ?_)
  · rw [lg_cmp_eq] at q8
    refine z_aload_n C dX10_named_13 rfl ?_
    refine z_getL C dX10_named_14 zf_X10_231 zk_41 (by decide) ?_
    refine z_ldc2 C dX10_named_17 zk_X10_271 ?_
    refine z_lcmp C dX10_named_20 ?_
    refine z_if_ne (tgt := 26) C dX10_named_21 (by decide) (fun q21 => ?_) (fun q21 => ?_)
    · rw [lg_cmp_eq] at q21
      refine z_aload_n C dX10_named_26 rfl ?_
      refine z_getL C dX10_named_27 zf_X10_231 zk_41 (by decide) ?_
      refine z_ldc2 C dX10_named_30 zk_X10_273 ?_
      refine z_lcmp C dX10_named_33 ?_
      refine z_if_ne (tgt := 39) C dX10_named_34 (by decide) (fun q34 => ?_) (fun q34 => ?_)
      · rw [lg_cmp_eq] at q34
        refine z_aload_n C dX10_named_39 rfl ?_
        refine z_getL C dX10_named_40 zf_X10_231 zk_41 (by decide) ?_
        refine z_ldc2 C dX10_named_43 zk_X10_275 ?_
        refine z_lcmp C dX10_named_46 ?_
        refine z_if_ne (tgt := 52) C dX10_named_47 (by decide) (fun q47 => ?_) (fun q47 => ?_)
        · rw [lg_cmp_eq] at q47
          refine z_aload_n C dX10_named_52 rfl ?_
          refine z_getL C dX10_named_53 zf_X10_231 zk_41 (by decide) ?_
          refine z_ldc2 C dX10_named_56 zk_X10_277 ?_
          refine z_lcmp C dX10_named_59 ?_
          refine z_if_ne (tgt := 65) C dX10_named_60 (by decide) (fun q60 => ?_) (fun q60 => ?_)
          · rw [lg_cmp_eq] at q60
            refine z_aload_n C dX10_named_65 rfl ?_
            refine z_getL C dX10_named_66 zf_X10_231 zk_41 (by decide) ?_
            refine z_ldc2 C dX10_named_69 zk_X10_279 ?_
            refine z_lcmp C dX10_named_72 ?_
            refine z_if_ne (tgt := 78) C dX10_named_73 (by decide) (fun q73 => ?_) (fun q73 => ?_)
            · rw [lg_cmp_eq] at q73
              refine z_aload_n C dX10_named_78 rfl ?_
              refine z_getL C dX10_named_79 zf_X10_231 zk_41 (by decide) ?_
              refine z_ldc2 C dX10_named_82 zk_X10_281 ?_
              refine z_lcmp C dX10_named_85 ?_
              refine z_if_ne (tgt := 92) C dX10_named_86 (by decide) (fun q86 => ?_) (fun q86 => ?_)
              · rw [lg_cmp_eq] at q86
                refine z_aload_n C dX10_named_92 rfl ?_
                refine z_getL C dX10_named_93 zf_X10_231 zk_41 (by decide) ?_
                refine z_ldc2 C dX10_named_96 zk_X10_283 ?_
                refine z_lcmp C dX10_named_99 ?_
                refine z_if_ne (tgt := 106) C dX10_named_100 (by decide) (fun q100 => ?_) (fun q100 => ?_)
                · rw [lg_cmp_eq] at q100
                  refine z_aload_n C dX10_named_106 rfl ?_
                  refine z_getL C dX10_named_107 zf_X10_231 zk_41 (by decide) ?_
                  refine z_ldc2 C dX10_named_110 zk_X10_285 ?_
                  refine z_lcmp C dX10_named_113 ?_
                  refine z_if_ne (tgt := 120) C dX10_named_114 (by decide) (fun q114 => ?_) (fun q114 => ?_)
                  · rw [lg_cmp_eq] at q114
                    refine z_aload_n C dX10_named_120 rfl ?_
                    refine z_getL C dX10_named_121 zf_X10_231 zk_41 (by decide) ?_
                    refine z_ldc2 C dX10_named_124 zk_X10_287 ?_
                    refine z_lcmp C dX10_named_127 ?_
                    refine z_if_ne (tgt := 136) C dX10_named_128 (by decide) (fun q128 => ?_) (fun q128 => ?_)
                    · rw [lg_cmp_eq] at q128
                      refine z_iconst (v := (-1)) C dX10_named_136 (by decide) ?_
                      refine zs_iret C E dX10_named_137 rfl ?_ ?_ ?_
                      · unfold zmnm
                        rw [if_neg q8, if_neg q21, if_neg q34, if_neg q47, if_neg q60, if_neg q73, if_neg q86, if_neg q100, if_neg q114, if_neg q128]
                      · rfl
                      · rfl
                    · rw [lg_cmp_eq] at q128
                      refine z_bipush (v := 9) C dX10_named_131 (by decide) ?_
                      refine z_goto (tgt := 137) C dX10_named_133 (by decide) ?_
                      refine zs_iret C E dX10_named_137 rfl ?_ ?_ ?_
                      · unfold zmnm
                        rw [if_neg q8, if_neg q21, if_neg q34, if_neg q47, if_neg q60, if_neg q73, if_neg q86, if_neg q100, if_neg q114, if_pos q128]
                      · rfl
                      · rfl
                  · rw [lg_cmp_eq] at q114
                    refine z_bipush (v := 8) C dX10_named_117 (by decide) ?_
                    refine zs_iret C E dX10_named_119 rfl ?_ ?_ ?_
                    · unfold zmnm
                      rw [if_neg q8, if_neg q21, if_neg q34, if_neg q47, if_neg q60, if_neg q73, if_neg q86, if_neg q100, if_pos q114]
                    · rfl
                    · rfl
                · rw [lg_cmp_eq] at q100
                  refine z_bipush (v := 7) C dX10_named_103 (by decide) ?_
                  refine zs_iret C E dX10_named_105 rfl ?_ ?_ ?_
                  · unfold zmnm
                    rw [if_neg q8, if_neg q21, if_neg q34, if_neg q47, if_neg q60, if_neg q73, if_neg q86, if_pos q100]
                  · rfl
                  · rfl
              · rw [lg_cmp_eq] at q86
                refine z_bipush (v := 6) C dX10_named_89 (by decide) ?_
                refine zs_iret C E dX10_named_91 rfl ?_ ?_ ?_
                · unfold zmnm
                  rw [if_neg q8, if_neg q21, if_neg q34, if_neg q47, if_neg q60, if_neg q73, if_pos q86]
                · rfl
                · rfl
            · rw [lg_cmp_eq] at q73
              refine z_iconst (v := 5) C dX10_named_76 (by decide) ?_
              refine zs_iret C E dX10_named_77 rfl ?_ ?_ ?_
              · unfold zmnm
                rw [if_neg q8, if_neg q21, if_neg q34, if_neg q47, if_neg q60, if_pos q73]
              · rfl
              · rfl
          · rw [lg_cmp_eq] at q60
            refine z_iconst (v := 4) C dX10_named_63 (by decide) ?_
            refine zs_iret C E dX10_named_64 rfl ?_ ?_ ?_
            · unfold zmnm
              rw [if_neg q8, if_neg q21, if_neg q34, if_neg q47, if_pos q60]
            · rfl
            · rfl
        · rw [lg_cmp_eq] at q47
          refine z_iconst (v := 3) C dX10_named_50 (by decide) ?_
          refine zs_iret C E dX10_named_51 rfl ?_ ?_ ?_
          · unfold zmnm
            rw [if_neg q8, if_neg q21, if_neg q34, if_pos q47]
          · rfl
          · rfl
      · rw [lg_cmp_eq] at q34
        refine z_iconst (v := 2) C dX10_named_37 (by decide) ?_
        refine zs_iret C E dX10_named_38 rfl ?_ ?_ ?_
        · unfold zmnm
          rw [if_neg q8, if_neg q21, if_pos q34]
        · rfl
        · rfl
    · rw [lg_cmp_eq] at q21
      refine z_iconst (v := 1) C dX10_named_24 (by decide) ?_
      refine zs_iret C E dX10_named_25 rfl ?_ ?_ ?_
      · unfold zmnm
        rw [if_neg q8, if_pos q21]
      · rfl
      · rfl
  · rw [lg_cmp_eq] at q8
    refine z_iconst (v := 0) C dX10_named_11 (by decide) ?_
    refine zs_iret C E dX10_named_12 rfl ?_ ?_ ?_
    · unfold zmnm
      rw [if_pos q8]
    · rfl
    · rfl

theorem zSm.key {κ so nu : Int32} {w : Int64} (h : zSm κ so nu w) (h1 : so = 1) : (w = 2003330414 ∨ w = 25711 ∨ w = 2002872692 ∨ w = 26479 ∨ w = 109299962373989 ∨ w = 28530 ∨ w = 6385252 ∨ w = 7237492) ↔ (200 ≤ κ.toInt ∧ κ.toInt < 208) := by
  have hw := h.s1.1 h1
  refine ⟨fun z => ?_, fun z => ?_⟩
  · rcases z with z | z | z | z | z | z | z | z
    · rw [hw.w0.mp z]; decide
    · rw [hw.w1.mp z]; decide
    · rw [hw.w2.mp z]; decide
    · rw [hw.w3.mp z]; decide
    · rw [hw.w4.mp z]; decide
    · rw [hw.w5.mp z]; decide
    · rw [hw.w6.mp z]; decide
    · rw [hw.w7.mp z]; decide
  · have : κ = 200 ∨ κ = 201 ∨ κ = 202 ∨ κ = 203 ∨ κ = 204 ∨ κ = 205 ∨ κ = 206 ∨ κ = 207 := by
      have e : ∀ c : Int32, κ.toInt = c.toInt → κ = c := fun c => Int32.toInt_inj.mp
      have : κ.toInt = 200 ∨ κ.toInt = 201 ∨ κ.toInt = 202 ∨ κ.toInt = 203 ∨ κ.toInt = 204 ∨ κ.toInt = 205 ∨ κ.toInt = 206 ∨ κ.toInt = 207 := by omega
      rcases this with z | z | z | z | z | z | z | z
      · exact Or.inl (e 200 z)
      · exact Or.inr (Or.inl (e 201 z))
      · exact Or.inr (Or.inr (Or.inl (e 202 z)))
      · exact Or.inr (Or.inr (Or.inr (Or.inl (e 203 z))))
      · exact Or.inr (Or.inr (Or.inr (Or.inr (Or.inl (e 204 z)))))
      · exact Or.inr (Or.inr (Or.inr (Or.inr (Or.inr (Or.inl (e 205 z))))))
      · exact Or.inr (Or.inr (Or.inr (Or.inr (Or.inr (Or.inr (Or.inl (e 206 z)))))))
      · exact Or.inr (Or.inr (Or.inr (Or.inr (Or.inr (Or.inr (Or.inr ((e 207 z))))))))
    rcases this with z | z | z | z | z | z | z | z
    · exact Or.inl (hw.w0.mpr z)
    · exact Or.inr (Or.inl (hw.w1.mpr z))
    · exact Or.inr (Or.inr (Or.inl (hw.w2.mpr z)))
    · exact Or.inr (Or.inr (Or.inr (Or.inl (hw.w3.mpr z))))
    · exact Or.inr (Or.inr (Or.inr (Or.inr (Or.inl (hw.w4.mpr z)))))
    · exact Or.inr (Or.inr (Or.inr (Or.inr (Or.inr (Or.inl (hw.w5.mpr z))))))
    · exact Or.inr (Or.inr (Or.inr (Or.inr (Or.inr (Or.inr (Or.inl (hw.w6.mpr z)))))))
    · exact Or.inr (Or.inr (Or.inr (Or.inr (Or.inr (Or.inr (Or.inr ((hw.w7.mpr z))))))))

theorem zSm.nm {κ so nu : Int32} {w : Int64} (h : zSm κ so nu w) (h1 : so = 1) (hk : ¬ (200 ≤ κ.toInt ∧ κ.toInt < 208)) : (κ = 3 ∧ zmnm w = -1) ∨ ((208 ≤ κ.toInt ∧ κ.toInt < 218) ∧ zmnm w = κ - 208) := by
  have hw := h.s1.1 h1
  have h3 := h.s1.2.mp h1
  rcases h3 with z | z
  · left
    refine ⟨z, ?_⟩
    have n : ∀ c : Int32, ¬ c = 3 → ¬ κ = c := fun c hc q => hc (q ▸ z)
    unfold zmnm
    rw [if_neg (fun q => n 208 (by decide) (hw.w8.mp q)), if_neg (fun q => n 209 (by decide) (hw.w9.mp q)), if_neg (fun q => n 210 (by decide) (hw.w10.mp q)), if_neg (fun q => n 211 (by decide) (hw.w11.mp q)), if_neg (fun q => n 212 (by decide) (hw.w12.mp q)), if_neg (fun q => n 213 (by decide) (hw.w13.mp q)), if_neg (fun q => n 214 (by decide) (hw.w14.mp q)), if_neg (fun q => n 215 (by decide) (hw.w15.mp q)), if_neg (fun q => n 216 (by decide) (hw.w16.mp q)), if_neg (fun q => n 217 (by decide) (hw.w17.mp q))]
  · right
    have hr : 208 ≤ κ.toInt ∧ κ.toInt < 218 := by omega
    refine ⟨hr, ?_⟩
    have : κ.toInt = 208 ∨ κ.toInt = 209 ∨ κ.toInt = 210 ∨ κ.toInt = 211 ∨ κ.toInt = 212 ∨ κ.toInt = 213 ∨ κ.toInt = 214 ∨ κ.toInt = 215 ∨ κ.toInt = 216 ∨ κ.toInt = 217 := by omega
    have e : ∀ c : Int32, κ.toInt = c.toInt → κ = c := fun c => Int32.toInt_inj.mp
    rcases this with z | z | z | z | z | z | z | z | z | z
    · have z := e 208 z
      have := hw.w8.mpr z
      subst z
      rw [this]
      decide
    · have z := e 209 z
      have := hw.w9.mpr z
      subst z
      rw [this]
      decide
    · have z := e 210 z
      have := hw.w10.mpr z
      subst z
      rw [this]
      decide
    · have z := e 211 z
      have := hw.w11.mpr z
      subst z
      rw [this]
      decide
    · have z := e 212 z
      have := hw.w12.mpr z
      subst z
      rw [this]
      decide
    · have z := e 213 z
      have := hw.w13.mpr z
      subst z
      rw [this]
      decide
    · have z := e 214 z
      have := hw.w14.mpr z
      subst z
      rw [this]
      decide
    · have z := e 215 z
      have := hw.w15.mpr z
      subst z
      rw [this]
      decide
    · have z := e 216 z
      have := hw.w16.mpr z
      subst z
      rw [this]
      decide
    · have z := e 217 z
      have := hw.w17.mpr z
      subst z
      rw [this]
      decide

set_option maxRecDepth 4000 in
theorem m_wrong (n : Nat) (iv : zI) (lw : zG) (h0 : iv 41 40 = 0) (wh : Int32) : zMv yX10_wrong cX10_wrong 2 none 0 [.ref 41, .int wh] n iv lw (zu (zu iv 41 40 (if iv 41 44 = 3 then 1 else wh)) 41 41 (iv 41 45)) lw := by
  refine zM.of (by decide) (Nat.le_of_ble_eq_true rfl) (fun X C E => ?_)
  change zJs X n 2 0 [some (.ref 41), some (.int wh)] [] iv lw
  refine z_aload_n C dX10_wrong_0 rfl ?_
  refine z_getI C dX10_wrong_1 zf_X10_250 zk_41 (by decide) ?_
  refine zt_if_le (tgt := 8) C dX10_wrong_4 (show (iv 41 40).toInt = 0 by rw [h0]; decide) (by decide) (fun q4 => ?_) (fun q4 => ?_)
  · refine z_aload_n C dX10_wrong_8 rfl ?_
    refine z_aload_n C dX10_wrong_9 rfl ?_
    refine z_getI C dX10_wrong_10 zf_X10_238 zk_41 (by decide) ?_
    refine z_iconst (v := 3) C dX10_wrong_13 (by decide) ?_
    refine z_icmp_ne (tgt := 21) C dX10_wrong_14 (by decide) (fun q14 => ?_) (fun q14 => ?_)
    · refine z_iload_n C dX10_wrong_21 rfl ?_
      refine z_putI C dX10_wrong_22 zf_X10_250 zk_41 (by decide) ?_
      refine z_aload_n C dX10_wrong_25 rfl ?_
      refine z_aload_n C dX10_wrong_26 rfl ?_
      refine z_getI C dX10_wrong_27 zf_X10_228 zk_41 (by decide) ?_
      refine z_putI C dX10_wrong_30 zf_X10_107 zk_41 (by decide) ?_
      refine zs_vret C E dX10_wrong_33 ?_ rfl
      rw [if_neg q14]
      rfl
    · refine z_iconst (v := 1) C dX10_wrong_17 (by decide) ?_
      refine z_goto (tgt := 22) C dX10_wrong_18 (by decide) ?_
      refine z_putI C dX10_wrong_22 zf_X10_250 zk_41 (by decide) ?_
      refine z_aload_n C dX10_wrong_25 rfl ?_
      refine z_aload_n C dX10_wrong_26 rfl ?_
      refine z_getI C dX10_wrong_27 zf_X10_228 zk_41 (by decide) ?_
      refine z_putI C dX10_wrong_30 zf_X10_107 zk_41 (by decide) ?_
      refine zs_vret C E dX10_wrong_33 ?_ rfl
      rw [if_pos q14]
      rfl
  · exact absurd q4 (by decide)

set_option maxRecDepth 4000 in
theorem m_step (n : Nat) (iv : zI) (lw : zG) (m : Nat) (hm : iv 41 36 = nI m) (hm5 : m < 500) (wh nu : Int32) : zMv yX10_step cX10_step 3 none 0 [.ref 41, .int wh, .int nu] n iv lw (zu (zu (zu iv 68 m wh) 69 m nu) 41 36 (nI (m + 1))) lw := by
  refine zM.of (by decide) (Nat.le_of_ble_eq_true rfl) (fun X C E => ?_)
  change zJs X n 3 0 [some (.ref 41), some (.int wh), some (.int nu)] [] iv lw
  refine z_aload_n C dX10_step_0 rfl ?_
  refine zs_getR C dX10_step_1 zf_X10_92 zk_41 (by decide) (zr_41_31 n) ?_
  refine z_aload_n C dX10_step_4 rfl ?_
  refine z_getI C dX10_step_5 zf_X10_289 zk_41 (by decide) ?_
  refine z_iload_n C dX10_step_8 rfl ?_
  refine z_iast C dX10_step_9 zk_68 (by decide) ?_ ?_
  · rw [hm]
    exact vp_in_nI (by omega) (by decide)
  refine z_aload_n C dX10_step_10 rfl ?_
  refine zs_getR C dX10_step_11 zf_X10_95 zk_41 (by decide) (zr_41_32 n) ?_
  refine z_aload_n C dX10_step_14 rfl ?_
  refine z_getI C dX10_step_15 zf_X10_289 zk_41 (by decide) ?_
  refine z_iload_n C dX10_step_18 rfl ?_
  refine z_iast C dX10_step_19 zk_69 (by decide) ?_ ?_
  · show vp_in (iv 41 36) 500
    rw [hm]
    exact vp_in_nI (by omega) (by decide)
  refine z_aload_n C dX10_step_20 rfl ?_
  refine z_dup C dX10_step_21 rfl ?_
  refine z_getI C dX10_step_22 zf_X10_289 zk_41 (by decide) ?_
  refine z_iconst (v := 1) C dX10_step_25 (by decide) ?_
  refine z_iadd C dX10_step_26 ?_
  refine z_putI C dX10_step_27 zf_X10_289 zk_41 (by decide) ?_
  refine zs_vret C E dX10_step_30 ?_ rfl
  rw [show zu (zu iv 68 (iv 41 36).toNatClampNeg wh) 69 (zu iv 68 (iv 41 36).toNatClampNeg wh 41 36).toNatClampNeg nu 41 36 = nI m from hm, show zu iv 68 (iv 41 36).toNatClampNeg wh 41 36 = nI m from hm, hm, nI_clamp (by omega), nI_1]

set_option maxRecDepth 4000 in
theorem m_hold (n : Nat) (iv : zI) (lw : zG) (m : Nat) (hm : iv 41 49 = nI m) (hm5 : m < 400) (wh : Int32) : zMv yX10_hold cX10_hold 2 none 0 [.ref 41, .int wh] n iv lw (if wh = 48 ∨ wh = 40 then zu (zu (zu iv 73 m wh) 41 49 (nI (m + 1))) 41 50 (iv 41 50 + 1) else zu (zu iv 73 m wh) 41 49 (nI (m + 1))) lw := by
  refine zM.of (by decide) (Nat.le_of_ble_eq_true rfl) (fun X C E => ?_)
  change zJs X n 2 0 [some (.ref 41), some (.int wh)] [] iv lw
  refine z_aload_n C dX10_hold_0 rfl ?_
  refine zs_getR C dX10_hold_1 zf_X10_110 zk_41 (by decide) (zr_41_48 n) ?_
  refine z_aload_n C dX10_hold_4 rfl ?_
  refine z_getI C dX10_hold_5 zf_X10_292 zk_41 (by decide) ?_
  refine z_iload_n C dX10_hold_8 rfl ?_
  refine z_iast C dX10_hold_9 zk_73 (by decide) ?_ ?_
  · rw [hm]
    exact vp_in_nI (by omega) (by decide)
  refine z_aload_n C dX10_hold_10 rfl ?_
  refine z_dup C dX10_hold_11 rfl ?_
  refine z_getI C dX10_hold_12 zf_X10_292 zk_41 (by decide) ?_
  refine z_iconst (v := 1) C dX10_hold_15 (by decide) ?_
  refine z_iadd C dX10_hold_16 ?_
  rw [show zu iv 73 (iv 41 49).toNatClampNeg wh 41 49 = nI m from hm, nI_1, hm, nI_clamp (show m < 2 ^ 31 by omega)]
  refine z_putI C dX10_hold_17 zf_X10_292 zk_41 (by decide) ?_
  refine z_iload_n C dX10_hold_20 rfl ?_
  refine z_bipush (v := 48) C dX10_hold_21 (by decide) ?_
  refine z_icmp_eq (tgt := 32) C dX10_hold_23 (by decide) (fun q23 => ?_) (fun q23 => ?_)
  · refine z_aload_n C dX10_hold_32 rfl ?_
    refine z_dup C dX10_hold_33 rfl ?_
    refine z_getI C dX10_hold_34 zf_X10_295 zk_41 (by decide) ?_
    refine z_iconst (v := 1) C dX10_hold_37 (by decide) ?_
    refine z_iadd C dX10_hold_38 ?_
    refine z_putI C dX10_hold_39 zf_X10_295 zk_41 (by decide) ?_
    refine zs_vret C E dX10_hold_42 ?_ rfl
    rw [if_pos (Or.inl q23)]
    rfl
  · refine z_iload_n C dX10_hold_26 rfl ?_
    refine z_bipush (v := 40) C dX10_hold_27 (by decide) ?_
    refine z_icmp_ne (tgt := 42) C dX10_hold_29 (by decide) (fun q29 => ?_) (fun q29 => ?_)
    · refine zs_vret C E dX10_hold_42 ?_ rfl
      rw [if_neg (fun z => z.elim q23 q29)]
    · refine z_aload_n C dX10_hold_32 rfl ?_
      refine z_dup C dX10_hold_33 rfl ?_
      refine z_getI C dX10_hold_34 zf_X10_295 zk_41 (by decide) ?_
      refine z_iconst (v := 1) C dX10_hold_37 (by decide) ?_
      refine z_iadd C dX10_hold_38 ?_
      refine z_putI C dX10_hold_39 zf_X10_295 zk_41 (by decide) ?_
      refine zs_vret C E dX10_hold_42 ?_ rfl
      rw [if_pos (Or.inr q29)]
      rfl
