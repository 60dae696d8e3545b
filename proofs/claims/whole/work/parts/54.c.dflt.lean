theorem df_0 : ∀ k, k < nf 0 → defaultValue (tyX0 k) = dvV (tc 0 k) := by
  intro k hk
  have hk : k < 3 := hk
  rcases (show k = 0 ∨ k = 1 ∨ k = 2 by omega) with rfl | rfl | rfl <;> rfl
theorem df_1 : ∀ k, k < nf 1 → defaultValue (tyX1 k) = dvV (tc 1 k) := by
  intro k hk
  have hk : k < 4 := hk
  rcases (show k = 0 ∨ k = 1 ∨ k = 2 ∨ k = 3 by omega) with rfl | rfl | rfl | rfl <;> rfl
theorem df_2 : ∀ k, k < nf 2 → defaultValue (tyX2 k) = dvV (tc 2 k) := by
  intro k hk
  have hk : k < 2 := hk
  rcases (show k = 0 ∨ k = 1 by omega) with rfl | rfl <;> rfl
theorem df_3 : ∀ k, k < nf 3 → defaultValue (tyX3 k) = dvV (tc 3 k) := by
  intro k hk
  have hk : k < 3 := hk
  rcases (show k = 0 ∨ k = 1 ∨ k = 2 by omega) with rfl | rfl | rfl <;> rfl
theorem df_4 : ∀ k, k < nf 4 → defaultValue (tyX5 k) = dvV (tc 4 k) := by
  intro k hk
  have hk : k < 6 := hk
  rcases (show k = 0 ∨ k = 1 ∨ k = 2 ∨ k = 3 ∨ k = 4 ∨ k = 5 by omega) with rfl | rfl | rfl | rfl | rfl | rfl <;> rfl
theorem df_5 : ∀ k, k < nf 5 → defaultValue (tyX6 k) = dvV (tc 5 k) := by
  intro k hk
  have hk : k < 4 := hk
  rcases (show k = 0 ∨ k = 1 ∨ k = 2 ∨ k = 3 by omega) with rfl | rfl | rfl | rfl <;> rfl
theorem df_6 : ∀ k, k < nf 6 → defaultValue (tyX7 k) = dvV (tc 6 k) := by
  intro k hk
  have hk : k < 3 := hk
  rcases (show k = 0 ∨ k = 1 ∨ k = 2 by omega) with rfl | rfl | rfl <;> rfl
theorem df_7 : ∀ k, k < nf 7 → defaultValue (tyX8 k) = dvV (tc 7 k) := by
  intro k hk
  have hk : k < 3 := hk
  rcases (show k = 0 ∨ k = 1 ∨ k = 2 by omega) with rfl | rfl | rfl <;> rfl
theorem df_8 : ∀ k, k < nf 8 → defaultValue (tyX9 k) = dvV (tc 8 k) := by
  intro k hk
  have hk : k < 6 := hk
  rcases (show k = 0 ∨ k = 1 ∨ k = 2 ∨ k = 3 ∨ k = 4 ∨ k = 5 by omega) with rfl | rfl | rfl | rfl | rfl | rfl <;> rfl
theorem df_9 : ∀ k, k < nf 9 → defaultValue (tyX10 k) = dvV (tc 9 k) := by
  intro k hk
  have hk : k < 3 := hk
  rcases (show k = 0 ∨ k = 1 ∨ k = 2 by omega) with rfl | rfl | rfl <;> rfl
theorem df_10 : ∀ k, k < nf 10 → defaultValue (tyX11 k) = dvV (tc 10 k) := by
  intro k hk
  have hk : k < 10 := hk
  rcases (show k = 0 ∨ k = 1 ∨ k = 2 ∨ k = 3 ∨ k = 4 ∨ k = 5 ∨ k = 6 ∨ k = 7 ∨ k = 8 ∨ k = 9 by omega) with rfl | rfl | rfl | rfl | rfl | rfl | rfl | rfl | rfl | rfl <;> rfl
theorem df_11 : ∀ k, k < nf 11 → defaultValue (tyX12 k) = dvV (tc 11 k) := by
  intro k hk
  have hk : k < 17 := hk
  rcases (show k = 0 ∨ k = 1 ∨ k = 2 ∨ k = 3 ∨ k = 4 ∨ k = 5 ∨ k = 6 ∨ k = 7 ∨ k = 8 ∨ k = 9 ∨ k = 10 ∨ k = 11 ∨ k = 12 ∨ k = 13 ∨ k = 14 ∨ k = 15 ∨ k = 16 by omega) with rfl | rfl | rfl | rfl | rfl | rfl | rfl | rfl | rfl | rfl | rfl | rfl | rfl | rfl | rfl | rfl | rfl <;> rfl
