/-! a new object of the class against a new one of the reference -/
theorem in_row : (∀ j, j < 10 → (f_X10_init.1 (5 * j + 0) = -10000005 ∧ f_X10_init.1 (5 * j + 1) = nI (8 + j) ∧ f_X10_init.1 (5 * j + 2) = 0 ∧ f_X10_init.1 (5 * j + 3) = 0 ∧ f_X10_init.1 (5 * j + 4) = 0)) ∧ (∀ j, j < 2 → f_X10_init.1 (50 + 2 * j) = -10000005 ∧ f_X10_init.1 (50 + 2 * j + 1) = 60) ∧ f_X10_init.1 54 = 0 ∧ f_X10_init.1 55 = 0 ∧ f_X10_init.1 56 = 4 := by decide +kernel
theorem in_row2 : ∀ j, j < 108 → 57 ≤ j → f_X10_init.1 j = 0 := by decide +kernel
theorem in_reels : (∀ j, j < 10 → f_X4_init.1 j = -1 ∧ f_X4_init.2.1 j = nI (8 + j) ∧ f_X4_init.2.2.1 j = 0 ∧ f_X4_init.2.2.2.1 j = 0 ∧ f_X4_init.2.2.2.2 j = 0) ∧ ∀ j, j < 2 → f_X2_init.1 j = -1 ∧ f_X2_init.2 j = 60 := by decide +kernel
theorem rs_init : RS 0 f_X7_init f_X10_init.1 := by
  obtain ⟨a1, a2, a3, a4, a5⟩ := in_row
  obtain ⟨b1, b2⟩ := in_reels
  have z := in_row2
  refine rs_mk (v := f_X7_init) ?_ ?_ ?_ (dd := 0) (by omega) rfl a4 ?_ ?_ ?_ (b := 0) (by omega) rfl a3 a5 ⟨4, by omega, by omega, rfl⟩
  · intro j hj
    obtain ⟨c0, c1, c2, c3, c4⟩ := a1 j hj
    obtain ⟨e0, e1, e2, e3, e4⟩ := b1 j hj
    show (f_X10_init.1 (5 * j + 0) = pl (f_X4_init.1 j) ∧ f_X10_init.1 (5 * j + 1) = f_X4_init.2.1 j ∧ f_X10_init.1 (5 * j + 2) = f_X4_init.2.2.1 j ∧ f_X10_init.1 (5 * j + 3) = f_X4_init.2.2.2.1 j ∧ f_X10_init.1 (5 * j + 4) = f_X4_init.2.2.2.2 j) ∧ PR (f_X4_init.1 j) ∧ (∃ w, w < 40 ∧ f_X4_init.2.2.1 j = nI w) ∧ (¬ f_X4_init.1 j = -2 → ∃ m, m < 18 ∧ f_X4_init.2.1 j = nI m) ∧ ∃ p, p < 32 ∧ f_X4_init.2.2.2.2 j = nI p
    rw [c0, c1, c2, c3, c4, e0, e1, e2, e3, e4]
    exact ⟨⟨by decide, rfl, rfl, rfl, rfl⟩, pr_van, ⟨0, by omega, rfl⟩, fun _ => ⟨8 + j, by omega, rfl⟩, ⟨0, by omega, rfl⟩⟩
  · intro j hj
    obtain ⟨c0, c1⟩ := a2 j hj
    obtain ⟨e0, e1⟩ := b2 j hj
    show f_X10_init.1 (50 + 2 * j) = pl (f_X2_init.1 j) ∧ f_X10_init.1 (50 + 2 * j + 1) = f_X2_init.2 j ∧ PR (f_X2_init.1 j)
    rw [c0, c1, e0, e1]
    exact ⟨by decide, rfl, pr_van⟩
  · intro j hj
    obtain ⟨e0, e1⟩ := b2 j hj
    exact ⟨60, by omega, e1⟩
  · intro x hx
    refine ⟨⟨0, 0, by omega, by omega, rfl, rfl, ?_⟩, z _ (by omega) (by omega), z _ (by omega) (by omega)⟩
    rw [if_neg (by omega)]; exact z _ (by omega) (by omega)
  · exact ⟨⟨0, by omega, rfl⟩, z 77 (by omega) (by omega), fun j hj => z _ (by omega) (by omega)⟩
  · refine ⟨z 72 (by omega) (by omega), z 73 (by omega) (by omega), z 74 (by omega) (by omega), z 75 (by omega) (by omega), z 76 (by omega) (by omega), ?_, ?_⟩
    · rw [z 67 (by omega) (by omega), z 68 (by omega) (by omega), z 69 (by omega) (by omega), z 70 (by omega) (by omega), z 71 (by omega) (by omega)]; rfl
    · rw [z 62 (by omega) (by omega), z 63 (by omega) (by omega), z 64 (by omega) (by omega), z 65 (by omega) (by omega), z 66 (by omega) (by omega)]; rfl
theorem rel_init : REL 0 f_X9_init f_X10_init := ⟨rs_init, ⟨0, 0, by omega, by omega, rfl, rfl, rfl, fun i hi => absurd hi (by omega)⟩, ⟨0, by omega, rfl, rfl, fun j hj => absurd hj (by omega)⟩, Or.inl ⟨rfl, rfl⟩, Or.inl ⟨rfl, rfl, rfl⟩⟩
