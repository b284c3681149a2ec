/-! what is told, both sides -/
theorem gp_van {x : Int32} (h : PR x) : (pl x = -10000005) = (x = -1) := propext (pl_van h)
section GG
variable {g : GV} {s : Nat → Int32}
theorem num2 (g : GV) (x : Int32) : f_X2_numberAt g x = (if g.1 1 = x then (if g.1 0 = x then 0 + 1 else 0) + 1 else (if g.1 0 = x then 0 + 1 else 0)) := rfl
/-- the things in the van -/
theorem things {r : RV} (h : RRel r s) (k : GRel g s) : f_X4_numberAt r (-1) + f_X2_numberAt g (-1) = f_X10_inVan s := by
  have e0 := pl_van (k 0 (by omega)).2.2
  have e1 := pl_van (k 1 (by omega)).2.2
  rw [← (k 0 (by omega)).1] at e0
  rw [← (k 1 (by omega)).1] at e1
  have hn := num_van h
  rw [num2]
  unfold f_X4_numberAt f_X4_numberAt_q4 f_X10_inVan
  rw [hn]
  generalize lp_X10_inVan_4 s 0 10 = q
  unfold f_X10_inVan_4_x
  by_cases c0 : g.1 0 = -1
  · by_cases c1 : g.1 1 = -1
    · rw [if_pos c1, if_pos c0, if_pos (e0.mpr c0), if_pos (e1.mpr c1)]; simp only [Int32.zero_add, Int32.add_zero, Int32.add_assoc]
    · rw [if_neg c1, if_pos c0, if_pos (e0.mpr c0), if_neg (fun z => c1 (e1.mp z))]; simp only [Int32.zero_add, Int32.add_zero, Int32.add_assoc]
  · by_cases c1 : g.1 1 = -1
    · rw [if_pos c1, if_neg c0, if_neg (fun z => c0 (e0.mp z)), if_pos (e1.mpr c1)]; simp only [Int32.zero_add, Int32.add_zero, Int32.add_assoc]
    · rw [if_neg c1, if_neg c0, if_neg (fun z => c0 (e0.mp z)), if_neg (fun z => c1 (e1.mp z))]; simp only [Int32.zero_add, Int32.add_zero, Int32.add_assoc]
/-- the lowest generator with fuel enough: the same one, or none -/
theorem lowest (k : GRel g s) {b : Nat} (hb : b < 5) (y : Int32) : (f_X2_lowestWith g (nI b) y = -1 ∧ f_X10_generatorFor s (nI b) y = -10000005) ∨ (f_X2_lowestWith g (nI b) y = f_X10_generatorFor s (nI b) y ∧ (f_X10_generatorFor s (nI b) y = 0 ∨ f_X10_generatorFor s (nI b) y = 1)) := by
  have e0 := pl_barn (k 0 (by omega)).2.2 hb
  have e1 := pl_barn (k 1 (by omega)).2.2 hb
  rw [← (k 0 (by omega)).1] at e0
  rw [← (k 1 (by omega)).1] at e1
  have m0 := (k 0 (by omega)).2.1
  have m1 := (k 1 (by omega)).2.1
  unfold f_X2_lowestWith f_X10_generatorFor
  by_cases c0 : g.1 0 = nI b
  · rw [if_pos c0, if_pos (e0.mpr c0), m0]
    by_cases d0 : g.2 0 < y
    · rw [if_pos d0, if_pos d0]
      by_cases c1 : g.1 1 = nI b
      · rw [if_pos c1, if_pos (e1.mpr c1), m1]
        by_cases d1 : g.2 1 < y
        · rw [if_pos d1, if_pos d1]; exact Or.inl ⟨rfl, rfl⟩
        · rw [if_neg d1, if_neg d1]; exact Or.inr ⟨rfl, Or.inr rfl⟩
      · rw [if_neg c1, if_neg (fun z => c1 (e1.mp z))]; exact Or.inl ⟨rfl, rfl⟩
    · rw [if_neg d0, if_neg d0]; exact Or.inr ⟨rfl, Or.inl rfl⟩
  · rw [if_neg c0, if_neg (fun z => c0 (e0.mp z))]
    by_cases c1 : g.1 1 = nI b
    · rw [if_pos c1, if_pos (e1.mpr c1), m1]
      by_cases d1 : g.2 1 < y
      · rw [if_pos d1, if_pos d1]; exact Or.inl ⟨rfl, rfl⟩
      · rw [if_neg d1, if_neg d1]; exact Or.inr ⟨rfl, Or.inr rfl⟩
    · rw [if_neg c1, if_neg (fun z => c1 (e1.mp z))]; exact Or.inl ⟨rfl, rfl⟩
end GG
