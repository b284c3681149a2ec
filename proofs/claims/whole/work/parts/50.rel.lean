/-! the relation between a State's value and the reference's row -/
def pl (x : Int32) : Int32 := if x = -1 then -10000005 else x
def PR (x : Int32) : Prop := x = -2 ∨ x = -1 ∨ ∃ b, b < 5 ∧ x = nI b
theorem pl_van {x : Int32} (h : PR x) : pl x = -10000005 ↔ x = -1 := by
  unfold pl
  rcases h with rfl | rfl | ⟨b, hb, rfl⟩
  · decide
  · decide
  · rcases (show b = 0 ∨ b = 1 ∨ b = 2 ∨ b = 3 ∨ b = 4 by omega) with rfl | rfl | rfl | rfl | rfl <;> decide
theorem pl_gone {x : Int32} (h : PR x) : pl x = -2 ↔ x = -2 := by
  unfold pl
  rcases h with rfl | rfl | ⟨b, hb, rfl⟩
  · decide
  · decide
  · rcases (show b = 0 ∨ b = 1 ∨ b = 2 ∨ b = 3 ∨ b = 4 by omega) with rfl | rfl | rfl | rfl | rfl <;> decide
theorem pl_barn {x : Int32} (h : PR x) {b : Nat} (hb : b < 5) : pl x = nI b ↔ x = nI b := by
  unfold pl
  rcases h with rfl | rfl | ⟨c, hc, rfl⟩
  · rcases (show b = 0 ∨ b = 1 ∨ b = 2 ∨ b = 3 ∨ b = 4 by omega) with rfl | rfl | rfl | rfl | rfl <;> decide
  · rcases (show b = 0 ∨ b = 1 ∨ b = 2 ∨ b = 3 ∨ b = 4 by omega) with rfl | rfl | rfl | rfl | rfl <;> decide
  · rw [if_neg]
    rcases (show c = 0 ∨ c = 1 ∨ c = 2 ∨ c = 3 ∨ c = 4 by omega) with rfl | rfl | rfl | rfl | rfl <;> decide
/-- reels -/
def RRel (r : RV) (s : Nat → Int32) : Prop := ∀ j, j < 10 → (s (5 * j + 0) = pl (r.1 j) ∧ s (5 * j + 1) = r.2.1 j ∧ s (5 * j + 2) = r.2.2.1 j ∧ s (5 * j + 3) = r.2.2.2.1 j ∧ s (5 * j + 4) = r.2.2.2.2 j) ∧ PR (r.1 j) ∧ (∃ w, w < 40 ∧ r.2.2.1 j = nI w) ∧ (¬ r.1 j = -2 → ∃ m, m < 18 ∧ r.2.1 j = nI m) ∧ ∃ p, p < 32 ∧ r.2.2.2.2 j = nI p
/-- generators -/
def GRel (g : GV) (s : Nat → Int32) : Prop := ∀ j, j < 2 → s (50 + 2 * j) = pl (g.1 j) ∧ s (50 + 2 * j + 1) = g.2 j ∧ PR (g.1 j)
theorem bit_b : ∀ b, b < 5 → ∀ p, p < 32 → (((nI p >>> (nI b &&& 31)) &&& 1 = 0) ↔ (nI p &&& (1 <<< (nI b &&& 31)) = 0)) := by decide +kernel
theorem bit_or : ∀ b, b < 5 → ∀ p, p < 32 → ∃ q, q < 32 ∧ nI p ||| (1 <<< (nI b &&& 31)) = nI q := by
  have h : ∀ b, b < 5 → ∀ p, p < 32 → (nI p ||| (1 <<< (nI b &&& 31))) = nI (p ||| 2 ^ b) := by decide +kernel
  intro b hb p hp
  refine ⟨p ||| 2 ^ b, ?_, h b hb p hp⟩
  have h2 : ∀ b, b < 5 → ∀ p, p < 32 → p ||| 2 ^ b < 32 := by decide +kernel
  exact h2 b hb p hp
section RR
variable {r : RV} {s : Nat → Int32} (h : RRel r s)
theorem rr_wok (h : RRel r s) : WOK r := fun j hj => (h j hj).2.2.1
theorem rr_mok (h : RRel r s) : MOK r := fun j hj => (h j hj).2.2.2.1
theorem rr_wm (h : RRel r s) : WM s := fun j hj => by
  obtain ⟨w, a, b⟩ := (h j hj).2.2.1
  exact ⟨w, a, by rw [(h j hj).1.2.2.1]; exact b⟩
theorem rr_mm (h : RRel r s) : MM s := fun j hj hg => by
  obtain ⟨m, a, b⟩ := (h j hj).2.2.2.1 (fun e => hg (by rw [(h j hj).1.1]; exact (pl_gone (h j hj).2.1).mpr e))
  exact ⟨m, a, by rw [(h j hj).1.2.1]; exact b⟩
/-- how many reels are at a place -/
theorem num_van (h : RRel r s) : lp_X4_numberAt_4 r (-1) 0 10 = lp_X10_inVan_4 s 0 10 := by
  have key : ∀ k, k ≤ 10 → lp_X4_numberAt_4 r (-1) 0 k = lp_X10_inVan_4 s 0 k := by
    intro k
    induction k with
    | zero => intro _; rfl
    | succ k ih =>
      intro hk
      rw [lp_X4_numberAt_4_s, lp_X10_inVan_4_s, ih (by omega)]
      unfold st_X4_numberAt_4 st_X10_inVan_4
      have e := pl_van (h k (by omega)).2.1
      rw [← (h k (by omega)).1.1] at e
      by_cases c : r.1 k = -1
      · rw [if_pos c, if_pos (e.mpr c)]
      · rw [if_neg c, if_neg (fun q => c (e.mp q)), Int32.add_zero]
  exact key 10 (Nat.le_refl _)
theorem num_gone (h : RRel r s) : f_X4_numberAt r (-2) = f_X10_gone s := by
  have key : ∀ k, k ≤ 10 → lp_X4_numberAt_4 r (-2) 0 k = lp_X10_gone_4 s 0 k := by
    intro k
    induction k with
    | zero => intro _; rfl
    | succ k ih =>
      intro hk
      rw [lp_X4_numberAt_4_s, lp_X10_gone_4_s, ih (by omega)]
      unfold st_X4_numberAt_4 st_X10_gone_4
      have e := pl_gone (h k (by omega)).2.1
      rw [← (h k (by omega)).1.1] at e
      by_cases c : r.1 k = -2
      · rw [if_pos c, if_pos (e.mpr c)]
      · rw [if_neg c, if_neg (fun q => c (e.mp q)), Int32.add_zero]
  exact key 10 (Nat.le_refl _)
theorem num_barn (h : RRel r s) {b : Nat} (hb : b < 5) : f_X4_numberAt r (nI b) = f_X10_reels s (nI b) 0 := by
  have key : ∀ k, k ≤ 10 → lp_X4_numberAt_4 r (nI b) 0 k = lp_X10_reels_5 s (nI b) 0 0 k := by
    intro k
    induction k with
    | zero => intro _; rfl
    | succ k ih =>
      intro hk
      rw [lp_X4_numberAt_4_s, lp_X10_reels_5_s, ih (by omega)]
      unfold st_X4_numberAt_4 st_X10_reels_5
      have e := pl_barn (h k (by omega)).2.1 hb
      rw [← (h k (by omega)).1.1] at e
      by_cases c : r.1 k = nI b
      · rw [if_pos c, if_pos (e.mpr c), if_pos rfl, if_pos rfl]; split <;> rfl
      · rw [if_neg c, if_neg (fun q => c (e.mp q))]; split <;> rfl
  exact key 10 (Nat.le_refl _)
theorem min_barn (h : RRel r s) {b : Nat} (hb : b < 5) : f_X4_minutesIn r (nI b) = f_X10_reels s (nI b) 1 := by
  have key : ∀ k, k ≤ 10 → lp_X4_minutesIn_4 r (nI b) 0 k = lp_X10_reels_5 s (nI b) 1 0 k := by
    intro k
    induction k with
    | zero => intro _; rfl
    | succ k ih =>
      intro hk
      rw [lp_X4_minutesIn_4_s, lp_X10_reels_5_s, ih (by omega)]
      unfold st_X4_minutesIn_4 st_X10_reels_5
      have e := pl_barn (h k (by omega)).2.1 hb
      rw [← (h k (by omega)).1.1] at e
      by_cases c : r.1 k = nI b
      · rw [if_pos c, if_pos (e.mpr c), if_neg (show ¬ (1 : Int32) = 0 by decide), if_pos rfl, (h k (by omega)).1.2.1]; split <;> rfl
      · rw [if_neg c, if_neg (fun q => c (e.mp q))]; split <;> rfl
  exact key 10 (Nat.le_refl _)
theorem fresh_barn (h : RRel r s) {b : Nat} (hb : b < 5) : f_X4_freshIn r (nI b) = f_X10_reels s (nI b) 3 := by
  have key : ∀ k, k ≤ 10 → lp_X4_freshIn_4 r (nI b) 0 k = lp_X10_reels_5 s (nI b) 3 0 k := by
    intro k
    induction k with
    | zero => intro _; rfl
    | succ k ih =>
      intro hk
      rw [lp_X4_freshIn_4_s, lp_X10_reels_5_s, ih (by omega)]
      unfold st_X4_freshIn_4 st_X10_reels_5
      have e := pl_barn (h k (by omega)).2.1 hb
      rw [← (h k (by omega)).1.1] at e
      obtain ⟨p, hp, e2⟩ := (h k (by omega)).2.2.2.2
      have e3 := bit_b b hb p hp
      rw [← e2] at e3
      rw [(h k (by omega)).1.2.2.2.2]
      by_cases c : r.1 k = nI b
      · rw [if_pos c, if_pos (e.mpr c)]
        by_cases d : r.2.2.2.2 k &&& 1 <<< (nI b &&& 31) = 0
        · rw [if_pos d, if_pos (e3.mpr d), if_neg (show ¬ (3 : Int32) = 0 by decide), if_neg (show ¬ (3 : Int32) = 1 by decide), if_neg (show ¬ (3 : Int32) = 2 by decide)]
        · rw [if_neg d, if_neg (fun q => d (e3.mp q)), if_neg (show ¬ (3 : Int32) = 0 by decide), if_neg (show ¬ (3 : Int32) = 1 by decide), if_neg (show ¬ (3 : Int32) = 2 by decide)]
      · rw [if_neg c, if_neg (fun q => c (e.mp q))]; split <;> rfl
  exact key 10 (Nat.le_refl _)
theorem wear_barn (h : RRel r s) {b : Nat} (hb : b < 5) : f_X4_mostWearIn r (nI b) = f_X10_reels s (nI b) 2 := by
  have key : ∀ k, k ≤ 10 → lp_X4_mostWearIn_4 r (nI b) 0 k = lp_X10_reels_5 s (nI b) 2 0 k := by
    intro k
    induction k with
    | zero => intro _; rfl
    | succ k ih =>
      intro hk
      rw [lp_X4_mostWearIn_4_s, lp_X10_reels_5_s, ih (by omega)]
      unfold st_X4_mostWearIn_4 st_X10_reels_5
      have e := pl_barn (h k (by omega)).2.1 hb
      rw [← (h k (by omega)).1.1] at e
      rw [(h k (by omega)).1.2.2.1]
      generalize lp_X10_reels_5 s (nI b) 2 0 k = q
      have key2 : (if q < r.2.2.1 k then r.2.2.1 k else q) = (if r.2.2.1 k ≤ q then q else r.2.2.1 k) := by
        by_cases d : q < r.2.2.1 k
        · rw [if_pos d, if_neg (fun z => Int32.not_le.mpr d z)]
        · rw [if_neg d, if_pos (Int32.not_lt.mp d)]
      by_cases c : r.1 k = nI b
      · rw [if_pos c, if_pos (e.mpr c), key2]
        by_cases d : (s (5 * k + 4) >>> (nI b &&& 31)) &&& 1 = 0
        · rw [if_pos d, if_neg (show ¬ (2 : Int32) = 0 by decide), if_neg (show ¬ (2 : Int32) = 1 by decide), if_pos (show (2 : Int32) = 2 from rfl)]
        · rw [if_neg d, if_neg (show ¬ (2 : Int32) = 0 by decide), if_neg (show ¬ (2 : Int32) = 1 by decide), if_pos (show (2 : Int32) = 2 from rfl)]
      · rw [if_neg c, if_neg (fun q => c (e.mp q))]; split <;> rfl
  exact key 10 (Nat.le_refl _)
end RR
