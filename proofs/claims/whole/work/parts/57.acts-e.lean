/-! a show: all the prints, the log, what is small -/
theorem play_all {r : RV} {i0 s : Nat → Int32} (h : RRel r i0) {b : Nat} (hb : b < 5) : ∀ k, k ≤ 10 → RRel (lp_X4_playAllIn_4 r (nI b) b (0, r) k).2 (lp_X10_shows_49 s (nI b) b i0 k) ∧ lp_X10_shows_49 s (nI b) b i0 k 76 = i0 76 + (lp_X4_playAllIn_4 r (nI b) b (0, r) k).1 ∧ ∀ a, 50 ≤ a → a ≠ 76 → lp_X10_shows_49 s (nI b) b i0 k a = i0 a := by
  intro k
  induction k with
  | zero => intro _; exact ⟨h, (Int32.add_zero _).symm, fun _ _ _ => rfl⟩
  | succ k ih =>
    intro hk
    obtain ⟨a1, a2, a3⟩ := ih (by omega)
    rw [lp_X4_playAllIn_4_s, lp_X10_shows_49_s]
    generalize lp_X4_playAllIn_4 r (nI b) b (0, r) k = P at a1 a2 ⊢
    generalize lp_X10_shows_49 s (nI b) b i0 k = t at a1 a2 a3 ⊢
    unfold st_X4_playAllIn_4 st_X10_shows_49
    have e := pl_barn (a1 k (by omega)).2.1 hb
    rw [← (a1 k (by omega)).1.1] at e
    by_cases c : P.2.1 k = nI b
    · rw [if_pos c, if_pos (e.mpr c)]
      obtain ⟨b1, b2, b3, _⟩ := play_one a1 (by omega) hb c _ _ rfl rfl
      unfold f_X4_playAllIn_q24 f_X10_shows_q96
      exact ⟨b1, by rw [b2, a2, Int32.add_assoc], fun a h1 h2 => by rw [b3 a h1 h2]; exact a3 a h1 h2⟩
    · rw [if_neg c, if_neg (fun z => c (e.mp z))]
      exact ⟨a1, a2, a3⟩
theorem log_loop {lv : LV} {s : Nat → Int32} (x1 x2 x3 x4 x5 : Int32) (h : ∀ j, j < 30 → s (78 + j) = lv.1 j) : ∀ k, k ≤ 25 → (∀ j, j < 30 → lp_X10_log_4 s x2 x3 x4 x5 s k (78 + j) = lp_X6_add_4 lv x1 x2 x3 x4 x5 lv.1 k j) ∧ ∀ a, a < 78 → lp_X10_log_4 s x2 x3 x4 x5 s k a = s a := by
  intro k
  induction k with
  | zero => intro _; exact ⟨h, fun _ _ => rfl⟩
  | succ k ih =>
    intro hk
    obtain ⟨a1, a2⟩ := ih (by omega)
    rw [lp_X10_log_4_s, lp_X6_add_4_s]
    generalize lp_X10_log_4 s x2 x3 x4 x5 s k = t at a1 a2 ⊢
    generalize lp_X6_add_4 lv x1 x2 x3 x4 x5 lv.1 k = u at a1 ⊢
    unfold st_X10_log_4 st_X6_add_4
    refine ⟨fun j hj => ?_, fun a ha => ?_⟩
    · by_cases c : j = 29 - k
      · subst c; rw [upd_s, upd_s, show 78 + (29 - k) - 5 = 78 + (29 - k - 5) by omega]; exact a1 _ (by omega)
      · rw [upd_n (by omega), upd_n c]; exact a1 j hj
    · rw [upd_n (by omega)]; exact a2 a ha
theorem log_eq {lv : LV} {s : Nat → Int32} (h : LRel lv s) {x1 : Int32} (h1 : s 55 = x1) (x2 x3 x4 x5 : Int32) : LRel (f_X6_add lv x1 x2 x3 x4 x5) (f_X10_log s x2 x3 x4 x5) ∧ ∀ a, a < 77 → f_X10_log s x2 x3 x4 x5 a = s a := by
  obtain ⟨⟨m, hm, em⟩, l2, l3⟩ := h
  obtain ⟨a1, a2⟩ := log_loop (lv := lv) (s := s) x1 x2 x3 x4 x5 l3 25 (Nat.le_refl _)
  unfold f_X6_add f_X10_log
  generalize lp_X10_log_4 s x2 x3 x4 x5 s 25 = t at a1 a2 ⊢
  generalize lp_X6_add_4 lv x1 x2 x3 x4 x5 lv.1 25 = u at a1 ⊢
  unfold f_X6_add_q4 f_X10_log_4_x
  have e77 : t 77 = nI m := by rw [a2 77 (by omega), l2, em]
  have e55 : t 55 = x1 := by rw [a2 55 (by omega)]; exact h1
  rw [e77, e55, em]
  have k1 : 6 ≤ nI m ↔ 6 ≤ m := nle_iff (nlit 6) rfl (by omega) (by omega)
  have e1 : nI m + 1 = nI (m + 1) := nadd rfl rfl
  have k2 : 6 < nI (m + 1) ↔ 6 < m + 1 := nlt_iff (nlit 6) rfl (by omega) (by omega)
  have cells : ∀ z : Int32, ∀ j, j < 30 → upd (upd (upd (upd (upd (upd t 78 x1) 79 x2) 80 x3) 81 x4) 82 x5) 77 z (78 + j) = upd (upd (upd (upd (upd u 0 x1) 1 x2) 2 x3) 3 x4) 4 x5 j := by
    intro z j hj
    rw [upd_n (by omega)]
    by_cases c4 : j = 4
    · subst c4; rw [upd_s, upd_s]
    · rw [upd_n (by omega), upd_n c4]
      by_cases c3 : j = 3
      · subst c3; rw [upd_s, upd_s]
      · rw [upd_n (by omega), upd_n c3]
        by_cases c2 : j = 2
        · subst c2; rw [upd_s, upd_s]
        · rw [upd_n (by omega), upd_n c2]
          by_cases c1 : j = 1
          · subst c1; rw [upd_s, upd_s]
          · rw [upd_n (by omega), upd_n c1]
            by_cases c0 : j = 0
            · subst c0; rw [upd_s, upd_s]
            · rw [upd_n (by omega), upd_n c0]; exact a1 j hj
  have rest : ∀ z : Int32, ∀ a, a < 77 → upd (upd (upd (upd (upd (upd t 78 x1) 79 x2) 80 x3) 81 x4) 82 x5) 77 z a = s a := by
    intro z a ha
    rw [upd_n (by omega), upd_n (by omega), upd_n (by omega), upd_n (by omega), upd_n (by omega), upd_n (by omega)]; exact a2 a (by omega)
  rw [e1]
  by_cases c : 6 ≤ m
  · have hm6 : m = 6 := by omega
    rw [if_pos (k1.mpr c), if_pos (k2.mpr (by omega))]
    exact ⟨⟨⟨6, by omega, rfl⟩, by rw [upd_s, hm6]; rfl, cells _⟩, rest _⟩
  · rw [if_neg (fun z => c (k1.mp z)), if_neg (fun z => c (by have := k2.mp z; omega))]
    exact ⟨⟨⟨m + 1, by omega, rfl⟩, upd_s _ _ _, cells _⟩, rest _⟩
section SM
variable {r : RV} {s : Nat → Int32}
theorem num_sm (r : RV) (x : Int32) : ∃ n, n ≤ 10 ∧ f_X4_numberAt r x = nI n := by
  have key : ∀ k, k ≤ 10 → ∃ n, n ≤ k ∧ lp_X4_numberAt_4 r x 0 k = nI n := by
    intro k
    induction k with
    | zero => intro _; exact ⟨0, Nat.le_refl _, rfl⟩
    | succ k ih =>
      intro hk
      obtain ⟨n, hn, e⟩ := ih (by omega)
      rw [lp_X4_numberAt_4_s, e]
      unfold st_X4_numberAt_4
      split
      · exact ⟨n + 1, by omega, nadd rfl rfl⟩
      · exact ⟨n, by omega, rfl⟩
  exact key 10 (Nat.le_refl _)
theorem fresh_sm (r : RV) (x : Int32) : ∃ n, n ≤ 10 ∧ f_X4_freshIn r x = nI n := by
  have key : ∀ k, k ≤ 10 → ∃ n, n ≤ k ∧ lp_X4_freshIn_4 r x 0 k = nI n := by
    intro k
    induction k with
    | zero => intro _; exact ⟨0, Nat.le_refl _, rfl⟩
    | succ k ih =>
      intro hk
      obtain ⟨n, hn, e⟩ := ih (by omega)
      rw [lp_X4_freshIn_4_s, e]
      unfold st_X4_freshIn_4
      split
      · split
        · exact ⟨n + 1, by omega, nadd rfl rfl⟩
        · exact ⟨n, by omega, rfl⟩
      · exact ⟨n, by omega, rfl⟩
  exact key 10 (Nat.le_refl _)
theorem min_sm (h : RRel r s) {b : Nat} (hb : b < 5) : ∃ n, n ≤ 170 ∧ f_X4_minutesIn r (nI b) = nI n := by
  have hng : ¬ nI b = -2 := by
    rcases (show b = 0 ∨ b = 1 ∨ b = 2 ∨ b = 3 ∨ b = 4 by omega) with rfl | rfl | rfl | rfl | rfl <;> decide
  have key : ∀ k, k ≤ 10 → ∃ n, n ≤ 17 * k ∧ lp_X4_minutesIn_4 r (nI b) 0 k = nI n := by
    intro k
    induction k with
    | zero => intro _; exact ⟨0, Nat.le_refl _, rfl⟩
    | succ k ih =>
      intro hk
      obtain ⟨n, hn, e⟩ := ih (by omega)
      rw [lp_X4_minutesIn_4_s, e]
      unfold st_X4_minutesIn_4
      by_cases c : r.1 k = nI b
      · obtain ⟨m, hm, em⟩ := (h k (by omega)).2.2.2.1 (by rw [c]; exact hng)
        rw [if_pos c, em]; exact ⟨n + m, by omega, nadd rfl rfl⟩
      · rw [if_neg c]; exact ⟨n, by omega, rfl⟩
  exact key 10 (Nat.le_refl _)
theorem wear_sm (h : RRel r s) (x : Int32) : ∃ n, n < 40 ∧ f_X4_mostWearIn r x = nI n := by
  have key : ∀ k, k ≤ 10 → ∃ n, n < 40 ∧ lp_X4_mostWearIn_4 r x 0 k = nI n := by
    intro k
    induction k with
    | zero => intro _; exact ⟨0, by omega, rfl⟩
    | succ k ih =>
      intro hk
      obtain ⟨n, hn, e⟩ := ih (by omega)
      obtain ⟨w, hw, ew⟩ := (h k (by omega)).2.2.1
      rw [lp_X4_mostWearIn_4_s, e]
      unfold st_X4_mostWearIn_4
      rw [ew]
      split
      · split
        · exact ⟨w, hw, rfl⟩
        · exact ⟨n, hn, rfl⟩
      · exact ⟨n, hn, rfl⟩
  exact key 10 (Nat.le_refl _)
theorem seat_sm : ∀ b, b < 5 → ∃ n, n ≤ 80 ∧ f_X10_seats (nI b) = nI n := by
  intro b hb
  rcases (show b = 0 ∨ b = 1 ∨ b = 2 ∨ b = 3 ∨ b = 4 by omega) with rfl | rfl | rfl | rfl | rfl
  · exact ⟨40, by omega, by decide⟩
  · exact ⟨60, by omega, by decide⟩
  · exact ⟨80, by omega, by decide⟩
  · exact ⟨50, by omega, by decide⟩
  · exact ⟨30, by omega, by decide⟩
theorem people_sm (h : RRel r s) {b : Nat} (hb : b < 5) : ∃ n, n ≤ 800 ∧ f_X10_peopleAt s (nI b) = nI n := by
  obtain ⟨n0, h0, e0⟩ := num_sm r (nI b)
  obtain ⟨n1, h1, e1⟩ := fresh_sm r (nI b)
  obtain ⟨n2, h2, e2⟩ := wear_sm h (nI b)
  obtain ⟨n3, h3, e3⟩ := seat_sm b hb
  unfold f_X10_peopleAt
  rw [← num_barn h hb, ← fresh_barn h hb, ← wear_barn h hb, e0, e1, e2, e3]
  by_cases c : nI n0 = 0
  · rw [if_pos c]; exact ⟨0, by omega, rfl⟩
  · rw [if_neg c]
    have c0 : 0 < n0 := by
      rcases Nat.eq_zero_or_pos n0 with z | z
      · rw [z] at c; exact absurd rfl c
      · exact z
    have b1 : n3 * n1 ≤ 800 := Nat.mul_le_mul h3 h1
    have q1 : nI n3 * nI n1 / nI n0 = nI (n3 * n1 / n0) := ndiv (nmul rfl rfl) rfl (by omega) c0 (by omega)
    have q2 : nI n2 / 10 = nI (n2 / 10) := ndiv rfl (nlit 10) (by omega) (by omega) (by omega)
    have b2 : n3 * n1 / n0 ≤ 800 := Nat.le_trans (Nat.div_le_self _ _) b1
    rw [q1, q2]
    generalize n3 * n1 / n0 = A at b2 ⊢
    by_cases d : n2 / 10 ≤ A
    · rw [nsub rfl rfl d]
      split
      · exact ⟨A - n2 / 10, by omega, rfl⟩
      · exact ⟨0, by omega, rfl⟩
    · have q3 : ¬ 0 ≤ nI A - nI (n2 / 10) := by
        have hB : n2 / 10 < 4 := by omega
        generalize n2 / 10 = B at d hB
        have : A < 4 := by omega
        rcases (show A = 0 ∨ A = 1 ∨ A = 2 by omega) with rfl | rfl | rfl <;> rcases (show B = 0 ∨ B = 1 ∨ B = 2 ∨ B = 3 by omega) with rfl | rfl | rfl | rfl <;> first | omega | decide
      rw [if_neg q3]; exact ⟨0, by omega, rfl⟩
end SM
