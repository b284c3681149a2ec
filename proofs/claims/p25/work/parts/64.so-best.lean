/-! what the law asks of the best barn and of the log is so -/
theorem nn_none {n : Nat} (h : n < 2 ^ 31) : ¬ nI n < -10000005 ∧ ¬ nI n = -10000005 := by
  have q := nI_nn h
  have e0 : (0 : Int32).toInt = 0 := by decide
  have e1 : (-10000005 : Int32).toInt = -10000005 := by decide
  rw [Int32.le_iff_toInt_le] at q
  refine ⟨fun z => ?_, fun z => ?_⟩
  · rw [Int32.lt_iff_toInt_lt] at z
    omega
  · rw [z] at q
    omega
section SO
variable {N : Nat} {v : PV}
theorem l_best12 (h : INV N v) : ∀ k, k ≤ 5 → ∃ cn, lp_L_isBestSo_12 v (1, 0) k = (1, cn) ∧ (cn = 0 ↔ ∀ b, b < k → ¬ f_X7_reasonAgainst v.1 (nI b) b = 0) := by
  obtain ⟨pf, hp, hb⟩ := best_spec h.1
  intro k
  induction k with
  | zero => intro _; exact ⟨0, rfl, fun _ b hb => absurd hb (by omega), fun _ => rfl⟩
  | succ k ih =>
    intro hk
    have hk5 : k < 5 := by omega
    obtain ⟨cn, e, ec⟩ := ih (by omega)
    rw [lp_L_isBestSo_12_s, e]
    unfold st_L_isBestSo_12
    dsimp only
    have k1 : ¬ (1 : Int32) = 0 := by decide
    rw [barn_6 hk5]
    by_cases c : f_X7_reasonAgainst v.1 (nI k) k = 0
    · rw [if_pos c]
      refine ⟨1, ?_, fun z => absurd z k1, fun z => absurd c (z k (by omega))⟩
      rcases hb with ⟨_, b2⟩ | ⟨d, hd, b1, b2, b3⟩
      · exact absurd c (b2 k hk5)
      · have eb : f_X9_bestBarn v = nI d := b1
        obtain ⟨pd1, pd2⟩ := hp d hd
        obtain ⟨pk1, pk2⟩ := hp k hk5
        have fd : f_X9_ifPrice v (nI d) 4 = nI (pf d * 4) := by
          rw [price_of hd (by decide), pd2]; exact nmul rfl (nlit 4)
        have fk : f_X9_ifPrice v (nI k) 4 = nI (pf k * 4) := by
          rw [price_of hk5 (by decide), pk2]; exact nmul rfl (nlit 4)
        have main : (if nI d < 0 then ((0 : Int32), (1 : Int32)) else if nI (pf k * 4) < nI (pf d * 4) then (1, 1) else if nI (pf d * 4) = nI (pf k * 4) then if nI k < nI d then (0, 1) else (1, 1) else (0, 1)) = (1, 1) := by
          have q1 := nlt_iff (nrf (pf k * 4)) (nrf (pf d * 4)) (by omega) (by omega)
          rw [if_neg (nI_pos (by omega))]
          rcases b3 k hk5 c with g | ⟨g1, g2⟩
          · rw [if_pos (q1.mpr (by omega))]
          · have q3 := nlt_iff (nrf k) (nrf d) (by omega) (by omega)
            rw [g1, if_neg (fun z => absurd ((nlt_iff (nrf (pf d * 4)) (nrf (pf d * 4)) (by omega) (by omega)).mp z) (Nat.lt_irrefl _)), if_pos rfl, if_neg (fun z => by have := q3.mp z; omega)]
        rw [eb, fd, fk, if_neg k1]
        by_cases z : cn = 0
        · rw [if_pos z]; exact main
        · rw [if_neg z]; exact main
    · rw [if_neg c]
      by_cases z : cn = 0
      · rw [if_pos z, if_neg k1]
        refine ⟨0, rfl, fun _ b hb2 => ?_, fun _ => rfl⟩
        by_cases y : b = k
        · subst y; exact c
        · exact ec.mp z b (by omega)
      · rw [if_neg z, if_neg k1]
        exact ⟨1, rfl, fun y => absurd y k1, fun y => absurd (ec.mpr (fun b hb2 => y b (by omega))) z⟩
theorem l_best117 (h : INV N v) (hN : N ≤ 1000) (q12 : Int32 × Int32) : ∀ k, k ≤ 6 → lp_L_isBestSo_117 v q12 1 k = 1 := by
  obtain ⟨dd, T, a1, a2, a3, a4, a5, l1, dy, l2, l3⟩ := h.1.2.2.1
  have c9 : f_X9_count v 9 = nI T := by rw [count_9]; exact a4
  have c0 : f_X9_count v 0 = nI dd := by rw [count_0]; exact a3
  have sh : ∀ k, k ≤ 6 → f_X9_showOf v (nI k) 0 = if min T 6 ≤ k then -10000005 else nI (dy k) := by
    intro k hk
    rw [past_k (z := 0) l1 (by omega) rfl hk (nlit 0) (by omega)]
    by_cases c : min T 6 ≤ k
    · rw [if_pos c, if_pos c]
    · rw [if_neg c, if_neg c, show k * 5 + 0 = 5 * k by omega]
      exact (l2 k (by omega)).1
  have k1 : ¬ (1 : Int32) = 0 := by decide
  intro k
  induction k with
  | zero => intro _; rfl
  | succ k ih =>
    intro hk
    rw [lp_L_isBestSo_117_s, ih (by omega)]
    unfold st_L_isBestSo_117
    have qT := nlt_iff (nrf k) (nrf T) (by omega) (by omega)
    have q0 : nI k = 0 ↔ k = 0 := neq_iff (nrf k) (nlit 0) (by omega) (by omega)
    have hd9 : dd < 2 ^ 31 := by omega
    rw [if_neg k1, c9, c0]
    by_cases c : min T 6 ≤ k
    · rw [show f_X9_showOf v (nI k) 0 = -10000005 by rw [sh k (by omega), if_pos c], if_pos (show (-10000005 : Int32) = -10000005 from rfl), if_neg (fun z => by have := qT.mp z; omega)]
      by_cases d : k = 0
      · rw [if_pos (q0.mpr d), if_neg (nn_none hd9).1]
      · rw [if_neg (fun z => d (q0.mp z)), if_neg (nn_none hd9).1, show nI k - 1 = nI (k - 1) from nsub (nrf k) (nlit 1) (by omega), sh (k - 1) (by omega)]
        by_cases e : min T 6 ≤ k - 1
        · rw [if_pos e, if_neg (by decide)]
        · rw [if_neg e, if_neg (nn_none (by have := (l2 (k - 1) (by omega)).2; omega)).1]
    · have hk6 : k < min T 6 := by omega
      have hdk := (l2 k hk6).2
      have s1 : f_X9_showOf v (nI k) 0 = nI (dy k) := by rw [sh k (by omega), if_neg c]
      have n1 : ¬ nI dd < nI (dy k) := fun z => by
        have := (nlt_iff (nrf dd) (nrf (dy k)) (by omega) (by omega)).mp z
        omega
      rw [s1, if_neg (nn_none (n := dy k) (by omega)).2, if_pos (qT.mpr (by omega))]
      by_cases d : k = 0
      · rw [if_pos (q0.mpr d), if_neg n1]
      · have s2 : f_X9_showOf v (nI (k - 1)) 0 = nI (dy (k - 1)) := by rw [sh (k - 1) (by omega), if_neg (by omega)]
        have hq := l3 (k - 1) (by omega)
        rw [show k - 1 + 1 = k by omega] at hq
        have hdk1 := (l2 (k - 1) (by omega)).2
        have n2 : ¬ nI (dy (k - 1)) < nI (dy k) := fun z => by
          have := (nlt_iff (nrf (dy (k - 1))) (nrf (dy k)) (by omega) (by omega)).mp z
          omega
        rw [if_neg (fun z => d (q0.mp z)), show nI k - 1 = nI (k - 1) from nsub (nrf k) (nlit 1) (by omega), s2, if_neg n2, if_neg n1]
theorem l_best (h : INV N v) (hN : N ≤ 1000) : f_L_isBestSo v = 1 := by
  obtain ⟨cn, e, ec⟩ := l_best12 h 5 (Nat.le_refl _)
  have b := l_best117 h hN (1, cn) 6 (Nat.le_refl _)
  have s6 : f_X9_showOf v 6 0 = -10000005 := by
    obtain ⟨dd, T, a1, a2, a3, a4, a5, l1, dy, l2, l3⟩ := h.1.2.2.1
    rw [past_k (x := 6) (z := 0) l1 (by omega) (nlit 6) (Nat.le_refl _) (nlit 0) (by omega), if_pos (by omega)]
  unfold f_L_isBestSo
  rw [e]
  unfold f_L_isBestSo_12_x
  dsimp only
  rw [b]
  unfold f_L_isBestSo_117_x
  dsimp only
  rw [if_neg (show ¬ (1 : Int32) = 0 by decide), s6, if_pos (show (-10000005 : Int32) = -10000005 from rfl)]
  obtain ⟨pf, hp, hb⟩ := best_spec h.1
  rcases hb with ⟨b1, b2⟩ | ⟨d, hd, b1, b2, b3⟩
  · rw [if_pos (show f_X9_bestBarn v = -10000005 from b1), if_pos (ec.mpr b2)]
  · have eb : f_X9_bestBarn v = nI d := b1
    rw [if_neg (by rw [eb]; exact nb_none hd), if_neg (fun z => ec.mp z d hd b2)]
end SO
