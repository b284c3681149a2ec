/-! what the law asks of things is so -/
theorem pr_none {x : Int32} (h : PR x) : ¬ x = -10000005 := by
  rcases h with rfl | rfl | ⟨b, hb, rfl⟩
  · decide
  · decide
  · exact nb_none hb
theorem num_yes {r : RV} {x : Int32} {k : Nat} (q : Int32) (c : r.1 k = x) : st_X4_numberAt_4 r x k q = q + 1 := by
  unfold st_X4_numberAt_4
  rw [if_pos c]
theorem num_no {r : RV} {x : Int32} {k : Nat} (q : Int32) (c : ¬ r.1 k = x) : st_X4_numberAt_4 r x k q = q := by
  unfold st_X4_numberAt_4
  rw [if_neg c]
section SO
variable {N : Nat} {v : PV}
theorem l_t9 (h : INV N v) : ∀ k, k ≤ 2 → lp_L_areThingsSo_9 v (0, 1) k = (lp_X2_numberAt_4 v.1.2.1 (-1) 0 k, 1) := by
  intro k
  induction k with
  | zero => intro _; rfl
  | succ k ih =>
    intro hk
    rw [lp_L_areThingsSo_9_s, ih (by omega), lp_X2_numberAt_4_s]
    generalize lp_X2_numberAt_4 v.1.2.1 (-1) 0 k = n
    unfold st_L_areThingsSo_9 st_X2_numberAt_4
    dsimp only
    obtain ⟨p, m, hm, em⟩ := h.1.2.1 k (by omega)
    have k1 : ¬ nI m < 0 := nI_pos (by omega)
    have k2 : ¬ 500 < nI m := fun z => by
      have := (nlt_iff (nlit 500) (nrf m) (by omega) (by omega)).mp z
      omega
    have k3 : ¬ (1 : Int32) = 0 := by decide
    rw [gen_0 (by omega), gen_1 (by omega), em]
    by_cases c : v.1.2.1.1 k = -1
    · rw [if_pos c, if_pos c, if_pos (show (-10000005 : Int32) = -10000005 from rfl), if_neg k3, if_neg k1, if_neg k2]
    · rw [if_neg c, if_neg c, if_neg (pr_none p), if_neg k3, if_neg k1, if_neg k2, Int32.add_zero]
theorem l_t77 (h : INV N v) (q9 : Int32 × Int32) (G : Int32) : ∀ k, k ≤ 10 → lp_L_areThingsSo_77 v q9 (G, 0, 1) k = (G + lp_X4_numberAt_4 v.1.1 (-1) 0 k, lp_X4_numberAt_4 v.1.1 (-2) 0 k, 1) := by
  intro k
  induction k with
  | zero => intro _; show (G, (0 : Int32), (1 : Int32)) = (G + 0, 0, 1); rw [Int32.add_zero]
  | succ k ih =>
    intro hk
    have hk10 : k < 10 := by omega
    rw [lp_L_areThingsSo_77_s, ih (by omega), lp_X4_numberAt_4_s, lp_X4_numberAt_4_s]
    generalize lp_X4_numberAt_4 v.1.1 (-1) 0 k = n1
    generalize lp_X4_numberAt_4 v.1.1 (-2) 0 k = n2
    unfold st_L_areThingsSo_77
    dsimp only
    obtain ⟨p0, ⟨w, hw, ew⟩, ⟨p, hp, ep⟩, m, s, e1, e2, e3, e4⟩ := h.1.1 k hk10
    by_cases c : v.1.1.1 k = -2
    · have f0 : f_X9_reel v (nI k) 0 = -10000001 := by rw [reel_0 hk10, if_pos c]
      rw [f0, if_pos (show (-10000001 : Int32) = -10000001 from rfl), num_no (x := -1) n1 (by rw [c]; decide), num_yes n2 c, Int32.add_zero]
    · have f1 : f_X9_reel v (nI k) 1 = nI m := by rw [reel_1 hk10 c]; exact e2
      have f2 : f_X9_reel v (nI k) 2 = nI w := by rw [reel_2 hk10 c]; exact ew
      have f3 : f_X9_reel v (nI k) 3 = nI s := by rw [reel_3 hk10 c]; exact e3
      have f4 : f_X9_reel v (nI k) 4 = nI p := by rw [reel_4 hk10 c]; exact ep
      have f5 : f_X9_reel v (nI k) 5 = WHI (nI w) (nI m) := by rw [reel_5 hk10 c hw (by omega) ew e2, WHI_n hw (by omega), wh_sl w hw m (by omega)]
      have hm3 : 3 ≤ m := e4 c
      have k1 : ¬ (1 : Int32) = 0 := by decide
      have k2 : ¬ nI m < 3 := fun z => by
        have := (nlt_iff (nrf m) (nlit 3) (by omega) (by omega)).mp z
        omega
      have k3 : nI m + nI s = 8 + nI k := by
        rw [show nI m + nI s = nI (m + s) from nadd rfl rfl, show (8 : Int32) + nI k = nI (8 + k) from nadd (nlit 8) rfl, e1]
      have k4 : ¬ nI w < 0 := nI_pos (by omega)
      have k5 : ¬ 40 ≤ nI w := fun z => by
        have := (nle_iff (nlit 40) (nrf w) (by omega) (by omega)).mp z
        omega
      have k6 : ¬ 32 ≤ nI p := fun z => by
        have := (nle_iff (nlit 32) (nrf p) (by omega) (by omega)).mp z
        omega
      rw [num_no (x := -2) n2 c]
      by_cases d : v.1.1.1 k = -1
      · have f0 : f_X9_reel v (nI k) 0 = -10000005 := by rw [reel_0 hk10, if_neg c, if_pos d]
        rw [f0, f1, f2, f3, f4, f5, if_neg (show ¬ (-10000005 : Int32) = -10000001 by decide), if_pos (show (-10000005 : Int32) = -10000005 from rfl), if_neg k1, if_neg (show ¬ (5 : Int32) ≤ -10000005 by decide), if_neg k2, if_pos k3, if_neg k4, if_neg k5, if_neg k6, if_pos rfl, num_yes n1 d, Int32.add_zero, Int32.add_assoc]
      · obtain ⟨b, hb, eb⟩ : ∃ b, b < 5 ∧ v.1.1.1 k = nI b := by
          rcases p0 with z | z | z
          · exact absurd z c
          · exact absurd z d
          · exact z
        have f0 : f_X9_reel v (nI k) 0 = nI b := by rw [reel_0 hk10, if_neg c, if_neg d, eb]
        have k7 : ¬ 5 ≤ nI b := fun z => by
          have := (nle_iff (nlit 5) (nrf b) (by omega) (by omega)).mp z
          omega
        rw [f0, f1, f2, f3, f4, f5, if_neg (nb_unk hb), if_neg (nb_none hb), if_neg k1, if_neg k7, if_neg k2, if_pos k3, if_neg k4, if_neg k5, if_neg k6, if_pos rfl, num_no n1 d, Int32.add_zero, Int32.add_zero]
theorem l_things (h : INV N v) : f_L_areThingsSo v = 1 := by
  have a := l_t9 h 2 (Nat.le_refl _)
  have e2 : f_X9_count v 2 = lp_X2_numberAt_4 v.1.2.1 (-1) 0 2 + lp_X4_numberAt_4 v.1.1 (-1) 0 10 := by
    rw [count_2]
    unfold f_X7_thingsInVan f_X4_numberAt f_X2_numberAt f_X4_numberAt_4_x f_X2_numberAt_4_x
    exact Int32.add_comm _ _
  have e3 : f_X9_count v 3 = lp_X4_numberAt_4 v.1.1 (-2) 0 10 := by
    rw [count_3]
    unfold f_X4_numberAt f_X4_numberAt_4_x
    rfl
  unfold f_L_areThingsSo
  rw [a]
  unfold f_L_areThingsSo_9_x
  dsimp only
  generalize lp_X2_numberAt_4 v.1.2.1 (-1) 0 2 = G at e2 ⊢
  have b := l_t77 h (G, 1) G 10 (Nat.le_refl _)
  rw [b]
  unfold f_L_areThingsSo_77_x
  dsimp only
  rw [if_neg (show ¬ (1 : Int32) = 0 by decide), e2, e3, if_pos rfl, if_pos rfl]
end SO
