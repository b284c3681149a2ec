/-! what is asked -/
def slS (q : Nat × Nat) : Nat × Nat := (q.1 + 5 * ((44 - q.1) / 5) - 20, q.2 + (44 - q.1) / 5)
def slL : Nat → Nat × Nat → Nat × Nat
  | 0, q => q
  | k + 1, q => slS (slL k q)
def brL : Nat → Nat → Nat → Nat → Nat
  | 0, _, _, c => c
  | n + 1, w, m, c => if m < 3 then c else if w + 5 < 40 then brL n (w + 5) m (c + 1) else brL n (w + 5 - 20) (m - 1) (c + 1)
theorem sl_br : ∀ w, w < 40 → ∀ m, m < 18 → (slL (m - 2) (w, 0)).2 = brL (8 * m + 8 - w / 5) w m 0 := by decide +kernel
theorem sl_in (v : RV) (r : Int32) (rn w mn k : Nat) (q : Nat × Int32) (c : Nat) : ∀ n, lp_X4_showsLeft_23 v r rn w mn k q (nI c) n = nI (c + n) := by
  intro n
  induction n with
  | zero => rfl
  | succ n ih => rw [lp_X4_showsLeft_23_s, ih]; unfold st_X4_showsLeft_23; have q : nI (c + n) + 1 = nI (c + n + 1) := nadd rfl rfl; exact q
theorem sl_out (v : RV) (r : Int32) (rn w mn c : Nat) : ∀ k, lp_X4_showsLeft_17 v r rn w mn (w, nI c) k = ((slL k (w, c)).1, nI (slL k (w, c)).2) := by
  intro k
  induction k with
  | zero => rfl
  | succ k ih =>
    rw [lp_X4_showsLeft_17_s, ih]
    unfold st_X4_showsLeft_17 f_X4_showsLeft_q23
    dsimp only
    rw [sl_in]
    rfl
theorem br_out (s : Nat → Int32) (x : Int32) (xn : Nat) : ∀ n w m c, w < 40 → m < 18 → wl_X10_bears_25 s x xn n (w, m, nI c) = nI (brL n w m c) := by
  intro n
  induction n with
  | zero => intro w m c _ _; rfl
  | succ n ih =>
    intro w m c hw hm
    have e : wl_X10_bears_25 s x xn (n + 1) (w, m, nI c) = Sum.elim (fun q9 => wl_X10_bears_25 s x xn n q9) id (st_X10_bears_25 s x xn (w, m, nI c)) := rfl
    rw [e]
    unfold st_X10_bears_25
    have k1 : nI m < 3 ↔ m < 3 := nlt_iff rfl (nlit 3) (by omega) (by omega)
    have k2 : nI (w + 5) < 40 ↔ w + 5 < 40 := nlt_iff rfl (nlit 40) (by omega) (by omega)
    have e1 : nI c + 1 = nI (c + 1) := nadd rfl rfl
    show Sum.elim _ id (if nI m < 3 then _ else if nI (w + 5) < 40 then _ else _) = nI (if m < 3 then c else if w + 5 < 40 then brL n (w + 5) m (c + 1) else brL n (w + 5 - 20) (m - 1) (c + 1))
    by_cases c1 : m < 3
    · rw [if_pos (k1.mpr c1), if_pos c1]; rfl
    · rw [if_neg (fun z => c1 (k1.mp z)), if_neg c1]
      by_cases c2 : w + 5 < 40
      · rw [if_pos (k2.mpr c2), if_pos c2]
        show wl_X10_bears_25 s x xn n (w + 5, m, nI c + 1) = _
        rw [e1]; exact ih _ _ _ c2 hm
      · rw [if_neg (fun z => c2 (k2.mp z)), if_neg c2]
        show wl_X10_bears_25 s x xn n (w + 5 - 20, m - 1, nI c + 1) = _
        rw [e1]; exact ih _ _ _ (by omega) (by omega)
theorem bears_eq {r : RV} {s : Nat → Int32} (h : RRel r s) {j : Nat} (hj : j < 10) (hg : ¬ r.1 j = -2) (i x : Int32) (k : Nat) : f_X4_showsLeft r i k (r.2.2.1 j).toNatClampNeg (r.2.1 j).toNatClampNeg = f_X10_bears s x j := by
  obtain ⟨⟨r0, r1, r2, r3, r4⟩, p0, ⟨w, hw, ew⟩, p2, p3⟩ := h j hj
  obtain ⟨m, hm, em⟩ := p2 hg
  unfold f_X4_showsLeft f_X10_bears f_X4_showsLeft_q17
  rw [r1, r2, ew, em, nI_clm (by omega), nI_clm (by omega)]
  have a := sl_out r i k w m 0 (m - 2)
  have b := br_out s x j (8 * m + 8 - w / 5) w m 0 hw hm
  have z : (nI 0 : Int32) = 0 := rfl
  rw [z] at a b
  rw [a, b, sl_br w hw m hm]
theorem in04 {y : Int32} (h : ¬ f_X10_in y 0 4 = 0) : ∃ k, k ≤ 4 ∧ y = nI k := by
  unfold f_X10_in at h
  by_cases e1 : y < 0
  · rw [if_pos e1] at h; exact absurd rfl h
  · rw [if_neg e1] at h
    by_cases e2 : 4 < y
    · rw [if_pos e2] at h; exact absurd rfl h
    · obtain ⟨k, ek, _, k2⟩ := rg_lh 0 4 e1 e2 rfl rfl (by decide) (by decide)
      exact ⟨k, k2, ek⟩
theorem in_of : ∀ k, k ≤ 4 → ¬ f_X10_in (nI k) 0 4 = 0 := by decide
theorem reel_ask {N : Nat} {v : SV} {s : Nat → Int32} (h : RS N v s) (x y : Int32) : f_X7_toldOfReel v x y = f_X10_reel s x y := by
  unfold f_X7_toldOfReel f_X10_reel
  rw [there_eq h.1]
  by_cases c : f_X10_isReel s x = 0
  · rw [if_pos c, if_pos c]
  · rw [if_neg c, if_neg c]
    obtain ⟨j, ej, hj, hg⟩ := isThere_nat (v := v.1) (x := x) (by rw [there_eq h.1]; exact c)
    have ex : x.toNatClampNeg = j := by rw [ej]; exact nI_clm (by omega)
    obtain ⟨⟨r0, r1, r2, r3, r4⟩, _⟩ := h.1 j hj
    rw [ex]
    by_cases d : f_X10_in y 0 4 = 0
    · rw [if_pos d]
      have ny : ∀ k, k ≤ 4 → ¬ y = nI k := fun k hk e => in_of k hk (by rw [← e]; exact d)
      rw [if_neg (show ¬ y = 0 from ny 0 (by omega)), if_neg (show ¬ y = 1 from ny 1 (by omega)), if_neg (show ¬ y = 2 from ny 2 (by omega)), if_neg (show ¬ y = 3 from ny 3 (by omega)), if_neg (show ¬ y = 4 from ny 4 (by omega))]
      by_cases e : y = 5
      · rw [if_pos e, if_pos e]; unfold f_X7_toldOfReel_q105; exact bears_eq h.1 hj hg x x j
      · rw [if_neg e, if_neg e]
    · rw [if_neg d]
      obtain ⟨k, hk, ek⟩ := in04 d
      subst ek
      rw [nI_clm (by omega)]
      rcases (show k = 0 ∨ k = 1 ∨ k = 2 ∨ k = 3 ∨ k = 4 by omega) with rfl | rfl | rfl | rfl | rfl
      · rw [if_pos (show nI 0 = 0 from rfl), r0]; rfl
      · rw [if_neg (by decide), if_pos (show nI 1 = 1 from rfl), r1]; rfl
      · rw [if_neg (by decide), if_neg (by decide), if_pos (show nI 2 = 2 from rfl), r2]; rfl
      · rw [if_neg (by decide), if_neg (by decide), if_neg (by decide), if_pos (show nI 3 = 3 from rfl), r3]; rfl
      · rw [if_neg (by decide), if_neg (by decide), if_neg (by decide), if_neg (by decide), if_pos (show nI 4 = 4 from rfl), r4]; rfl
theorem in01 {y : Int32} (h : ¬ f_X10_in y 0 1 = 0) : y = 0 ∨ y = 1 := by
  unfold f_X10_in at h
  by_cases e1 : y < 0
  · rw [if_pos e1] at h; exact absurd rfl h
  · rw [if_neg e1] at h
    by_cases e2 : 1 < y
    · rw [if_pos e2] at h; exact absurd rfl h
    · obtain ⟨k, ek, _, k2⟩ := rg_lh 0 1 e1 e2 rfl rfl (by decide) (by decide)
      rcases (show k = 0 ∨ k = 1 by omega) with rfl | rfl
      · exact Or.inl ek
      · exact Or.inr ek
theorem gen_ask {N : Nat} {v : SV} {s : Nat → Int32} (h : RS N v s) (x y : Int32) : f_X7_toldOfGenerator v x y = f_X10_generator s x y := by
  unfold f_X7_toldOfGenerator f_X10_generator
  rw [gen_eq]
  by_cases c : f_X10_isGenerator x = 0
  · rw [if_pos c, if_pos c]
  · rw [if_neg c, if_neg c]
    obtain ⟨j, ej, hj⟩ := isGen_nat (x := x) (by rw [gen_eq]; exact c)
    have ex : x.toNatClampNeg = j := by rw [ej]; exact nI_clm (by omega)
    obtain ⟨g0, g1, _⟩ := h.2.1.1 j hj
    rw [ex]
    by_cases d : f_X10_in y 0 1 = 0
    · rw [if_pos d, if_neg (fun z => by rw [z] at d; exact absurd d (by decide)), if_neg (fun z => by rw [z] at d; exact absurd d (by decide))]
    · rw [if_neg d]
      rcases in01 d with rfl | rfl
      · rw [if_pos rfl]; exact g0.symm
      · rw [if_neg (by decide), if_pos rfl]; exact g1.symm
theorem barn_ask {N : Nat} {v : SV} {s : Nat → Int32} (h : RS N v s) (hN : N < 2 ^ 30) (x y : Int32) : f_X7_toldOfBarn v x y = f_X10_barn s x y := by
  unfold f_X7_toldOfBarn f_X10_barn
  rw [barn_eq]
  by_cases c : f_X10_isBarn x = 0
  · rw [if_pos c, if_pos c]
  · rw [if_neg c, if_neg c]
    obtain ⟨b, eb, hb⟩ := isBarn_nat (x := x) (by rw [barn_eq]; exact c)
    subst eb
    obtain ⟨dd, _, _, _, hB⟩ := h.2.2.1
    obtain ⟨_, g6, g7⟩ := hB b hb
    unfold f_X1_showsOf f_X1_takingsOf
    rw [nI_clm (by omega), miles_eq b hb, seats_eq b hb, num_barn h.1 hb, min_barn h.1 hb, people_eq h hb, why_eq h hN hb, g6, g7]
    by_cases e0 : y = 0
    · rw [if_pos e0, if_pos e0]
    · rw [if_neg e0, if_neg e0]
      by_cases e1 : y = 1
      · rw [if_pos e1, if_pos e1]
      · rw [if_neg e1, if_neg e1]
        by_cases e2 : y = 2
        · rw [if_pos e2, if_pos e2]
        · rw [if_neg e2, if_neg e2]
          by_cases e3 : y = 3
          · rw [if_pos e3, if_pos e3, e3] <;> rfl
          · rw [if_neg e3, if_neg e3]
            by_cases e4 : y = 4
            · rw [if_pos e4, if_pos e4, e4] <;> rfl
            · rw [if_neg e4, if_neg e4]
theorem price_ask {N : Nat} {v : SV} {s : Nat → Int32} (h : RS N v s) {x : Int32} (hx : ¬ f_X10_isBarn x = 0) (y : Int32) : f_X7_peopleIn v x x.toNatClampNeg * y = f_X10_peopleAt s x * y := by
  obtain ⟨b, eb, hb⟩ := isBarn_nat (x := x) (by rw [barn_eq]; exact hx)
  subst eb
  rw [nI_clm (by omega), people_eq h hb]
theorem best_ask {N : Nat} {v : SV} {s : Nat → Int32} (h : RS N v s) (hN : N < 2 ^ 30) : f_X7_barnThatBringsMost v = f_X10_bestBarn s := by
  have key : ∀ k, k ≤ 5 → (lp_X7_barnThatBringsMost_7 v (-10000005, -1) k = (-10000005, -1) ∧ lp_X10_bestBarn_5 s (-10000005) k = -10000005) ∨ ∃ c, c < 5 ∧ lp_X7_barnThatBringsMost_7 v (-10000005, -1) k = (nI c, f_X10_peopleAt s (nI c)) ∧ lp_X10_bestBarn_5 s (-10000005) k = nI c := by
    intro k
    induction k with
    | zero => intro _; exact Or.inl ⟨rfl, rfl⟩
    | succ k ih =>
      intro hk
      have hk5 : k < 5 := by omega
      rw [lp_X7_barnThatBringsMost_7_s, lp_X10_bestBarn_5_s]
      unfold st_X7_barnThatBringsMost_7 st_X10_bestBarn_5
      rw [why_eq h hN hk5, people_eq h hk5]
      obtain ⟨n, hn, en⟩ := people_sm h.1 hk5
      by_cases c : f_X10_why s (nI k) k = 0
      · rw [if_pos c, if_pos c]
        rcases ih (by omega) with ⟨a1, a2⟩ | ⟨b, hb, a1, a2⟩
        · rw [a1, a2, if_pos rfl, if_neg (show ¬ f_X10_peopleAt s (nI k) ≤ -1 by
            rw [en]; intro z
            have q := nI_nn (n := n) (by omega)
            rw [Int32.le_iff_toInt_le] at z q
            have e1 : (-1 : Int32).toInt = -1 := by decide
            have e0 : (0 : Int32).toInt = 0 := by decide
            omega)]
          exact Or.inr ⟨k, hk5, rfl, rfl⟩
        · have nb : ¬ nI b = -10000005 := by
            rcases (show b = 0 ∨ b = 1 ∨ b = 2 ∨ b = 3 ∨ b = 4 by omega) with rfl | rfl | rfl | rfl | rfl <;> decide
          rw [a1, a2, if_neg nb]
          by_cases d : f_X10_peopleAt s (nI k) ≤ f_X10_peopleAt s (nI b)
          · rw [if_pos d, if_pos d]; exact Or.inr ⟨b, hb, rfl, rfl⟩
          · rw [if_neg d, if_neg d]; exact Or.inr ⟨k, hk5, rfl, rfl⟩
      · rw [if_neg c, if_neg c]; exact ih (by omega)
  unfold f_X7_barnThatBringsMost f_X10_bestBarn f_X7_barnThatBringsMost_q7 f_X10_bestBarn_5_x
  rcases key 5 (Nat.le_refl _) with ⟨a1, a2⟩ | ⟨b, hb, a1, a2⟩
  · rw [a1, a2]
  · rw [a1, a2]
theorem past_ask {N : Nat} {v : SV} {s : Nat → Int32} (h : RS N v s) (x y : Int32) : f_X7_toldOfPastShow v x y = f_X10_showOf s x y := by
  obtain ⟨⟨m, hm, em⟩, l2, l3⟩ := h.2.2.2.1
  unfold f_X7_toldOfPastShow f_X10_showOf f_X6_size f_X6_told
  rw [l2]
  by_cases c : x < 0
  · rw [if_pos c, if_pos c]
  · rw [if_neg c, if_neg c]
    have k := sc_le (a := 5) (b := 4) (n := 4) (by decide) (by decide) y
    unfold f_X10_in
    by_cases d : y < 0
    · rw [if_pos d, if_pos d, if_pos rfl]
    · rw [if_neg d, if_neg d]
      by_cases e : y < 5
      · have e2 : ¬ 4 < y := fun z => Int32.not_le.mpr e (k.mpr z)
        rw [if_pos e, if_neg e2, if_neg (show ¬ (1 : Int32) = 0 by decide)]
        by_cases f : v.2.2.2.1.2 ≤ x
        · rw [if_pos f, if_pos f]
        · rw [if_neg f, if_neg f]
          obtain ⟨a, ea, ha⟩ := rg_nat m c f em (by omega)
          obtain ⟨b, eb, hb0, hb⟩ := rg_lh 0 4 d e2 rfl rfl (by decide) (by decide)
          rw [ea, eb, nI_clm (by omega), nI_clm (by omega)]
          rw [show 78 + 5 * a + b = 78 + (a * 5 + b) by omega]
          exact (l3 _ (by omega)).symm
      · rw [if_neg e, if_pos (k.mp (Int32.not_lt.mp e)), if_pos rfl]
theorem sum67 (s : Nat → Int32) : f_X10_sum s 67 67 5 5 = 0 + s 67 + s 68 + s 69 + s 70 + s 71 := rfl
theorem sum62 (s : Nat → Int32) : f_X10_sum s 62 62 5 5 = 0 + s 62 + s 63 + s 64 + s 65 + s 66 := rfl
theorem sum72 (s : Nat → Int32) : f_X10_sum s 72 72 3 3 = 0 + s 72 + s 73 + s 74 := rfl
theorem sub3 (a b c d : Int32) : a - b - c - d = a - (0 + b + c + d) := by
  simp only [Int32.zero_add, Int32.sub_eq_add_neg, Int32.neg_add]
  ac_rfl
theorem all_ask {N : Nat} {v : SV} (m : MV) (h : RS N v m.1) (x : Int32) (h13 : ¬ x = 13) (h14 : ¬ x = 14) : f_X7_toldOfAll v x = f_X10_count m x := by
  obtain ⟨a1, a2, a3, a4, a5, a6, a7⟩ := h.2.2.2.2.1
  have ht : f_X7_thingsInVan v = f_X10_inVan m.1 := things h.1 h.2.1.1
  have hp := h.2.2.2.2.2.2.1
  unfold f_X7_toldOfAll f_X10_count f_X0_told
  rw [ht, num_gone h.1, ← rs_van h, ← rs_day h, ← hp, if_neg h13, if_neg h14, sum67, sum62, sum72, ← a6, ← a7]
  rw [← a1, ← a2, ← a3, ← a4, ← a5, sub3]
  by_cases e0 : x = 0
  · simp only [if_pos e0]
  · by_cases e1 : x = 1
    · simp only [if_neg e0, if_pos e1]
    · by_cases e2 : x = 2
      · simp only [if_neg e0, if_neg e1, if_pos e2]
      · by_cases e3 : x = 3
        · simp only [if_neg e0, if_neg e1, if_neg e2, if_pos e3]
        · by_cases e4 : x = 4
          · simp only [if_neg e0, if_neg e1, if_neg e2, if_neg e3, if_pos e4]
          · by_cases e5 : x = 5
            · simp only [if_neg e0, if_neg e1, if_neg e2, if_neg e3, if_neg e4, if_pos e5]
            · by_cases e6 : x = 6
              · simp only [if_neg e0, if_neg e1, if_neg e2, if_neg e3, if_neg e4, if_neg e5, if_pos e6]
              · by_cases e7 : x = 7
                · simp only [if_neg e0, if_neg e1, if_neg e2, if_neg e3, if_neg e4, if_neg e5, if_neg e6, if_pos e7]
                · by_cases e8 : x = 8
                  · simp only [if_neg e0, if_neg e1, if_neg e2, if_neg e3, if_neg e4, if_neg e5, if_neg e6, if_neg e7, if_pos e8]
                  · by_cases e9 : x = 9
                    · simp only [if_neg e0, if_neg e1, if_neg e2, if_neg e3, if_neg e4, if_neg e5, if_neg e6, if_neg e7, if_neg e8, if_pos e9]
                    · by_cases e10 : x = 10
                      · simp only [if_neg e0, if_neg e1, if_neg e2, if_neg e3, if_neg e4, if_neg e5, if_neg e6, if_neg e7, if_neg e8, if_neg e9, if_pos e10]
                      · by_cases e11 : x = 11
                        · simp only [if_neg e0, if_neg e1, if_neg e2, if_neg e3, if_neg e4, if_neg e5, if_neg e6, if_neg e7, if_neg e8, if_neg e9, if_neg e10, if_pos e11]
                        · by_cases e12 : x = 12
                          · simp only [if_neg e0, if_neg e1, if_neg e2, if_neg e3, if_neg e4, if_neg e5, if_neg e6, if_neg e7, if_neg e8, if_neg e9, if_neg e10, if_neg e11, if_pos e12]
                          · simp only [if_neg e0, if_neg e1, if_neg e2, if_neg e3, if_neg e4, if_neg e5, if_neg e6, if_neg e7, if_neg e8, if_neg e9, if_neg e10, if_neg e11, if_neg e12]
