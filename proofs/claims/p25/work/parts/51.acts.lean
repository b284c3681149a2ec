/-! the acts keep it: driving, carrying, fuel, a new print, the price, the day -/
theorem mile_ans : ∀ b, b < 5 → ∀ c, c < 5 → ANS (if 0 ≤ MILESF b - MILESF c then MILESF b - MILESF c else 0 - (MILESF b - MILESF c)) := by decide +kernel
theorem si_drive {N : Nat} {v : SV} (h : SI N v) (x : Int32) : STEP N (f_X7_driveTo v x) := by
  unfold f_X7_driveTo
  by_cases c : f_X9_isBarn x = 0
  · rw [if_pos c]; exact step_no h an1
  · rw [if_neg c]
    by_cases c2 : x = v.2.2.2.2.2.1
    · rw [if_pos c2]; exact step_no h an5
    · rw [if_neg c2]
      obtain ⟨b, eb, hb⟩ := isBarn_nat c
      obtain ⟨h1, h2, h3, h4, ⟨c0, hc, ec⟩, h6⟩ := h
      have q := mile_ans b hb c0 hc
      have ex : x.toNatClampNeg = b := by rw [eb]; exact nI_clm (by omega)
      have ev : v.2.2.2.2.2.1.toNatClampNeg = c0 := by rw [ec]; exact nI_clm (by omega)
      unfold f_X7_driveTo_q49
      rw [ex, ev]
      exact ⟨q, h1, h2, h3, h4, ⟨b, hb, eb⟩, h6⟩
theorem put_ri {r : RV} (h : RI r) {j : Nat} (hg : ¬ r.1 j = -2) {x : Int32} (hx : PR x) (i : Int32) : RI (f_X4_put r i j x) := by
  intro a ha
  obtain ⟨p0, p1, p2, m, s, e1, e2, e3, e4⟩ := h a ha
  unfold f_X4_put
  refine ⟨?_, p1, p2, m, s, e1, e2, e3, ?_⟩
  · show PR (upd r.1 j x a)
    by_cases c : a = j
    · subst c; rw [upd_s]; exact hx
    · rw [upd_n c]; exact p0
  · show ¬ upd r.1 j x a = -2 → _
    by_cases c : a = j
    · subst c; intro _; exact e4 hg
    · rw [upd_n c]; exact e4
theorem put_gi {g : GV} (h : GI g) {j : Nat} {x : Int32} (hx : PR x) (i : Int32) : GI (f_X2_put g i j x) := by
  intro a ha
  obtain ⟨p0, p1⟩ := h a ha
  unfold f_X2_put
  refine ⟨?_, p1⟩
  show PR (upd g.1 j x a)
  by_cases c : a = j
  · subst c; rw [upd_s]; exact hx
  · rw [upd_n c]; exact p0
theorem things_ans (v : SV) : ANS (f_X7_thingsInVan v) := by
  obtain ⟨n, hn, e⟩ := num_sm v.1 (-1)
  obtain ⟨m, hm, e2⟩ := num2_sm v.2.1 (-1)
  unfold f_X7_thingsInVan
  rw [e, e2, nI_add]
  exact ans_nI (by omega)
theorem refuse_ans (v : SV) (x y : Int32) : ANS (f_X7_refusalToCarry v x y) := by
  unfold f_X7_refusalToCarry
  repeat' split
  all_goals first | exact an0 | exact an3 | exact an4 | exact an5
theorem si_reel {N : Nat} {v : SV} (h : SI N v) (x y : Int32) : STEP N (f_X7_carryReel v x y) := by
  unfold f_X7_carryReel
  by_cases c : f_X4_isThere v.1 x = 0
  · rw [if_pos c]; exact step_no h an1
  · rw [if_neg c]
    obtain ⟨j, ej, hj, hg⟩ := isThere_nat c
    have ex : x.toNatClampNeg = j := by rw [ej]; exact nI_clm (by omega)
    rw [ex]
    obtain ⟨b, hb, eb⟩ := h.2.2.2.2.1
    by_cases c2 : f_X7_refusalToCarry v (f_X4_placeOf v.1 x j) y = 0
    · rw [if_pos c2]
      by_cases c3 : y = 0
      · rw [if_pos c3]
        show ANS (f_X7_thingsInVan (f_X4_put v.1 x j v.2.2.2.2.2.1, v.2)) ∧ SI N (f_X4_put v.1 x j v.2.2.2.2.2.1, v.2)
        exact ⟨things_ans _, put_ri h.1 hg (by rw [eb]; exact pr_barn hb) x, h.2⟩
      · rw [if_neg c3]
        show ANS (f_X7_thingsInVan (f_X4_put v.1 x j (-1), v.2)) ∧ SI N (f_X4_put v.1 x j (-1), v.2)
        exact ⟨things_ans _, put_ri h.1 hg pr_van x, h.2⟩
    · rw [if_neg c2]; exact step_no h (refuse_ans _ _ _)
theorem si_gen {N : Nat} {v : SV} (h : SI N v) (x y : Int32) : STEP N (f_X7_carryGenerator v x y) := by
  unfold f_X7_carryGenerator
  by_cases c : f_X9_isGenerator x = 0
  · rw [if_pos c]; exact step_no h an1
  · rw [if_neg c]
    obtain ⟨b, hb, eb⟩ := h.2.2.2.2.1
    by_cases c2 : f_X7_refusalToCarry v (f_X2_placeOf v.2.1 x x.toNatClampNeg) y = 0
    · rw [if_pos c2]
      by_cases c3 : y = 0
      · rw [if_pos c3]
        show ANS (f_X7_thingsInVan (v.1, f_X2_put v.2.1 x x.toNatClampNeg v.2.2.2.2.2.1, v.2.2)) ∧ SI N (v.1, f_X2_put v.2.1 x x.toNatClampNeg v.2.2.2.2.2.1, v.2.2)
        exact ⟨things_ans _, h.1, put_gi h.2.1 (by rw [eb]; exact pr_barn hb) x, h.2.2⟩
      · rw [if_neg c3]
        show ANS (f_X7_thingsInVan (v.1, f_X2_put v.2.1 x x.toNatClampNeg (-1), v.2.2)) ∧ SI N (v.1, f_X2_put v.2.1 x x.toNatClampNeg (-1), v.2.2)
        exact ⟨things_ans _, h.1, put_gi h.2.1 pr_van x, h.2.2⟩
    · rw [if_neg c2]; exact step_no h (refuse_ans _ _ _)
theorem sale_nat {y : Int32} (h : ¬ f_X9_isFuelOnSale y = 0) : ∃ k, y = nI k ∧ 5 ≤ k ∧ k ≤ 500 := by
  unfold f_X9_isFuelOnSale at h
  by_cases c2 : y < 5
  · rw [if_pos c2] at h; exact absurd rfl h
  · by_cases c3 : 500 < y
    · rw [if_neg c2, if_pos c3] at h; exact absurd rfl h
    · exact rg_lh 5 500 c2 c3 rfl rfl (by decide) (by decide)
theorem price_nat {y : Int32} (h : ¬ f_X9_isPrice y = 0) : ∃ k, y = nI k ∧ 1 ≤ k ∧ k ≤ 99 := by
  unfold f_X9_isPrice at h
  by_cases c2 : y < 1
  · rw [if_pos c2] at h; exact absurd rfl h
  · by_cases c3 : 99 < y
    · rw [if_neg c2, if_pos c3] at h; exact absurd rfl h
    · exact rg_lh 1 99 c2 c3 rfl rfl (by decide) (by decide)
theorem add_gi {g : GV} (h : GI g) {j : Nat} {y : Int32} (hm : ∃ m, m ≤ 500 ∧ g.2 j + y = nI m) (i : Int32) : GI (f_X2_addMinutes g i j y) := by
  intro a ha
  obtain ⟨p0, p1⟩ := h a ha
  unfold f_X2_addMinutes
  refine ⟨p0, ?_⟩
  show ∃ m, m ≤ 500 ∧ upd g.2 j (g.2 j + y) a = nI m
  by_cases c : a = j
  · subst c; rw [upd_s]; exact hm
  · rw [upd_n c]; exact p1
theorem si_fuel {N : Nat} {v : SV} (h : SI N v) (x y : Int32) : STEP N (f_X7_buyFuel v x y) := by
  unfold f_X7_buyFuel
  by_cases c : f_X9_isGenerator x = 0
  · rw [if_pos c]; exact step_no h an1
  · rw [if_neg c]
    by_cases c1 : f_X9_isFuelOnSale y = 0
    · rw [if_pos c1]; exact step_no h an2
    · rw [if_neg c1]
      by_cases c2 : f_X2_placeOf v.2.1 x x.toNatClampNeg = -1
      · rw [if_pos c2]
        by_cases c3 : f_X2_minutesOf v.2.1 x x.toNatClampNeg + y ≤ 500
        · rw [if_pos c3]
          obtain ⟨j, ej, hj⟩ := isGen_nat c
          have ex : x.toNatClampNeg = j := by rw [ej]; exact nI_clm (by omega)
          rw [ex] at c3 ⊢
          obtain ⟨k, ek, hk1, hk2⟩ := sale_nat c1
          obtain ⟨_, m, hm, em⟩ := h.2.1 j hj
          have e3 : v.2.1.2 j + y = nI (m + k) := nadd em ek
          have c4 : v.2.1.2 j + y ≤ 500 := c3
          rw [e3] at c4
          have c5 := (nle_iff (nrf (m + k)) (nlit 500) (by omega) (by omega)).mp c4
          obtain ⟨h1, h2, h3, h4, h5⟩ := h
          refine ⟨?_, h1, add_gi h2 ⟨m + k, c5, e3⟩ x, h3, h4, h5⟩
          show ANS (upd v.2.1.2 j (v.2.1.2 j + y) x.toNatClampNeg)
          rw [ex, upd_s, e3]
          exact ans_nI (by omega)
        · rw [if_neg c3]; exact step_no h an3
      · rw [if_neg c2]; exact step_no h an4
theorem new_ri {r : RV} (h : RI r) {i : Int32} {j : Nat} (e : i = nI j) : RI (f_X4_makeNew r i j) := by
  intro a ha
  obtain ⟨p0, p1, p2, m, s, e1, e2, e3, e4⟩ := h a ha
  unfold f_X4_makeNew
  by_cases c : a = j
  · subst c
    refine ⟨p0, ⟨0, by omega, upd_s _ _ _⟩, ⟨0, by omega, upd_s _ _ _⟩, 8 + a, 0, by omega, ?_, upd_s _ _ _, fun _ => by omega⟩
    show upd r.2.1 a (8 + i) a = _
    rw [upd_s]; exact nadd (nlit 8) e
  · refine ⟨p0, ?_, ?_, m, s, e1, ?_, ?_, e4⟩
    · show ∃ w, w < 40 ∧ upd r.2.2.1 j 0 a = nI w
      rw [upd_n c]; exact p1
    · show ∃ p, p < 32 ∧ upd r.2.2.2.2 j 0 a = nI p
      rw [upd_n c]; exact p2
    · show upd r.2.1 j (8 + i) a = _
      rw [upd_n c]; exact e2
    · show upd r.2.2.2.1 j 0 a = _
      rw [upd_n c]; exact e3
theorem si_renew {N : Nat} {v : SV} (h : SI N v) (x : Int32) : STEP N (f_X7_renewReel v x) := by
  unfold f_X7_renewReel
  by_cases c : f_X4_isThere v.1 x = 0
  · rw [if_pos c]; exact step_no h an1
  · rw [if_neg c]
    by_cases c2 : f_X4_placeOf v.1 x x.toNatClampNeg = -1
    · rw [if_pos c2]
      obtain ⟨j, ej, hj, hg⟩ := isThere_nat c
      have ex : x.toNatClampNeg = j := by rw [ej]; exact nI_clm (by omega)
      rw [ex]
      obtain ⟨h1, h2, h3, h4, h5⟩ := h
      refine ⟨?_, new_ri h1 ej, h2, h3, h4, h5⟩
      show ANS (upd v.1.2.1 j (8 + x) x.toNatClampNeg)
      rw [ex, upd_s, show (8 : Int32) + x = nI (8 + j) from nadd (nlit 8) ej]
      exact ans_nI (by omega)
    · rw [if_neg c2]; exact step_no h an4
theorem si_price {N : Nat} {v : SV} (h : SI N v) (x : Int32) : STEP N (f_X7_changePrice v x) := by
  unfold f_X7_changePrice
  by_cases c : f_X9_isPrice x = 0
  · rw [if_pos c]; exact step_no h an2
  · rw [if_neg c]
    by_cases c2 : x = v.2.2.2.2.2.2.2
    · rw [if_pos c2]; exact step_no h an5
    · rw [if_neg c2]
      obtain ⟨p, ep, hp1, hp2⟩ := price_nat c
      obtain ⟨h1, h2, h3, h4, h5, q, hq1, hq2, eq⟩ := h
      refine ⟨?_, h1, h2, h3, h4, h5, p, hp1, hp2, ep⟩
      show ANS v.2.2.2.2.2.2.2
      rw [eq]; exact ans_nI (by omega)
theorem si_day {N : Nat} {v : SV} (h : SI N v) : STEP N (f_X7_beginNextDay v) := by
  unfold f_X7_beginNextDay
  by_cases c : v.2.2.2.2.2.2.1 < 9999
  · rw [if_pos c]
    obtain ⟨h1, h2, ⟨dd, T, a1, a2, a3, a4, a5, a6⟩, h4, h5, h6⟩ := h
    have e : v.2.2.2.2.2.2.1 + 1 = nI (dd + 1) := nadd a3 (nlit 1)
    have hd : dd < 9999 := by
      rw [a3] at c
      exact (nlt_iff (nrf dd) (nlit 9999) (by omega) (by omega)).mp c
    refine ⟨?_, h1, h2, ⟨dd + 1, T, by omega, a2, e, a4, bi_mono a5 (Nat.le_refl _) (by omega), li_mono a6 (by omega)⟩, h4, h5, h6⟩
    show ANS (v.2.2.2.2.2.2.1 + 1)
    rw [e]; exact ans_nI (by omega)
  · rw [if_neg c]; exact step_no h an3
