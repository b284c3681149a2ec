/-! what the law asks of a show is so -/
theorem rec_no {w : PV} {x : Int32} (h : x < 0) : f_X9_recorded w x = (x, w.2.2.2.1) := by
  unfold f_X9_recorded
  rw [if_pos h]
theorem rec_yes {w : PV} {x : Int32} (h : ¬ x < 0) : f_X9_recorded w x = (x, f_X3_add w.2.2.2.1 w.2.1) := by
  unfold f_X9_recorded
  rw [if_neg h]; rfl
theorem why_neg {s : SV} {x : Int32} {k : Nat} : -10000010 - f_X7_reasonAgainst s x k < 0 := by
  rcases why_cases s x k with e | e | e | e | e <;> rw [e] <;> decide
section SO
variable {N : Nat} {v : PV}
theorem show_no {b : Nat} (hb : b < 5) (c : ¬ f_X7_reasonAgainst v.1 (nI b) b = 0) : f_X9_show v (nI b) = (-10000010 - f_X7_reasonAgainst v.1 (nI b) b, (v.1, v.1, v.2.2.1, v.2.2.2.1, v.2.2.2.2)) := by
  have e : f_X7_showIn v.1 (nI b) = (-10000010 - f_X7_reasonAgainst v.1 (nI b) b, v.1) := by
    unfold f_X7_showIn
    rw [if_neg (barn_of hb), nI_clm (by omega), if_neg c]
  unfold f_X9_show f_X9_show_q8 f_X9_show_q17 f_X9_show_q20
  rw [copy_eq, e]
  dsimp only
  rw [rec_no why_neg]
theorem show_yes {b : Nat} (hb : b < 5) {q : Int32} (hq : ¬ q < 0) {S : SV} (e : f_X7_showIn v.1 (nI b) = (q, S)) : f_X9_show v (nI b) = (q, (S, v.1, v.2.2.1, f_X3_add v.2.2.2.1 v.1, v.2.2.2.2)) := by
  unfold f_X9_show f_X9_show_q8 f_X9_show_q17 f_X9_show_q20
  rw [copy_eq, e]
  dsimp only
  rw [rec_yes hq]
/-- what is undone: the State before, by the newest row of the history -/
theorem undo_val {w : PV} {hv : HV} {s0 : SV} (hh : HI hv) (e : w.2.2.2.1 = f_X3_add hv s0) : ¬ (f_X9_undo w).1 < 0 ∧ (f_X9_undo w).2.1 = s0 ∧ HI (f_X9_undo w).2.2.2.2.1 := by
  obtain ⟨p, k, hp, hk, e1, e2⟩ := hh
  obtain ⟨a1, a2, a3⟩ := hst_add hv s0 hp e1
  rw [sz_add hk e2] at a3
  unfold f_X9_undo
  rw [e]
  generalize f_X3_add hv s0 = G at a1 a2 a3 ⊢
  have hm : 1 ≤ min (k + 1) 4 := by omega
  have hm4 : min (k + 1) 4 ≤ 4 := by omega
  generalize min (k + 1) 4 = m at a3 hm hm4 ⊢
  have n0 : ¬ G.2.2 = 0 := by
    rw [a3]; intro z
    have := (neq_iff (nrf m) (nlit 0) (by omega) (by omega)).mp z
    omega
  have ei : (G.2.1 + 4) - 1 - ((G.2.1 + 4) - 1) / 4 * 4 = nI p := by
    have q1 : (G.2.1 + 4) - 1 = nI ((p + 1) % 4 + 4 - 1) := nsub (nadd a2 (nlit 4)) (nlit 1) (by omega)
    have q2 := nrem q1 (nlit 4) (by omega) (by decide) (by decide)
    rw [show ((p + 1) % 4 + 4 - 1) % 4 = p by omega] at q2
    exact q2
  have es : G.2.2 - 1 = nI (m - 1) := nsub a3 (nlit 1) hm
  have key : f_X3_takeLatestInto G w.1 = (1, ((G.1, nI p, nI (m - 1)), s0)) := by
    unfold f_X3_takeLatestInto
    unfold f_X3_takeLatestInto_q43 f_X3_takeLatestInto_q43_1 f_X3_takeLatestInto_q43_2 f_X3_takeLatestInto_q43_3
    rw [if_neg n0, ei, es]
    simp only [copy_eq]
    rcases (show p = 0 ∨ p = 1 ∨ p = 2 ∨ p = 3 by omega) with rfl | rfl | rfl | rfl
    · rw [if_pos (show nI 0 = 0 from rfl)]
      rw [show G.1.1 = s0 from a1]
    · rw [if_neg (show ¬ nI 1 = 0 by decide), if_pos (show nI 1 = 1 from rfl)]
      rw [show G.1.2.1 = s0 from a1]
    · rw [if_neg (show ¬ nI 2 = 0 by decide), if_neg (show ¬ nI 2 = 1 by decide), if_pos (show nI 2 = 2 from rfl)]
      rw [show G.1.2.2.1 = s0 from a1]
    · rw [if_neg (show ¬ nI 3 = 0 by decide), if_neg (show ¬ nI 3 = 1 by decide), if_neg (show ¬ nI 3 = 2 by decide)]
      rw [show G.1.2.2.2 = s0 from a1]
  rw [key]
  unfold f_X9_undo_q8
  rw [if_neg (show ¬ (1 : Int32) = 0 by decide)]
  exact ⟨nI_pos (by omega), rfl, p, m - 1, hp, by omega, rfl, rfl⟩
theorem l_yesq90 (h : INV N v) (hN : N ≤ 1000) {b : Nat} (hb : b < 5) (c : f_X7_reasonAgainst v.1 (nI b) b = 0) (hj : f_X2_lowestWith v.1.2.1 (nI b) (f_X4_minutesIn v.1.1 (nI b)) = nI 1) : (f_L_isShowSo_q90 v (nI b) (f_X9_show v (nI b))).1 = 1 ∧ INV N (f_L_isShowSo_q90 v (nI b) (f_X9_show v (nI b))).2 := by
  obtain ⟨j, n, m, hj2, k1, em, hnm, hm, en, e⟩ := show_val h.1 hb c
  obtain ⟨q, hq, eq⟩ := take_sm h.1 hb
  have ej : j = 1 := by
    have z := k1.symm.trans hj
    exact (neq_iff (nrf j) (nrf 1) (by omega) (by omega)).mp z
  subst ej
  have hpr : ¬ f_X9_isPrice v.1.2.2.2.2.2.2.2 = 0 := by
    obtain ⟨p, hp1, hp2, ep⟩ := h.1.2.2.2.2.2
    rw [ep]
    unfold f_X9_isPrice
    rw [if_neg (fun z => by have := (nlt_iff (nrf p) (nlit 1) (by omega) (by omega)).mp z; omega), if_neg (fun z => by have := (nlt_iff (nlit 99) (nrf p) (by omega) (by omega)).mp z; omega)]
    decide
  obtain ⟨dd, T, a1, a2, a3, a4, a5, a6⟩ := h.1.2.2.1
  obtain ⟨cb, eb, hcb, heb, es, el⟩ := a5 b hb
  have f1 : f_X9_ifPrice v (nI b) (f_X9_count v 11) = nI q := by rw [count_11, price_of hb hpr, eq]
  have hqn : ¬ nI q < 0 := nI_pos (by omega)
  have b4 : f_X9_barn v (nI b) 4 = f_X4_minutesIn v.1.1 (nI b) := barn_4 hb
  have b5 : f_X9_barn v (nI b) 5 = f_X7_peopleIn v.1 (nI b) b := barn_5 hb
  have b6 : f_X9_barn v (nI b) 6 = 0 := by rw [barn_6 hb]; exact c
  rw [eq] at e
  have hl := log_new v.1.2.2.2.1 v.1.2.2.2.2.2.2.1 (nI b) (f_X7_peopleIn v.1 (nI b) b) (nI q) (f_X4_minutesIn v.1.1 (nI b))
  have hl2 : (f_X6_add v.1.2.2.2.1 v.1.2.2.2.2.2.2.1 (nI b) (f_X7_peopleIn v.1 (nI b) b) (nI q) (f_X4_minutesIn v.1.1 (nI b))).2 = nI (min (T + 1) 6) := by
    rw [a3]; exact (li_add a6 _ _ _ _).1
  generalize f_X6_add v.1.2.2.2.1 v.1.2.2.2.2.2.2.1 (nI b) (f_X7_peopleIn v.1 (nI b) b) (nI q) (f_X4_minutesIn v.1.1 (nI b)) = LG at e hl hl2
  generalize f_X4_playAllIn v.1.1 (nI b) b = PP at e
  generalize f_X4_minutesIn v.1.1 (nI b) = mn at e b4 hl
  generalize f_X7_peopleIn v.1 (nI b) b = pp at e b5 hl
  generalize hSS : ((PP.2, (v.1.2.1.1, upd v.1.2.1.2 1 (v.1.2.1.2 1 - mn)), f_X1_addShow v.1.2.2.1 (nI b) b v.1.2.2.2.2.2.2.1 (nI q), LG, f_X0_addShow v.1.2.2.2.2.1 pp (nI q) PP.1, v.1.2.2.2.2.2.1, v.1.2.2.2.2.2.2.1, v.1.2.2.2.2.2.2.2) : SV) = SS at e
  have t1 : SS.2.2.2.2.1.1 = v.1.2.2.2.2.1.1 + nI q := by rw [← hSS]; rfl
  have t2 : SS.2.1.2 1 = v.1.2.1.2 1 - mn := by rw [← hSS]; exact upd_s v.1.2.1.2 1 (v.1.2.1.2 1 - mn)
  have t3 : SS.2.2.2.2.1.2.2.2.2.2.1 = v.1.2.2.2.2.1.2.2.2.2.2.1 + pp := by rw [← hSS]; rfl
  have t4 : SS.2.2.2.1 = LG := by rw [← hSS]
  have t5 : SS.2.2.2.2.2.2.1 = v.1.2.2.2.2.2.2.1 := by rw [← hSS]
  have t6 : SS.2.2.1.2.1 b = nI (cb + 1) := by
    rw [← hSS]
    show upd v.1.2.2.1.2.1 b (v.1.2.2.1.2.1 b + 1) b = _
    rw [upd_s]; exact nadd es (nlit 1)
  have t7 : SS.2.2.1.1 b = SS.2.2.2.2.2.2.1 := by
    rw [← hSS]; exact upd_s v.1.2.2.1.1 b v.1.2.2.2.2.2.2.1
  have t8 : f_X7_reasonAgainst SS (nI b) b = 1 := by
    unfold f_X7_reasonAgainst f_X1_hadShowOn
    rw [t6, t7, if_neg (show ¬ nI (cb + 1) ≤ 0 from fun z => by
      have := (nle_iff (nrf (cb + 1)) (nlit 0) (by omega) (by omega)).mp z
      omega), if_pos rfl, if_neg (show ¬ (1 : Int32) = 0 by decide)]
  clear hSS
  have w1 := show_yes (v := v) hb hqn e
  rw [w1]
  generalize hw : ((SS, v.1, v.2.2.1, f_X3_add v.2.2.2.1 v.1, v.2.2.2.2) : PV) = w
  have u1 : w.1 = SS := by rw [← hw]
  have u2 : w.2.2.2.1 = f_X3_add v.2.2.2.1 v.1 := by rw [← hw]
  have w2 := show_no (v := w) hb (by rw [u1, t8]; decide)
  rw [u1, t8] at w2
  generalize hx : ((SS, SS, w.2.2.1, w.2.2.2.1, w.2.2.2.2) : PV) = x at w2
  have x1 : x.1 = SS := by rw [← hx]
  have x2 : x.2.2.2.1 = f_X3_add v.2.2.2.1 v.1 := by rw [← hx]; exact u2
  obtain ⟨y1, y2, y3⟩ := undo_val h.2 x2
  have sz : x.1.2.2.2.1.2 = nI (min (T + 1) 6) := by rw [x1, t4]; exact hl2
  have ls : ∀ (y : Nat) (z : Int32), z = nI y → y < 5 → f_X9_showOf x 0 z = LG.1 y := fun y z ez hy => by
    rw [past_k (x := 0) sz (by omega) (nlit 0) (by omega) ez hy, if_neg (by omega), x1, t4, Nat.zero_mul, Nat.zero_add]
  have g3 : f_X9_generator w 1 1 = f_X9_generator v 1 1 - mn := by
    have q1 := gen_1 (v := w) (k := 1) (by omega)
    have q2 := gen_1 (v := v) (k := 1) (by omega)
    rw [u1, t2, ← q2] at q1
    exact q1
  unfold f_L_isShowSo_q90
  dsimp only
  rw [b6, b4, b5, f1, if_pos (show (0 : Int32) ≤ 0 by decide), if_pos rfl, count_4, count_4, count_10, count_10, u1, t1, t3, if_pos rfl, g3, if_pos rfl, if_pos rfl, barn_6 hb, u1, t8, if_pos rfl, w2]
  unfold f_L_isShowSo_q185
  dsimp only
  rw [ls 1 1 (nlit 1) (by omega), ls 2 2 (nlit 2) (by omega), ls 3 3 (nlit 3) (by omega), ls 4 4 (nlit 4) (by omega), ls 0 0 (nlit 0) (by omega), hl.1, hl.2.1, hl.2.2.1, hl.2.2.2.1, hl.2.2.2.2, b4, b5, count_0, x1, t5]
  rw [if_pos (show (-10000010 - 1 : Int32) = -10000011 by decide), if_pos rfl, if_pos rfl, if_pos rfl, if_pos rfl, if_pos rfl]
  unfold f_L_isShowSo_q258_13
  rw [if_neg y1, count_4, y2, count_4, if_pos rfl]
  exact ⟨rfl, by rw [y2]; exact h.1, y3⟩
theorem l_noq90 (h : INV N v) {b : Nat} (hb : b < 5) (c : ¬ f_X7_reasonAgainst v.1 (nI b) b = 0) : (f_L_isShowSo_q90 v (nI b) (f_X9_show v (nI b))).1 = 1 ∧ INV N (f_L_isShowSo_q90 v (nI b) (f_X9_show v (nI b))).2 := by
  have w := show_no (v := v) hb c
  have b6 : f_X9_barn v (nI b) 6 = f_X7_reasonAgainst v.1 (nI b) b := barn_6 hb
  have ng : ¬ f_X7_reasonAgainst v.1 (nI b) b ≤ 0 := by
    rcases why_cases v.1 (nI b) b with e | e | e | e | e
    · exact absurd e c
    · rw [e]; decide
    · rw [e]; decide
    · rw [e]; decide
    · rw [e]; decide
  unfold f_L_isShowSo_q90
  rw [w, b6, if_neg ng, if_pos rfl, if_pos (by rw [count_4, count_4])]
  exact ⟨rfl, h.1, h.2⟩
theorem l_yesq90_14 (h : INV N v) (hN : N ≤ 1000) {b : Nat} (hb : b < 5) (c : f_X7_reasonAgainst v.1 (nI b) b = 0) (hj : f_X2_lowestWith v.1.2.1 (nI b) (f_X4_minutesIn v.1.1 (nI b)) = nI 1) : (f_L_isShowSo_q90_14 v (nI b) (f_X9_show v (nI b))).1 = 1 ∧ INV N (f_L_isShowSo_q90_14 v (nI b) (f_X9_show v (nI b))).2 := by
  obtain ⟨j, n, m, hj2, k1, em, hnm, hm, en, e⟩ := show_val h.1 hb c
  obtain ⟨q, hq, eq⟩ := take_sm h.1 hb
  have ej : j = 1 := by
    have z := k1.symm.trans hj
    exact (neq_iff (nrf j) (nrf 1) (by omega) (by omega)).mp z
  subst ej
  have hpr : ¬ f_X9_isPrice v.1.2.2.2.2.2.2.2 = 0 := by
    obtain ⟨p, hp1, hp2, ep⟩ := h.1.2.2.2.2.2
    rw [ep]
    unfold f_X9_isPrice
    rw [if_neg (fun z => by have := (nlt_iff (nrf p) (nlit 1) (by omega) (by omega)).mp z; omega), if_neg (fun z => by have := (nlt_iff (nlit 99) (nrf p) (by omega) (by omega)).mp z; omega)]
    decide
  obtain ⟨dd, T, a1, a2, a3, a4, a5, a6⟩ := h.1.2.2.1
  obtain ⟨cb, eb, hcb, heb, es, el⟩ := a5 b hb
  have f1 : f_X9_ifPrice v (nI b) (f_X9_count v 11) = nI q := by rw [count_11, price_of hb hpr, eq]
  have hqn : ¬ nI q < 0 := nI_pos (by omega)
  have b4 : f_X9_barn v (nI b) 4 = f_X4_minutesIn v.1.1 (nI b) := barn_4 hb
  have b5 : f_X9_barn v (nI b) 5 = f_X7_peopleIn v.1 (nI b) b := barn_5 hb
  have b6 : f_X9_barn v (nI b) 6 = 0 := by rw [barn_6 hb]; exact c
  rw [eq] at e
  have hl := log_new v.1.2.2.2.1 v.1.2.2.2.2.2.2.1 (nI b) (f_X7_peopleIn v.1 (nI b) b) (nI q) (f_X4_minutesIn v.1.1 (nI b))
  have hl2 : (f_X6_add v.1.2.2.2.1 v.1.2.2.2.2.2.2.1 (nI b) (f_X7_peopleIn v.1 (nI b) b) (nI q) (f_X4_minutesIn v.1.1 (nI b))).2 = nI (min (T + 1) 6) := by
    rw [a3]; exact (li_add a6 _ _ _ _).1
  generalize f_X6_add v.1.2.2.2.1 v.1.2.2.2.2.2.2.1 (nI b) (f_X7_peopleIn v.1 (nI b) b) (nI q) (f_X4_minutesIn v.1.1 (nI b)) = LG at e hl hl2
  generalize f_X4_playAllIn v.1.1 (nI b) b = PP at e
  generalize f_X4_minutesIn v.1.1 (nI b) = mn at e b4 hl
  generalize f_X7_peopleIn v.1 (nI b) b = pp at e b5 hl
  generalize hSS : ((PP.2, (v.1.2.1.1, upd v.1.2.1.2 1 (v.1.2.1.2 1 - mn)), f_X1_addShow v.1.2.2.1 (nI b) b v.1.2.2.2.2.2.2.1 (nI q), LG, f_X0_addShow v.1.2.2.2.2.1 pp (nI q) PP.1, v.1.2.2.2.2.2.1, v.1.2.2.2.2.2.2.1, v.1.2.2.2.2.2.2.2) : SV) = SS at e
  have t1 : SS.2.2.2.2.1.1 = v.1.2.2.2.2.1.1 + nI q := by rw [← hSS]; rfl
  have t2 : SS.2.1.2 1 = v.1.2.1.2 1 - mn := by rw [← hSS]; exact upd_s v.1.2.1.2 1 (v.1.2.1.2 1 - mn)
  have t3 : SS.2.2.2.2.1.2.2.2.2.2.1 = v.1.2.2.2.2.1.2.2.2.2.2.1 + pp := by rw [← hSS]; rfl
  have t4 : SS.2.2.2.1 = LG := by rw [← hSS]
  have t5 : SS.2.2.2.2.2.2.1 = v.1.2.2.2.2.2.2.1 := by rw [← hSS]
  have t6 : SS.2.2.1.2.1 b = nI (cb + 1) := by
    rw [← hSS]
    show upd v.1.2.2.1.2.1 b (v.1.2.2.1.2.1 b + 1) b = _
    rw [upd_s]; exact nadd es (nlit 1)
  have t7 : SS.2.2.1.1 b = SS.2.2.2.2.2.2.1 := by
    rw [← hSS]; exact upd_s v.1.2.2.1.1 b v.1.2.2.2.2.2.2.1
  have t8 : f_X7_reasonAgainst SS (nI b) b = 1 := by
    unfold f_X7_reasonAgainst f_X1_hadShowOn
    rw [t6, t7, if_neg (show ¬ nI (cb + 1) ≤ 0 from fun z => by
      have := (nle_iff (nrf (cb + 1)) (nlit 0) (by omega) (by omega)).mp z
      omega), if_pos rfl, if_neg (show ¬ (1 : Int32) = 0 by decide)]
  clear hSS
  have w1 := show_yes (v := v) hb hqn e
  rw [w1]
  generalize hw : ((SS, v.1, v.2.2.1, f_X3_add v.2.2.2.1 v.1, v.2.2.2.2) : PV) = w
  have u1 : w.1 = SS := by rw [← hw]
  have u2 : w.2.2.2.1 = f_X3_add v.2.2.2.1 v.1 := by rw [← hw]
  have w2 := show_no (v := w) hb (by rw [u1, t8]; decide)
  rw [u1, t8] at w2
  generalize hx : ((SS, SS, w.2.2.1, w.2.2.2.1, w.2.2.2.2) : PV) = x at w2
  have x1 : x.1 = SS := by rw [← hx]
  have x2 : x.2.2.2.1 = f_X3_add v.2.2.2.1 v.1 := by rw [← hx]; exact u2
  obtain ⟨y1, y2, y3⟩ := undo_val h.2 x2
  have sz : x.1.2.2.2.1.2 = nI (min (T + 1) 6) := by rw [x1, t4]; exact hl2
  have ls : ∀ (y : Nat) (z : Int32), z = nI y → y < 5 → f_X9_showOf x 0 z = LG.1 y := fun y z ez hy => by
    rw [past_k (x := 0) sz (by omega) (nlit 0) (by omega) ez hy, if_neg (by omega), x1, t4, Nat.zero_mul, Nat.zero_add]
  have g3 : f_X9_generator w 1 1 = f_X9_generator v 1 1 - mn := by
    have q1 := gen_1 (v := w) (k := 1) (by omega)
    have q2 := gen_1 (v := v) (k := 1) (by omega)
    rw [u1, t2, ← q2] at q1
    exact q1
  unfold f_L_isShowSo_q90_14
  dsimp only
  rw [b6, b4, b5, f1, if_pos (show (0 : Int32) ≤ 0 by decide), if_pos rfl, count_4, count_4, count_10, count_10, u1, t1, t3, if_pos rfl, g3, if_pos rfl, if_pos rfl, barn_6 hb, u1, t8, if_pos rfl, w2]
  unfold f_L_isShowSo_q185_20
  dsimp only
  rw [ls 1 1 (nlit 1) (by omega), ls 2 2 (nlit 2) (by omega), ls 3 3 (nlit 3) (by omega), ls 4 4 (nlit 4) (by omega), ls 0 0 (nlit 0) (by omega), hl.1, hl.2.1, hl.2.2.1, hl.2.2.2.1, hl.2.2.2.2, b4, b5, count_0, x1, t5]
  rw [if_pos (show (-10000010 - 1 : Int32) = -10000011 by decide), if_pos rfl, if_pos rfl, if_pos rfl, if_pos rfl, if_pos rfl]
  unfold f_L_isShowSo_q258_27
  rw [if_neg y1, count_4, y2, count_4, if_pos rfl]
  exact ⟨rfl, by rw [y2]; exact h.1, y3⟩
theorem l_noq90_14 (h : INV N v) {b : Nat} (hb : b < 5) (c : ¬ f_X7_reasonAgainst v.1 (nI b) b = 0) : (f_L_isShowSo_q90_14 v (nI b) (f_X9_show v (nI b))).1 = 1 ∧ INV N (f_L_isShowSo_q90_14 v (nI b) (f_X9_show v (nI b))).2 := by
  have w := show_no (v := v) hb c
  have b6 : f_X9_barn v (nI b) 6 = f_X7_reasonAgainst v.1 (nI b) b := barn_6 hb
  have ng : ¬ f_X7_reasonAgainst v.1 (nI b) b ≤ 0 := by
    rcases why_cases v.1 (nI b) b with e | e | e | e | e
    · exact absurd e c
    · rw [e]; decide
    · rw [e]; decide
    · rw [e]; decide
    · rw [e]; decide
  unfold f_L_isShowSo_q90_14
  rw [w, b6, if_neg ng, if_pos rfl, if_pos (by rw [count_4, count_4])]
  exact ⟨rfl, h.1, h.2⟩
theorem l_yesq90_28 (h : INV N v) (hN : N ≤ 1000) {b : Nat} (hb : b < 5) (c : f_X7_reasonAgainst v.1 (nI b) b = 0) (hj : f_X2_lowestWith v.1.2.1 (nI b) (f_X4_minutesIn v.1.1 (nI b)) = nI 0) : (f_L_isShowSo_q90_28 v (nI b) (f_X9_show v (nI b))).1 = 1 ∧ INV N (f_L_isShowSo_q90_28 v (nI b) (f_X9_show v (nI b))).2 := by
  obtain ⟨j, n, m, hj2, k1, em, hnm, hm, en, e⟩ := show_val h.1 hb c
  obtain ⟨q, hq, eq⟩ := take_sm h.1 hb
  have ej : j = 0 := by
    have z := k1.symm.trans hj
    exact (neq_iff (nrf j) (nrf 0) (by omega) (by omega)).mp z
  subst ej
  have hpr : ¬ f_X9_isPrice v.1.2.2.2.2.2.2.2 = 0 := by
    obtain ⟨p, hp1, hp2, ep⟩ := h.1.2.2.2.2.2
    rw [ep]
    unfold f_X9_isPrice
    rw [if_neg (fun z => by have := (nlt_iff (nrf p) (nlit 1) (by omega) (by omega)).mp z; omega), if_neg (fun z => by have := (nlt_iff (nlit 99) (nrf p) (by omega) (by omega)).mp z; omega)]
    decide
  obtain ⟨dd, T, a1, a2, a3, a4, a5, a6⟩ := h.1.2.2.1
  obtain ⟨cb, eb, hcb, heb, es, el⟩ := a5 b hb
  have f1 : f_X9_ifPrice v (nI b) (f_X9_count v 11) = nI q := by rw [count_11, price_of hb hpr, eq]
  have hqn : ¬ nI q < 0 := nI_pos (by omega)
  have b4 : f_X9_barn v (nI b) 4 = f_X4_minutesIn v.1.1 (nI b) := barn_4 hb
  have b5 : f_X9_barn v (nI b) 5 = f_X7_peopleIn v.1 (nI b) b := barn_5 hb
  have b6 : f_X9_barn v (nI b) 6 = 0 := by rw [barn_6 hb]; exact c
  rw [eq] at e
  have hl := log_new v.1.2.2.2.1 v.1.2.2.2.2.2.2.1 (nI b) (f_X7_peopleIn v.1 (nI b) b) (nI q) (f_X4_minutesIn v.1.1 (nI b))
  have hl2 : (f_X6_add v.1.2.2.2.1 v.1.2.2.2.2.2.2.1 (nI b) (f_X7_peopleIn v.1 (nI b) b) (nI q) (f_X4_minutesIn v.1.1 (nI b))).2 = nI (min (T + 1) 6) := by
    rw [a3]; exact (li_add a6 _ _ _ _).1
  generalize f_X6_add v.1.2.2.2.1 v.1.2.2.2.2.2.2.1 (nI b) (f_X7_peopleIn v.1 (nI b) b) (nI q) (f_X4_minutesIn v.1.1 (nI b)) = LG at e hl hl2
  generalize f_X4_playAllIn v.1.1 (nI b) b = PP at e
  generalize f_X4_minutesIn v.1.1 (nI b) = mn at e b4 hl
  generalize f_X7_peopleIn v.1 (nI b) b = pp at e b5 hl
  generalize hSS : ((PP.2, (v.1.2.1.1, upd v.1.2.1.2 0 (v.1.2.1.2 0 - mn)), f_X1_addShow v.1.2.2.1 (nI b) b v.1.2.2.2.2.2.2.1 (nI q), LG, f_X0_addShow v.1.2.2.2.2.1 pp (nI q) PP.1, v.1.2.2.2.2.2.1, v.1.2.2.2.2.2.2.1, v.1.2.2.2.2.2.2.2) : SV) = SS at e
  have t1 : SS.2.2.2.2.1.1 = v.1.2.2.2.2.1.1 + nI q := by rw [← hSS]; rfl
  have t2 : SS.2.1.2 0 = v.1.2.1.2 0 - mn := by rw [← hSS]; exact upd_s v.1.2.1.2 0 (v.1.2.1.2 0 - mn)
  have t3 : SS.2.2.2.2.1.2.2.2.2.2.1 = v.1.2.2.2.2.1.2.2.2.2.2.1 + pp := by rw [← hSS]; rfl
  have t4 : SS.2.2.2.1 = LG := by rw [← hSS]
  have t5 : SS.2.2.2.2.2.2.1 = v.1.2.2.2.2.2.2.1 := by rw [← hSS]
  have t6 : SS.2.2.1.2.1 b = nI (cb + 1) := by
    rw [← hSS]
    show upd v.1.2.2.1.2.1 b (v.1.2.2.1.2.1 b + 1) b = _
    rw [upd_s]; exact nadd es (nlit 1)
  have t7 : SS.2.2.1.1 b = SS.2.2.2.2.2.2.1 := by
    rw [← hSS]; exact upd_s v.1.2.2.1.1 b v.1.2.2.2.2.2.2.1
  have t8 : f_X7_reasonAgainst SS (nI b) b = 1 := by
    unfold f_X7_reasonAgainst f_X1_hadShowOn
    rw [t6, t7, if_neg (show ¬ nI (cb + 1) ≤ 0 from fun z => by
      have := (nle_iff (nrf (cb + 1)) (nlit 0) (by omega) (by omega)).mp z
      omega), if_pos rfl, if_neg (show ¬ (1 : Int32) = 0 by decide)]
  clear hSS
  have w1 := show_yes (v := v) hb hqn e
  rw [w1]
  generalize hw : ((SS, v.1, v.2.2.1, f_X3_add v.2.2.2.1 v.1, v.2.2.2.2) : PV) = w
  have u1 : w.1 = SS := by rw [← hw]
  have u2 : w.2.2.2.1 = f_X3_add v.2.2.2.1 v.1 := by rw [← hw]
  have w2 := show_no (v := w) hb (by rw [u1, t8]; decide)
  rw [u1, t8] at w2
  generalize hx : ((SS, SS, w.2.2.1, w.2.2.2.1, w.2.2.2.2) : PV) = x at w2
  have x1 : x.1 = SS := by rw [← hx]
  have x2 : x.2.2.2.1 = f_X3_add v.2.2.2.1 v.1 := by rw [← hx]; exact u2
  obtain ⟨y1, y2, y3⟩ := undo_val h.2 x2
  have sz : x.1.2.2.2.1.2 = nI (min (T + 1) 6) := by rw [x1, t4]; exact hl2
  have ls : ∀ (y : Nat) (z : Int32), z = nI y → y < 5 → f_X9_showOf x 0 z = LG.1 y := fun y z ez hy => by
    rw [past_k (x := 0) sz (by omega) (nlit 0) (by omega) ez hy, if_neg (by omega), x1, t4, Nat.zero_mul, Nat.zero_add]
  have g3 : f_X9_generator w 0 1 = f_X9_generator v 0 1 - mn := by
    have q1 := gen_1 (v := w) (k := 0) (by omega)
    have q2 := gen_1 (v := v) (k := 0) (by omega)
    rw [u1, t2, ← q2] at q1
    exact q1
  unfold f_L_isShowSo_q90_28
  dsimp only
  rw [b6, b4, b5, f1, if_pos (show (0 : Int32) ≤ 0 by decide), if_pos rfl, count_4, count_4, count_10, count_10, u1, t1, t3, if_pos rfl, g3, if_pos rfl, if_pos rfl, barn_6 hb, u1, t8, if_pos rfl, w2]
  unfold f_L_isShowSo_q185_34
  dsimp only
  rw [ls 1 1 (nlit 1) (by omega), ls 2 2 (nlit 2) (by omega), ls 3 3 (nlit 3) (by omega), ls 4 4 (nlit 4) (by omega), ls 0 0 (nlit 0) (by omega), hl.1, hl.2.1, hl.2.2.1, hl.2.2.2.1, hl.2.2.2.2, b4, b5, count_0, x1, t5]
  rw [if_pos (show (-10000010 - 1 : Int32) = -10000011 by decide), if_pos rfl, if_pos rfl, if_pos rfl, if_pos rfl, if_pos rfl]
  unfold f_L_isShowSo_q258_41
  rw [if_neg y1, count_4, y2, count_4, if_pos rfl]
  exact ⟨rfl, by rw [y2]; exact h.1, y3⟩
theorem l_noq90_28 (h : INV N v) {b : Nat} (hb : b < 5) (c : ¬ f_X7_reasonAgainst v.1 (nI b) b = 0) : (f_L_isShowSo_q90_28 v (nI b) (f_X9_show v (nI b))).1 = 1 ∧ INV N (f_L_isShowSo_q90_28 v (nI b) (f_X9_show v (nI b))).2 := by
  have w := show_no (v := v) hb c
  have b6 : f_X9_barn v (nI b) 6 = f_X7_reasonAgainst v.1 (nI b) b := barn_6 hb
  have ng : ¬ f_X7_reasonAgainst v.1 (nI b) b ≤ 0 := by
    rcases why_cases v.1 (nI b) b with e | e | e | e | e
    · exact absurd e c
    · rw [e]; decide
    · rw [e]; decide
    · rw [e]; decide
    · rw [e]; decide
  unfold f_L_isShowSo_q90_28
  rw [w, b6, if_neg ng, if_pos rfl, if_pos (by rw [count_4, count_4])]
  exact ⟨rfl, h.1, h.2⟩
theorem l_show (h : INV N v) (hN : N ≤ 1000) {b : Nat} (hb : b < 5) : (f_L_isShowSo v (nI b)).1 = 1 ∧ INV N (f_L_isShowSo v (nI b)).2 := by
  have g0 : f_X9_generator v 0 0 = nI b ↔ v.1.2.1.1 0 = nI b := gen_at (v := v) (k := 0) (by omega) hb
  have g1 : f_X9_generator v 0 1 = v.1.2.1.2 0 := gen_1 (v := v) (k := 0) (by omega)
  have b4 : f_X9_barn v (nI b) 4 = f_X4_minutesIn v.1.1 (nI b) := barn_4 hb
  unfold f_L_isShowSo
  by_cases c : f_X7_reasonAgainst v.1 (nI b) b = 0
  · have lc := low_cases v.1.2.1 (nI b) (f_X4_minutesIn v.1.1 (nI b))
    have ln := why0_low c
    by_cases d : f_X9_generator v 0 0 = nI b
    · rw [if_pos d]
      by_cases e : f_X9_generator v 0 1 < f_X9_barn v (nI b) 4
      · rw [if_pos e]
        rw [g1, b4] at e
        refine l_yesq90_14 h hN hb c ?_
        rcases lc with z | ⟨_, _, z⟩ | ⟨z, _⟩
        · exact absurd z ln
        · exact absurd e z
        · exact z
      · rw [if_neg e]
        rw [g1, b4] at e
        refine l_yesq90_28 h hN hb c ?_
        rcases lc with z | ⟨z, _⟩ | ⟨_, _, _, z⟩
        · exact absurd z ln
        · exact z
        · exact absurd ⟨g0.mp d, e⟩ z
    · rw [if_neg d]
      refine l_yesq90 h hN hb c ?_
      rcases lc with z | ⟨_, z, _⟩ | ⟨z, _⟩
      · exact absurd z ln
      · exact absurd (g0.mpr z) d
      · exact z
  · by_cases d : f_X9_generator v 0 0 = nI b
    · rw [if_pos d]
      by_cases e : f_X9_generator v 0 1 < f_X9_barn v (nI b) 4
      · rw [if_pos e]; exact l_noq90_14 h hb c
      · rw [if_neg e]; exact l_noq90_28 h hb c
    · rw [if_neg d]; exact l_noq90 h hb c
end SO
