/-! a show -/
theorem low_ok (g : GV) (x y : Int32) : (f_X2_lowestWith g x y = 0 → ¬ g.2 0 < y) ∧ (f_X2_lowestWith g x y = 1 → ¬ g.2 1 < y) := by
  unfold f_X2_lowestWith
  by_cases c0 : g.1 0 = x <;> by_cases d0 : g.2 0 < y <;> by_cases c1 : g.1 1 = x <;> by_cases d1 : g.2 1 < y <;> simp [c0, d0, c1, d1]
theorem why_cases (s : Nat → Int32) (x : Int32) (k : Nat) : f_X10_why s x k = 0 ∨ f_X10_why s x k = 1 ∨ f_X10_why s x k = 2 ∨ f_X10_why s x k = 3 ∨ f_X10_why s x k = 4 := by
  unfold f_X10_why
  split
  · exact Or.inr (Or.inl rfl)
  · split
    · exact Or.inr (Or.inr (Or.inl rfl))
    · split
      · exact Or.inr (Or.inr (Or.inr (Or.inl rfl)))
      · split
        · exact Or.inr (Or.inr (Or.inr (Or.inr rfl)))
        · exact Or.inl rfl
theorem why_gen0 {s : Nat → Int32} {x : Int32} {k : Nat} (h : f_X10_why s x k = 0) : ¬ f_X10_generatorFor s x (f_X10_reels s x 1) = -10000005 := by
  intro e
  unfold f_X10_why at h
  rw [if_pos e] at h
  revert h
  split
  · decide
  · split
    · decide
    · split <;> decide
theorem show_gr {g : GV} {s : Nat → Int32} (h : GRel g s) {j : Nat} (hj : j < 2) (y : Int32) {t : Nat → Int32} (e : ∀ a, 50 ≤ a → a < 54 → t a = upd s (50 + 2 * j + 1) (s (50 + 2 * j + 1) - y) a) : GRel (g.1, upd g.2 j (g.2 j - y)) t := by
  intro a ha
  obtain ⟨g0, g1, g2⟩ := h a ha
  refine ⟨by rw [e _ (by omega) (by omega), upd_n (by omega)]; exact g0, ?_, g2⟩
  rw [e _ (by omega) (by omega)]
  by_cases c : a = j
  · subst c; rw [upd_s]; show _ = upd g.2 a (g.2 a - y) a; rw [upd_s, g1]
  · rw [upd_n (by omega)]; show _ = upd g.2 j (g.2 j - y) a; rw [upd_n c]; exact g1
theorem sum5 {x a0 a1 a2 a3 a4 t : Int32} (h : x = 0 + a0 + a1 + a2 + a3 + a4) : x + t = 0 + (a0 + t) + a1 + a2 + a3 + a4 ∧ x + t = 0 + a0 + (a1 + t) + a2 + a3 + a4 ∧ x + t = 0 + a0 + a1 + (a2 + t) + a3 + a4 ∧ x + t = 0 + a0 + a1 + a2 + (a3 + t) + a4 ∧ x + t = 0 + a0 + a1 + a2 + a3 + (a4 + t) := by
  subst h
  refine ⟨?_, ?_, ?_, ?_, ?_⟩ <;> ac_rfl
theorem sum_b {x t : Int32} {u s : Nat → Int32} {k : Nat} (h : x = 0 + s k + s (k + 1) + s (k + 2) + s (k + 3) + s (k + 4)) {b : Nat} (hb : b < 5) (e1 : u (k + b) = s (k + b) + t) (e2 : ∀ i, i < 5 → i ≠ b → u (k + i) = s (k + i)) : x + t = 0 + u k + u (k + 1) + u (k + 2) + u (k + 3) + u (k + 4) := by
  obtain ⟨h0, h1, h2, h3, h4⟩ := sum5 (t := t) h
  rcases (show b = 0 ∨ b = 1 ∨ b = 2 ∨ b = 3 ∨ b = 4 by omega) with rfl | rfl | rfl | rfl | rfl
  · rw [show u k = s k + t from e1, e2 1 (by omega) (by omega), e2 2 (by omega) (by omega), e2 3 (by omega) (by omega), e2 4 (by omega) (by omega)]; exact h0
  · rw [show u k = s k from e2 0 (by omega) (by omega), e1, e2 2 (by omega) (by omega), e2 3 (by omega) (by omega), e2 4 (by omega) (by omega)]; exact h1
  · rw [show u k = s k from e2 0 (by omega) (by omega), e2 1 (by omega) (by omega), e1, e2 3 (by omega) (by omega), e2 4 (by omega) (by omega)]; exact h2
  · rw [show u k = s k from e2 0 (by omega) (by omega), e2 1 (by omega) (by omega), e2 2 (by omega) (by omega), e1, e2 4 (by omega) (by omega)]; exact h3
  · rw [show u k = s k from e2 0 (by omega) (by omega), e2 1 (by omega) (by omega), e2 2 (by omega) (by omega), e2 3 (by omega) (by omega), e1]; exact h4
theorem show_rs {N : Nat} {v : SV} {s : Nat → Int32} (h : RS N v s) {b : Nat} (hb : b < 5) {j : Nat} (hj : j < 2) {n m : Nat} (hn : v.2.1.2 j = nI m) (hm : n ≤ m) (hm5 : m ≤ 500) (people take mins : Int32) (hmins : mins = nI n) {P : Int32 × RV} {t u : Nat → Int32}
    (p1 : RRel P.2 t) (p2 : t 76 = s 76 + P.1) (p3 : ∀ a, 50 ≤ a → a ≠ 76 → t a = upd s (50 + 2 * j + 1) (s (50 + 2 * j + 1) - mins) a)
    (hu : u = f_X10_log (upd (upd (upd (upd t (57 + b) 1) (62 + b) (t (62 + b) + 1)) (67 + b) (t (67 + b) + take)) 75 (upd (upd (upd t (57 + b) 1) (62 + b) (t (62 + b) + 1)) (67 + b) (t (67 + b) + take) 75 + people)) (nI b) people take mins) :
    RS (N + 1) (P.2, (v.2.1.1, upd v.2.1.2 j (v.2.1.2 j - mins)), f_X1_addShow v.2.2.1 (nI b) b v.2.2.2.2.2.2.1 take, f_X6_add v.2.2.2.1 v.2.2.2.2.2.2.1 (nI b) people take mins, f_X0_addShow v.2.2.2.2.1 people take P.1, v.2.2.2.2.2.1, v.2.2.2.2.2.2.1, v.2.2.2.2.2.2.2) u := by
  have hday := rs_day h
  obtain ⟨h1, ⟨h2, h2b⟩, ⟨dd, d1, d2, d3, h3⟩, h4, ⟨a1, a2, a3, a4, a5, a6, a7⟩, ⟨bv, hbv, v1, v2⟩, hp, hq⟩ := h
  have et : ∀ a, 54 ≤ a → a ≠ 76 → t a = s a := fun a q1 q2 => by rw [p3 a (by omega) q2, upd_n (by omega)]
  have e75 : upd (upd (upd t (57 + b) 1) (62 + b) (t (62 + b) + 1)) (67 + b) (t (67 + b) + take) 75 = s 75 := by rw [upd_n (by omega), upd_n (by omega), upd_n (by omega)]; exact et 75 (by omega) (by omega)
  rw [e75, et (62 + b) (by omega) (by omega), et (67 + b) (by omega) (by omega)] at hu
  generalize ht2 : upd (upd (upd (upd t (57 + b) 1) (62 + b) (s (62 + b) + 1)) (67 + b) (s (67 + b) + take)) 75 (s 75 + people) = t2 at hu
  have f0 : ∀ a, a ≠ 57 + b → a ≠ 62 + b → a ≠ 67 + b → a ≠ 75 → t2 a = t a := fun a q1 q2 q3 q4 => by rw [← ht2, upd_n q4, upd_n q3, upd_n q2, upd_n q1]
  have hl := log_eq (lv := v.2.2.2.1) (s := t2) (lr_agree h4 (fun a q1 q2 => by rw [f0 a (by omega) (by omega) (by omega) (by omega), et a (by omega) (by omega)])) (x1 := v.2.2.2.2.2.2.1) (by rw [f0 55 (by omega) (by omega) (by omega) (by omega), et 55 (by omega) (by omega)]; exact hday) (nI b) people take mins
  rw [← hu] at hl
  obtain ⟨l1, l2⟩ := hl
  have f1 : ∀ a, a < 77 → a ≠ 57 + b → a ≠ 62 + b → a ≠ 67 + b → a ≠ 75 → u a = t a := fun a q0 q1 q2 q3 q4 => by rw [l2 a q0, f0 a q1 q2 q3 q4]
  have f2 : ∀ a, 54 ≤ a → a < 76 → a ≠ 57 + b → a ≠ 62 + b → a ≠ 67 + b → a ≠ 75 → u a = s a := fun a q5 q0 q1 q2 q3 q4 => by rw [f1 a (by omega) q1 q2 q3 q4, et a q5 (by omega)]
  have u57 : u (57 + b) = 1 := by rw [l2 _ (by omega), ← ht2, upd_n (by omega), upd_n (by omega), upd_n (by omega), upd_s]
  have u62 : u (62 + b) = s (62 + b) + 1 := by rw [l2 _ (by omega), ← ht2, upd_n (by omega), upd_n (by omega), upd_s]
  have u67 : u (67 + b) = s (67 + b) + take := by rw [l2 _ (by omega), ← ht2, upd_n (by omega), upd_s]
  have u75 : u 75 = s 75 + people := by rw [l2 _ (by omega), ← ht2, upd_s]
  have u76 : u 76 = s 76 + P.1 := by rw [f1 76 (by omega) (by omega) (by omega) (by omega) (by omega)]; exact p2
  refine rs_mk (rr_agree p1 (fun a q => f1 a (by omega) (by omega) (by omega) (by omega) (by omega))) (show_gr h2 hj mins (fun a q1 q2 => by rw [f1 a (by omega) (by omega) (by omega) (by omega) (by omega)]; exact p3 a (by omega) (by omega))) ?_ d1 d2 (by rw [f2 55 (by omega) (by omega) (by omega) (by omega) (by omega) (by omega)]; exact d3) ?_ l1 ?_ hbv v1 (by rw [f2 54 (by omega) (by omega) (by omega) (by omega) (by omega) (by omega)]; exact v2) (by rw [f2 56 (by omega) (by omega) (by omega) (by omega) (by omega) (by omega)]; exact hp) hq
  · intro a ha
    show ∃ m, m ≤ 500 ∧ upd v.2.1.2 j (v.2.1.2 j - mins) a = nI m
    by_cases c : a = j
    · subst c; rw [upd_s]; exact ⟨m - n, by omega, nsub hn hmins hm⟩
    · rw [upd_n c]; exact h2b a ha
  · intro x hx
    obtain ⟨⟨c1, e1, g1, g2, g3, g4, g5⟩, g6, g7⟩ := h3 x hx
    unfold f_X1_addShow
    by_cases c : x = b
    · subst c
      refine ⟨⟨c1 + 1, dd, by omega, by omega, ?_, ?_, ?_⟩, ?_, ?_⟩
      · show upd v.2.2.1.2.1 x _ x = _
        rw [upd_s]; exact nadd g3 rfl
      · show upd v.2.2.1.1 x _ x = _
        rw [upd_s]; exact d2
      · rw [u57, if_pos ⟨by omega, rfl⟩]
      · show _ = upd v.2.2.1.2.1 x _ x
        rw [upd_s, u62, g6]
      · show _ = upd v.2.2.1.2.2 x _ x
        rw [upd_s, u67, g7]
    · refine ⟨⟨c1, e1, by omega, g2, ?_, ?_, ?_⟩, ?_, ?_⟩
      · show upd v.2.2.1.2.1 b _ x = _
        rw [upd_n c]; exact g3
      · show upd v.2.2.1.1 b _ x = _
        rw [upd_n c]; exact g4
      · rw [f2 _ (by omega) (by omega) (by omega) (by omega) (by omega) (by omega)]; exact g5
      · show _ = upd v.2.2.1.2.1 b _ x
        rw [upd_n c, f2 _ (by omega) (by omega) (by omega) (by omega) (by omega) (by omega)]; exact g6
      · show _ = upd v.2.2.1.2.2 b _ x
        rw [upd_n c, f2 _ (by omega) (by omega) (by omega) (by omega) (by omega) (by omega)]; exact g7
  · refine ⟨by rw [f2 72 (by omega) (by omega) (by omega) (by omega) (by omega) (by omega)]; exact a1, by rw [f2 73 (by omega) (by omega) (by omega) (by omega) (by omega) (by omega)]; exact a2, by rw [f2 74 (by omega) (by omega) (by omega) (by omega) (by omega) (by omega)]; exact a3, by rw [u75, a4]; rfl, by rw [u76, a5]; rfl, ?_, ?_⟩
    · exact sum_b (k := 67) a6 hb u67 (fun i q1 q2 => f2 _ (by omega) (by omega) (by omega) (by omega) (by omega) (by omega))
    · exact sum_b (k := 62) a7 hb u62 (fun i q1 q2 => f2 _ (by omega) (by omega) (by omega) (by omega) (by omega) (by omega))
def whF (s : Nat → Int32) (b : Nat) : Int32 := if f_X10_why s (nI b) b = 0 then 0 else -10000010 - f_X10_why s (nI b) b
theorem show_eq {N : Nat} {v : SV} {s : Nat → Int32} (h : RS N v s) (hN : N < 2 ^ 30) {b : Nat} (hb : b < 5) : OPR N v (f_X7_showIn v (nI b)) (whF s b) (f_X10_shows s (nI b) b) := by
  have h0 := h
  unfold f_X7_showIn whF
  rw [if_neg (barn_of hb), nI_clm (by omega), why_eq h hN hb]
  by_cases c : f_X10_why s (nI b) b = 0
  · rw [if_pos c, if_pos c]
    refine Or.inr ⟨rfl, ?_⟩
    have hg := why_gen0 c
    obtain ⟨n, hn, en⟩ := min_sm h.1 hb
    have emin := min_barn h.1 hb
    have epl := people_eq h hb
    obtain ⟨np, hnp, enp⟩ := people_sm h.1 hb
    obtain ⟨_, _, _, _, _, _, epr, p, hp1, hp2, ep⟩ := h
    have hlow := lowest h0.2.1.1 hb (f_X10_reels s (nI b) 1)
    have key : ∃ j, j < 2 ∧ f_X2_lowestWith v.2.1 (nI b) (f_X10_reels s (nI b) 1) = nI j ∧ f_X10_generatorFor s (nI b) (f_X10_reels s (nI b) 1) = nI j ∧ ¬ v.2.1.2 j < f_X10_reels s (nI b) 1 := by
      rcases hlow with ⟨_, g2⟩ | ⟨g1, g2⟩
      · exact absurd g2 hg
      · rcases g2 with g2 | g2
        · exact ⟨0, by omega, by rw [g1, g2]; rfl, g2, (low_ok v.2.1 (nI b) (f_X10_reels s (nI b) 1)).1 (by rw [g1, g2])⟩
        · exact ⟨1, by omega, by rw [g1, g2]; rfl, g2, (low_ok v.2.1 (nI b) (f_X10_reels s (nI b) 1)).2 (by rw [g1, g2])⟩
    obtain ⟨j, hj, k1, k2, k3⟩ := key
    obtain ⟨m, hm, em⟩ := h0.2.1.2 j hj
    have enr : f_X10_reels s (nI b) 1 = nI n := by rw [← emin]; exact en
    have hnm : n ≤ m := by
      rw [em, enr] at k3
      exact Nat.le_of_not_lt (fun z => k3 ((nlt_iff rfl rfl (by omega) (by omega)).mpr z))
    have hburn : f_X2_burn v.2.1 (nI j) (f_X10_reels s (nI b) 1) = (v.2.1.1, upd v.2.1.2 j (v.2.1.2 j - f_X10_reels s (nI b) 1)) := by
      unfold f_X2_burn
      rw [if_neg (gen_of hj), nI_clm (by omega)]
    obtain ⟨q1, q2, q3⟩ := play_all (r := v.1) (i0 := upd s (50 + 2 * j + 1) (s (50 + 2 * j + 1) - f_X10_reels s (nI b) 1)) (s := s) (rr_agree h0.1 (fun a q => upd_n (by omega))) hb 10 (Nat.le_refl _)
    unfold f_X7_showIn_q65 f_X7_showIn_q73 f_X7_showIn_q89 f_X7_showIn_q106 f_X7_showIn_q118 f_X10_shows f_X10_shows_49_x f_X10_shows_q159 f_X4_playAllIn f_X4_playAllIn_q4
    rw [nI_clm (by omega), emin, k1, hburn, k2, nI_clm (by omega), epl, ← epr]
    refine ⟨?_, rfl, ?_⟩
    · show 0 ≤ f_X10_peopleAt s (nI b) * s 56
      rw [enp, epr, ep, nmul rfl rfl]
      exact nI_nn (Nat.lt_of_le_of_lt (Nat.mul_le_mul hnp hp2) (by decide))
    · have e76 : upd s (50 + 2 * j + 1) (s (50 + 2 * j + 1) - f_X10_reels s (nI b) 1) 76 = s 76 := upd_n (by omega)
      rw [e76] at q2
      have k := show_rs h0 hb hj em hnm hm (f_X10_peopleAt s (nI b)) (f_X10_peopleAt s (nI b) * s 56) (f_X10_reels s (nI b) 1) enr q1 q2 q3 rfl
      rw [← epr] at k
      generalize lp_X10_shows_49 s (nI b) b (upd s (50 + 2 * j + 1) (s (50 + 2 * j + 1) - f_X10_reels s (nI b) 1)) 10 = t at k ⊢
      generalize lp_X4_playAllIn_4 v.1 (nI b) b (0, v.1) 10 = P at k ⊢
      dsimp only
      exact k
  · rw [if_neg c, if_neg c]
    refine Or.inl ⟨?_, rfl, rfl⟩
    rcases why_cases s (nI b) b with e | e | e | e | e
    · exact absurd e c
    · rw [e]; decide
    · rw [e]; decide
    · rw [e]; decide
    · rw [e]; decide
