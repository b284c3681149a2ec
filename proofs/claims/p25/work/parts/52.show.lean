/-! a show keeps it -/
theorem ri_set {r r2 : RV} (h : RI r) {k : Nat} (b : ∀ a, a ≠ k → r2.1 a = r.1 a ∧ r2.2.1 a = r.2.1 a ∧ r2.2.2.1 a = r.2.2.1 a ∧ r2.2.2.2.1 a = r.2.2.2.1 a ∧ r2.2.2.2.2 a = r.2.2.2.2 a)
    (c0 : PR (r2.1 k)) (c1 : ∃ w, w < 40 ∧ r2.2.2.1 k = nI w) (c2 : ∃ p, p < 32 ∧ r2.2.2.2.2 k = nI p) (c3 : ∃ m s, m + s = 8 + k ∧ r2.2.1 k = nI m ∧ r2.2.2.2.1 k = nI s ∧ (¬ r2.1 k = -2 → 3 ≤ m)) : RI r2 := by
  intro a ha
  by_cases c : a = k
  · subst c; exact ⟨c0, c1, c2, c3⟩
  · obtain ⟨b0, b1, b2, b3, b4⟩ := b a c
    obtain ⟨p0, p1, p2, m, s, e1, e2, e3, e4⟩ := h a ha
    exact ⟨by rw [b0]; exact p0, by rw [b2]; exact p1, by rw [b4]; exact p2, m, s, e1, by rw [b1]; exact e2, by rw [b3]; exact e3, by rw [b0]; exact e4⟩
theorem play_ri {r : RV} (h : RI r) {k b : Nat} (hk : k < 10) (hb : b < 5) (hp : r.1 k = nI b) : RI (f_X4_playOne r (nI k) k (nI b) b).2 := by
  obtain ⟨p0, ⟨w, hw, ew⟩, ⟨p, hpl, ep⟩, m, s, e1, e2, e3, e4⟩ := h k hk
  have hm3 : 3 ≤ m := e4 (by rw [hp]; exact nb_gone hb)
  obtain ⟨p', hp', ep'⟩ := bit_or b hb p hpl
  have ey : (5 + (nI b - nI b / 3 * 3) : Int32) = nI (5 + b % 3) := nadd rfl (nrem_any rfl (by omega))
  have ez2 : r.2.2.2.2 k ||| (1 <<< (nI b &&& 31)) = nI p' := by rw [ep]; exact ep'
  have ewy : r.2.2.1 k + (5 + (nI b - nI b / 3 * 3)) = nI (w + (5 + b % 3)) := by rw [ey]; exact nadd ew rfl
  have em1 : r.2.1 k - 1 = nI (m - 1) := nsub e2 (nlit 1) (by omega)
  have es1 : r.2.2.2.1 k + 1 = nI (s + 1) := nadd e3 (nlit 1)
  have em0 : r.2.1 k - 0 = nI m := by rw [Int32.sub_zero]; exact e2
  have es0 : r.2.2.2.1 k + 0 = nI s := by rw [Int32.add_zero]; exact e3
  have kc : nI (w + (5 + b % 3)) < 40 ↔ w + (5 + b % 3) < 40 := nlt_iff rfl (nlit 40) (by omega) (by omega)
  have kd : 3 ≤ nI m := (nle_iff (nlit 3) (nrf m) (by omega) (by omega)).mpr hm3
  unfold f_X4_playOne
  rw [ez2, ewy, em1, es1, em0, es0]
  by_cases c : nI (w + (5 + b % 3)) < 40
  · rw [if_pos c, if_pos kd]
    have c9 := kc.mp c
    exact ri_set h (k := k) (fun a c => ⟨rfl, upd_n c, upd_n c, upd_n c, upd_n c⟩) p0 ⟨_, c9, upd_s _ _ _⟩ ⟨p', hp', upd_s _ _ _⟩ ⟨m, s, e1, upd_s _ _ _, upd_s _ _ _, fun _ => hm3⟩
  · rw [if_neg c]
    have c9 : ¬ w + (5 + b % 3) < 40 := fun z => c (kc.mpr z)
    have ew2 : nI (w + (5 + b % 3)) - 20 = nI (w + (5 + b % 3) - 20) := nsub rfl (nlit 20) (by omega)
    rw [ew2]
    have kd2 : 3 ≤ nI (m - 1) ↔ 3 ≤ m - 1 := nle_iff (nlit 3) (nrf (m - 1)) (by omega) (by omega)
    by_cases d : 3 ≤ nI (m - 1)
    · rw [if_pos d]
      have d2 := kd2.mp d
      exact ri_set h (k := k) (fun a c => ⟨rfl, upd_n c, (upd_n c).trans (upd_n c), upd_n c, upd_n c⟩) p0 ⟨w + (5 + b % 3) - 20, by omega, upd_s _ _ _⟩ ⟨p', hp', upd_s _ _ _⟩ ⟨m - 1, s + 1, by omega, upd_s _ _ _, upd_s _ _ _, fun _ => d2⟩
    · rw [if_neg d]
      exact ri_set h (k := k) (fun a c => ⟨upd_n c, upd_n c, (upd_n c).trans (upd_n c), upd_n c, upd_n c⟩) (by show PR (upd r.1 k (-2) k); rw [upd_s]; exact pr_gone) ⟨w + (5 + b % 3) - 20, by omega, upd_s _ _ _⟩ ⟨p', hp', upd_s _ _ _⟩ ⟨m - 1, s + 1, by omega, upd_s _ _ _, upd_s _ _ _, fun z => absurd (upd_s _ _ _) z⟩
theorem all_ri {r : RV} (h : RI r) {b : Nat} (hb : b < 5) : RI (f_X4_playAllIn r (nI b) b).2 := by
  have key : ∀ k, k ≤ 10 → RI (lp_X4_playAllIn_4 r (nI b) b (0, r) k).2 := by
    intro k
    induction k with
    | zero => intro _; exact h
    | succ k ih =>
      intro hk
      have h1 := ih (by omega)
      rw [lp_X4_playAllIn_4_s]
      generalize lp_X4_playAllIn_4 r (nI b) b (0, r) k = q at h1 ⊢
      unfold st_X4_playAllIn_4
      by_cases c : q.2.1 k = nI b
      · rw [if_pos c]
        have h2 := play_ri h1 (by omega) hb c
        unfold f_X4_playAllIn_q24
        generalize f_X4_playOne q.2 (nI k) k (nI b) b = Y at h2 ⊢
        exact h2
      · rw [if_neg c]; exact h1
  have h3 := key 10 (Nat.le_refl _)
  unfold f_X4_playAllIn f_X4_playAllIn_4_x
  generalize lp_X4_playAllIn_4 r (nI b) b (0, r) 10 = q at h3 ⊢
  exact h3
/-! the log -/
theorem log_at (l : LV) (x1 x2 x3 x4 x5 : Int32) : ∀ k, k ≤ 25 → ∀ j, j < 30 → lp_X6_add_4 l x1 x2 x3 x4 x5 l.1 k j = if 30 - k ≤ j then l.1 (j - 5) else l.1 j := by
  intro k
  induction k with
  | zero => intro _ j hj; rw [if_neg (by omega)]; rfl
  | succ k ih =>
    intro hk j hj
    have h1 := ih (by omega)
    rw [lp_X6_add_4_s]
    generalize lp_X6_add_4 l x1 x2 x3 x4 x5 l.1 k = u at h1 ⊢
    unfold st_X6_add_4
    by_cases c : j = 29 - k
    · subst c
      rw [upd_s, h1 _ (by omega), if_neg (by omega), if_pos (by omega)]
    · rw [upd_n c, h1 j hj]
      by_cases d : 30 - k ≤ j
      · rw [if_pos d, if_pos (by omega)]
      · rw [if_neg d, if_neg (by omega)]
theorem li_add {dd T : Nat} {l : LV} (h : LI dd T l) (x2 x3 x4 x5 : Int32) : LI dd (T + 1) (f_X6_add l (nI dd) x2 x3 x4 x5) := by
  obtain ⟨h1, dy, h2, h3⟩ := h
  have hl := log_at l (nI dd) x2 x3 x4 x5 25 (Nat.le_refl _)
  unfold f_X6_add f_X6_add_4_x
  generalize lp_X6_add_4 l (nI dd) x2 x3 x4 x5 l.1 25 = u at hl ⊢
  have e1 : l.2 + 1 = nI (min T 6 + 1) := nadd h1 (nlit 1)
  have k2 : 6 < l.2 + 1 ↔ 6 < min T 6 + 1 := nlt_iff (nlit 6) e1 (by omega) (by omega)
  refine ⟨?_, fun i => if i = 0 then dd else dy (i - 1), fun i hi => ?_, fun i hi => ?_⟩
  · show (if 6 < l.2 + 1 then 6 else l.2 + 1) = nI (min (T + 1) 6)
    by_cases c : 6 < min T 6 + 1
    · rw [if_pos (k2.mpr c), show min (T + 1) 6 = 6 by omega]; rfl
    · rw [if_neg (fun z => c (k2.mp z)), e1, show min T 6 + 1 = min (T + 1) 6 by omega]
  · show upd (upd (upd (upd (upd u 0 (nI dd)) 1 x2) 2 x3) 3 x4) 4 x5 (5 * i) = nI (if i = 0 then dd else dy (i - 1)) ∧ (if i = 0 then dd else dy (i - 1)) ≤ dd
    by_cases c : i = 0
    · subst c
      rw [if_pos rfl, Nat.mul_zero, upd_n (by omega), upd_n (by omega), upd_n (by omega), upd_n (by omega), upd_s]
      exact ⟨rfl, Nat.le_refl _⟩
    · rw [if_neg c, upd_n (by omega), upd_n (by omega), upd_n (by omega), upd_n (by omega), upd_n (by omega), hl (5 * i) (by omega), if_pos (by omega), show 5 * i - 5 = 5 * (i - 1) by omega]
      exact h2 (i - 1) (by omega)
  · show (if i + 1 = 0 then dd else dy (i + 1 - 1)) ≤ (if i = 0 then dd else dy (i - 1))
    rw [if_neg (by omega), Nat.add_sub_cancel]
    by_cases c : i = 0
    · rw [if_pos c, c]; exact (h2 0 (by omega)).2
    · rw [if_neg c]
      have q := h3 (i - 1) (by omega)
      rw [show i - 1 + 1 = i by omega] at q
      exact q
theorem log_new (l : LV) (x1 x2 x3 x4 x5 : Int32) : (f_X6_add l x1 x2 x3 x4 x5).1 0 = x1 ∧ (f_X6_add l x1 x2 x3 x4 x5).1 1 = x2 ∧ (f_X6_add l x1 x2 x3 x4 x5).1 2 = x3 ∧ (f_X6_add l x1 x2 x3 x4 x5).1 3 = x4 ∧ (f_X6_add l x1 x2 x3 x4 x5).1 4 = x5 := by
  unfold f_X6_add f_X6_add_4_x
  generalize lp_X6_add_4 l x1 x2 x3 x4 x5 l.1 25 = u
  exact ⟨rfl, rfl, rfl, rfl, rfl⟩
/-! the sums -/
theorem sum5 {x a0 a1 a2 a3 a4 t : Int32} (h : x = 0 + a0 + a1 + a2 + a3 + a4) : x + t = 0 + (a0 + t) + a1 + a2 + a3 + a4 ∧ x + t = 0 + a0 + (a1 + t) + a2 + a3 + a4 ∧ x + t = 0 + a0 + a1 + (a2 + t) + a3 + a4 ∧ x + t = 0 + a0 + a1 + a2 + (a3 + t) + a4 ∧ x + t = 0 + a0 + a1 + a2 + a3 + (a4 + t) := by
  subst h
  refine ⟨?_, ?_, ?_, ?_, ?_⟩ <;> ac_rfl
theorem sum_b {x t : Int32} {u s : Nat → Int32} (h : x = 0 + s 0 + s 1 + s 2 + s 3 + s 4) {b : Nat} (hb : b < 5) (e1 : u b = s b + t) (e2 : ∀ i, i ≠ b → u i = s i) : x + t = 0 + u 0 + u 1 + u 2 + u 3 + u 4 := by
  obtain ⟨h0, h1, h2, h3, h4⟩ := sum5 (t := t) h
  rcases (show b = 0 ∨ b = 1 ∨ b = 2 ∨ b = 3 ∨ b = 4 by omega) with rfl | rfl | rfl | rfl | rfl
  · rw [e1, e2 1 (by omega), e2 2 (by omega), e2 3 (by omega), e2 4 (by omega)]; exact h0
  · rw [e2 0 (by omega), e1, e2 2 (by omega), e2 3 (by omega), e2 4 (by omega)]; exact h1
  · rw [e2 0 (by omega), e2 1 (by omega), e1, e2 3 (by omega), e2 4 (by omega)]; exact h2
  · rw [e2 0 (by omega), e2 1 (by omega), e2 2 (by omega), e1, e2 4 (by omega)]; exact h3
  · rw [e2 0 (by omega), e2 1 (by omega), e2 2 (by omega), e2 3 (by omega), e1]; exact h4
theorem ai_add {b : BV} {a : AV} (h : AI b a) {x : Nat} (hx : x < 5) (i d t came sp : Int32) : AI (f_X1_addShow b i x d t) (f_X0_addShow a came t sp) :=
  ⟨sum_b h.1 hx (upd_s _ _ _) (fun _ hne => upd_n hne), sum_b h.2 hx (upd_s _ _ _) (fun _ hne => upd_n hne)⟩
theorem bi_add {N dd : Nat} {b : BV} (h : BI N dd b) {x : Nat} (i t : Int32) : BI (N + 1) dd (f_X1_addShow b i x (nI dd) t) := by
  intro y hy
  obtain ⟨c, e, h1, h2, h3, h4⟩ := h y hy
  unfold f_X1_addShow
  by_cases q : y = x
  · subst q
    refine ⟨c + 1, dd, by omega, Nat.le_refl _, ?_, upd_s _ _ _⟩
    show upd b.2.1 y (b.2.1 y + 1) y = _
    rw [upd_s]; exact nadd h3 (nlit 1)
  · refine ⟨c, e, by omega, h2, ?_, ?_⟩
    · show upd b.2.1 x (b.2.1 x + 1) y = _
      rw [upd_n q]; exact h3
    · show upd b.1 x (nI dd) y = _
      rw [upd_n q]; exact h4
/-! why a show cannot be -/
theorem low_cases (g : GV) (x y : Int32) : f_X2_lowestWith g x y = -1 ∨ (f_X2_lowestWith g x y = 0 ∧ g.1 0 = x ∧ ¬ g.2 0 < y) ∨ (f_X2_lowestWith g x y = 1 ∧ g.1 1 = x ∧ ¬ g.2 1 < y ∧ ¬ (g.1 0 = x ∧ ¬ g.2 0 < y)) := by
  unfold f_X2_lowestWith
  by_cases c0 : g.1 0 = x <;> by_cases d0 : g.2 0 < y <;> by_cases c1 : g.1 1 = x <;> by_cases d1 : g.2 1 < y <;> simp [c0, d0, c1, d1]
theorem low_none (g : GV) (x y : Int32) : f_X2_lowestWith g x y = -1 ↔ (¬ (g.1 0 = x ∧ ¬ g.2 0 < y) ∧ ¬ (g.1 1 = x ∧ ¬ g.2 1 < y)) := by
  unfold f_X2_lowestWith
  by_cases c0 : g.1 0 = x <;> by_cases d0 : g.2 0 < y <;> by_cases c1 : g.1 1 = x <;> by_cases d1 : g.2 1 < y <;> simp [c0, d0, c1, d1]
theorem why_cases (v : SV) (x : Int32) (k : Nat) : f_X7_reasonAgainst v x k = 0 ∨ f_X7_reasonAgainst v x k = 1 ∨ f_X7_reasonAgainst v x k = 2 ∨ f_X7_reasonAgainst v x k = 3 ∨ f_X7_reasonAgainst v x k = 4 := by
  unfold f_X7_reasonAgainst
  repeat' split
  · exact Or.inr (Or.inr (Or.inl rfl))
  · exact Or.inr (Or.inr (Or.inr (Or.inl rfl)))
  · exact Or.inr (Or.inr (Or.inr (Or.inr rfl)))
  · exact Or.inl rfl
  · exact Or.inr (Or.inl rfl)
theorem why_ans (v : SV) (x : Int32) (k : Nat) : ANS (-10000010 - f_X7_reasonAgainst v x k) := by
  rcases why_cases v x k with e | e | e | e | e <;> rw [e] <;> decide
theorem why0_low {v : SV} {b : Int32} {k : Nat} (h : f_X7_reasonAgainst v b k = 0) : ¬ f_X2_lowestWith v.2.1 b (f_X4_minutesIn v.1 b) = -1 := by
  intro e
  unfold f_X7_reasonAgainst at h
  rw [if_pos e] at h
  revert h
  split
  · split
    · decide
    · split <;> decide
  · decide
/-- a show that can be: its answer and the State behind it -/
theorem show_val {N : Nat} {v : SV} (h : SI N v) {b : Nat} (hb : b < 5) (c : f_X7_reasonAgainst v (nI b) b = 0) : ∃ j n m, j < 2 ∧ f_X2_lowestWith v.2.1 (nI b) (f_X4_minutesIn v.1 (nI b)) = nI j ∧ v.2.1.2 j = nI m ∧ n ≤ m ∧ m ≤ 500 ∧ f_X4_minutesIn v.1 (nI b) = nI n ∧
    f_X7_showIn v (nI b) = (f_X7_peopleIn v (nI b) b * v.2.2.2.2.2.2.2, ((f_X4_playAllIn v.1 (nI b) b).2, (v.2.1.1, upd v.2.1.2 j (v.2.1.2 j - f_X4_minutesIn v.1 (nI b))), f_X1_addShow v.2.2.1 (nI b) b v.2.2.2.2.2.2.1 (f_X7_peopleIn v (nI b) b * v.2.2.2.2.2.2.2), f_X6_add v.2.2.2.1 v.2.2.2.2.2.2.1 (nI b) (f_X7_peopleIn v (nI b) b) (f_X7_peopleIn v (nI b) b * v.2.2.2.2.2.2.2) (f_X4_minutesIn v.1 (nI b)), f_X0_addShow v.2.2.2.2.1 (f_X7_peopleIn v (nI b) b) (f_X7_peopleIn v (nI b) b * v.2.2.2.2.2.2.2) (f_X4_playAllIn v.1 (nI b) b).1, v.2.2.2.2.2.1, v.2.2.2.2.2.2.1, v.2.2.2.2.2.2.2)) := by
  have key : ∃ j, j < 2 ∧ f_X2_lowestWith v.2.1 (nI b) (f_X4_minutesIn v.1 (nI b)) = nI j ∧ ¬ v.2.1.2 j < f_X4_minutesIn v.1 (nI b) := by
    rcases low_cases v.2.1 (nI b) (f_X4_minutesIn v.1 (nI b)) with g | ⟨g, _, g2⟩ | ⟨g, _, g2, _⟩
    · exact absurd g (why0_low c)
    · exact ⟨0, by omega, g, g2⟩
    · exact ⟨1, by omega, g, g2⟩
  obtain ⟨j, hj, k1, k2⟩ := key
  obtain ⟨_, m, hm, em⟩ := h.2.1 j hj
  obtain ⟨n, hn, en⟩ := min_sm h.1 (nI b)
  have hnm : n ≤ m := by
    rw [em, en] at k2
    exact Nat.le_of_not_lt (fun z => k2 ((nlt_iff (nrf m) (nrf n) (by omega) (by omega)).mpr z))
  refine ⟨j, n, m, hj, k1, em, hnm, hm, en, ?_⟩
  have hburn : f_X2_burn v.2.1 (nI j) (f_X4_minutesIn v.1 (nI b)) = (v.2.1.1, upd v.2.1.2 j (v.2.1.2 j - f_X4_minutesIn v.1 (nI b))) := by
    unfold f_X2_burn
    rw [if_neg (gen_of hj), nI_clm (by omega)]
  unfold f_X7_showIn
  rw [if_neg (barn_of hb), nI_clm (by omega), if_pos c, k1, hburn]
  unfold f_X7_showIn_q65 f_X7_showIn_q73 f_X7_showIn_q89 f_X7_showIn_q106 f_X7_showIn_q118
  rw [nI_clm (by omega)]
theorem take_sm {N : Nat} {v : SV} (h : SI N v) {b : Nat} (hb : b < 5) : ∃ n, n ≤ 7920 ∧ f_X7_peopleIn v (nI b) b * v.2.2.2.2.2.2.2 = nI n := by
  obtain ⟨n, s, h1, h2, _, e⟩ := people_sm h.1 hb
  obtain ⟨p, hp1, hp2, ep⟩ := h.2.2.2.2.2
  exact ⟨n * p, Nat.mul_le_mul (Nat.le_trans h1 h2) hp2, nmul e ep⟩
theorem show_si {N : Nat} {v : SV} (h : SI N v) {b : Nat} (hb : b < 5) {j n m : Nat} (em : v.2.1.2 j = nI m) (hnm : n ≤ m) (hm : m ≤ 500) {mn : Int32} (en : mn = nI n) (pp take : Int32) {P : Int32 × RV} (hr : RI P.2) : SI (N + 1) (P.2, (v.2.1.1, upd v.2.1.2 j (v.2.1.2 j - mn)), f_X1_addShow v.2.2.1 (nI b) b v.2.2.2.2.2.2.1 take, f_X6_add v.2.2.2.1 v.2.2.2.2.2.2.1 (nI b) pp take mn, f_X0_addShow v.2.2.2.2.1 pp take P.1, v.2.2.2.2.2.1, v.2.2.2.2.2.2.1, v.2.2.2.2.2.2.2) := by
  obtain ⟨h1, h2, ⟨dd, T, a1, a2, a3, a4, a5, a6⟩, h4, h5, h6⟩ := h
  refine ⟨hr, ?_, ⟨dd, T + 1, a1, by omega, a3, ?_, ?_, ?_⟩, ai_add h4 hb (nI b) v.2.2.2.2.2.2.1 take pp P.1, h5, h6⟩
  · intro a ha
    refine ⟨(h2 a ha).1, ?_⟩
    show ∃ m, m ≤ 500 ∧ upd v.2.1.2 j (v.2.1.2 j - mn) a = nI m
    by_cases z : a = j
    · subst z; rw [upd_s]; exact ⟨m - n, by omega, nsub em en hnm⟩
    · rw [upd_n z]; exact (h2 a ha).2
  · exact nadd a4 (nlit 1)
  · show BI (N + 1) dd (f_X1_addShow v.2.2.1 (nI b) b v.2.2.2.2.2.2.1 take)
    rw [a3]; exact bi_add a5 (nI b) take
  · show LI dd (T + 1) (f_X6_add v.2.2.2.1 v.2.2.2.2.2.2.1 (nI b) pp take mn)
    rw [a3]; exact li_add a6 (nI b) pp take mn
theorem si_show {N : Nat} {v : SV} (h : SI N v) (x : Int32) : STEP (N + 1) (f_X7_showIn v x) := by
  by_cases c0 : f_X9_isBarn x = 0
  · unfold f_X7_showIn
    rw [if_pos c0]; exact step_no (si_mono h (by omega)) an1
  · obtain ⟨b, eb, hb⟩ := isBarn_nat c0
    subst eb
    by_cases c : f_X7_reasonAgainst v (nI b) b = 0
    · obtain ⟨j, n, m, hj, k1, em, hnm, hm, en, e⟩ := show_val h hb c
      obtain ⟨q, hq, eq⟩ := take_sm h hb
      have hr := all_ri h.1 hb
      rw [e, eq]
      generalize f_X4_playAllIn v.1 (nI b) b = P at hr ⊢
      generalize f_X4_minutesIn v.1 (nI b) = mn at en ⊢
      generalize f_X7_peopleIn v (nI b) b = pp
      exact ⟨ans_nI (by omega), show_si h hb em hnm hm en pp (nI q) hr⟩
    · unfold f_X7_showIn
      rw [if_neg c0, nI_clm (by omega), if_neg c]
      exact step_no (si_mono h (by omega)) (why_ans _ _ _)
