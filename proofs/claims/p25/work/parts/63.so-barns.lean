/-! what the law asks of barns is so -/
section SO
variable {N : Nat} {v : PV}
theorem l_b36 (h : INV N v) {b : Nat} (hb : b < 5) (q9 : Int32 × Int32 × Int32) : ∀ k, k ≤ 10 → lp_L_areBarnsSo_36 v b q9 (0, 0, 0, 0) k = (lp_X4_numberAt_4 v.1.1 (nI b) 0 k, lp_X4_minutesIn_4 v.1.1 (nI b) 0 k, lp_X4_freshIn_4 v.1.1 (nI b) 0 k, lp_X4_mostWearIn_4 v.1.1 (nI b) 0 k) := by
  intro k
  induction k with
  | zero => intro _; rfl
  | succ k ih =>
    intro hk
    have hk10 : k < 10 := by omega
    rw [lp_L_areBarnsSo_36_s, ih (by omega), lp_X4_numberAt_4_s, lp_X4_minutesIn_4_s, lp_X4_freshIn_4_s, lp_X4_mostWearIn_4_s]
    generalize lp_X4_numberAt_4 v.1.1 (nI b) 0 k = n1
    generalize lp_X4_minutesIn_4 v.1.1 (nI b) 0 k = n2
    generalize lp_X4_freshIn_4 v.1.1 (nI b) 0 k = n3
    generalize lp_X4_mostWearIn_4 v.1.1 (nI b) 0 k = n4
    unfold st_L_areBarnsSo_36 st_X4_numberAt_4 st_X4_minutesIn_4 st_X4_freshIn_4 st_X4_mostWearIn_4
    dsimp only
    obtain ⟨p0, ⟨w, hw, ew⟩, ⟨p, hp, ep⟩, m, s, e1, e2, e3, e4⟩ := h.1.1 k hk10
    by_cases c : v.1.1.1 k = nI b
    · have hg : ¬ v.1.1.1 k = -2 := by rw [c]; exact nb_gone hb
      have f0 : f_X9_reel v (nI k) 0 = nI b := by rw [reel_0 hk10, if_neg hg, if_neg (by rw [c]; exact nb_van hb), c]
      have bb := bit_b b hb p hp
      rw [f0, reel_1 hk10 hg, reel_2 hk10 hg, reel_4 hk10 hg, if_pos (show nI b = nI b from rfl), if_pos c, if_pos c, if_pos c, if_pos c, ep]
      by_cases d : (nI p >>> (nI b &&& 31)) &&& 1 = 0
      · rw [if_pos d, if_pos (bb.mp d)]
        by_cases f : v.1.1.2.2.1 k ≤ n4
        · rw [if_pos f, if_neg (fun z => Int32.not_le.mpr z f)]
        · rw [if_neg f, if_pos (Int32.not_le.mp f)]
      · rw [if_neg d, if_neg (fun z => d (bb.mpr z)), Int32.add_zero]
        by_cases f : v.1.1.2.2.1 k ≤ n4
        · rw [if_pos f, if_neg (fun z => Int32.not_le.mpr z f)]
        · rw [if_neg f, if_pos (Int32.not_le.mp f)]
    · have f0 : ¬ f_X9_reel v (nI k) 0 = nI b := by
        rw [reel_0 hk10]
        by_cases z1 : v.1.1.1 k = -2
        · rw [if_pos z1]; exact fun z => nb_unk hb z.symm
        · rw [if_neg z1]
          by_cases z2 : v.1.1.1 k = -1
          · rw [if_pos z2]; exact fun z => nb_none hb z.symm
          · rw [if_neg z2]; exact c
      rw [if_neg f0, if_neg c, if_neg c, if_neg c, if_neg c]
def bstp (B mn A F : Int32) (q : Int32 × Int32) : Int32 × Int32 := if q.1 = 0 then if A = B then if q.2 = 0 then if F < mn then (1, 0) else (1, 1) else (1, 1) else if q.2 = 0 then (0, 0) else (0, 1) else if q.2 = 0 then if A = B then if F < mn then (1, 0) else (1, 1) else (1, 0) else (1, 1)
theorem bstp_two (B mn A0 A1 F0 F1 : Int32) : ((bstp B mn A1 F1 (bstp B mn A0 F0 (0, 0))).1 = 0 ↔ (¬ A0 = B ∧ ¬ A1 = B)) ∧ ((bstp B mn A1 F1 (bstp B mn A0 F0 (0, 0))).2 = 0 ↔ (¬ (A0 = B ∧ ¬ F0 < mn) ∧ ¬ (A1 = B ∧ ¬ F1 < mn))) := by
  unfold bstp
  by_cases c0 : A0 = B <;> by_cases d0 : F0 < mn <;> by_cases c1 : A1 = B <;> by_cases d1 : F1 < mn <;> simp [c0, d0, c1, d1]
theorem gen_at {k : Nat} (hk : k < 2) {b : Nat} (hb : b < 5) : f_X9_generator v (nI k) 0 = nI b ↔ v.1.2.1.1 k = nI b := by
  rw [gen_0 hk]
  by_cases c : v.1.2.1.1 k = -1
  · rw [if_pos c, c]
    exact ⟨fun z => absurd z.symm (nb_none hb), fun z => absurd z.symm (nb_van hb)⟩
  · rw [if_neg c]
theorem gnum0 (g : GV) (x : Int32) : f_X2_numberAt g x = 0 ↔ (¬ g.1 0 = x ∧ ¬ g.1 1 = x) := by
  rw [num2]
  by_cases c0 : g.1 0 = x <;> by_cases c1 : g.1 1 = x <;> simp [c0, c1]
theorem l_b130 {b : Nat} (hb : b < 5) (q9 : Int32 × Int32 × Int32) (q36 : Int32 × Int32 × Int32 × Int32) : ((lp_L_areBarnsSo_130 v b q9 q36 (0, 0) 2).1 = 0 ↔ f_X2_numberAt v.1.2.1 (nI b) = 0) ∧ ((lp_L_areBarnsSo_130 v b q9 q36 (0, 0) 2).2 = 0 ↔ f_X2_lowestWith v.1.2.1 (nI b) q36.2.1 = -1) := by
  have e : lp_L_areBarnsSo_130 v b q9 q36 (0, 0) 2 = bstp (nI b) q36.2.1 (f_X9_generator v (nI 1) 0) (f_X9_generator v (nI 1) 1) (bstp (nI b) q36.2.1 (f_X9_generator v (nI 0) 0) (f_X9_generator v (nI 0) 1) (0, 0)) := rfl
  obtain ⟨a1, a2⟩ := bstp_two (nI b) q36.2.1 (f_X9_generator v (nI 0) 0) (f_X9_generator v (nI 1) 0) (f_X9_generator v (nI 0) 1) (f_X9_generator v (nI 1) 1)
  rw [gen_1 (by omega), gen_1 (by omega)] at a2
  rw [e, gnum0, low_none, a1, gen_1 (by omega), gen_1 (by omega), a2, gen_at (by omega) hb, gen_at (by omega) hb]
  exact ⟨Iff.rfl, Iff.rfl⟩
theorem why_num0 {s : SV} {x : Int32} {k : Nat} (c : f_X4_numberAt s.1 x = 0) : f_X7_reasonAgainst s x k = 1 ∨ f_X7_reasonAgainst s x k = 2 := by
  unfold f_X7_reasonAgainst
  by_cases d : f_X1_hadShowOn s.2.2.1 x k s.2.2.2.2.2.2.1 = 0
  · rw [if_pos d, if_pos c]; exact Or.inr rfl
  · rw [if_neg d]; exact Or.inl rfl
theorem why_num {s : SV} {x : Int32} {k : Nat} (c : ¬ f_X4_numberAt s.1 x = 0) : f_X7_reasonAgainst s x k = 1 ∨ (f_X2_numberAt s.2.1 x = 0 ∧ f_X7_reasonAgainst s x k = 3) ∨ (¬ f_X2_numberAt s.2.1 x = 0 ∧ f_X2_lowestWith s.2.1 x (f_X4_minutesIn s.1 x) = -1 ∧ f_X7_reasonAgainst s x k = 4) ∨ (¬ f_X2_numberAt s.2.1 x = 0 ∧ ¬ f_X2_lowestWith s.2.1 x (f_X4_minutesIn s.1 x) = -1 ∧ f_X7_reasonAgainst s x k = 0) := by
  unfold f_X7_reasonAgainst
  by_cases d : f_X1_hadShowOn s.2.2.1 x k s.2.2.2.2.2.2.1 = 0
  · rw [if_pos d, if_neg c]
    by_cases e : f_X2_numberAt s.2.1 x = 0
    · rw [if_pos e]; exact Or.inr (Or.inl ⟨e, rfl⟩)
    · rw [if_neg e]
      by_cases f : f_X2_lowestWith s.2.1 x (f_X4_minutesIn s.1 x) = -1
      · rw [if_pos f]; exact Or.inr (Or.inr (Or.inl ⟨e, f, rfl⟩))
      · rw [if_neg f]; exact Or.inr (Or.inr (Or.inr ⟨e, f, rfl⟩))
  · rw [if_neg d]; exact Or.inl rfl
theorem l_btail (h : INV N v) {b : Nat} (hb : b < 5) (t s : Int32) (q130 : Int32 × Int32) (g1 : q130.1 = 0 ↔ f_X2_numberAt v.1.2.1 (nI b) = 0) (g2 : q130.2 = 0 ↔ f_X2_lowestWith v.1.2.1 (nI b) (f_X4_minutesIn v.1.1 (nI b)) = -1) :
    f_L_areBarnsSo_130_x v b (t, s, 1) (f_X4_numberAt v.1.1 (nI b), f_X4_minutesIn v.1.1 (nI b), f_X4_freshIn v.1.1 (nI b), f_X4_mostWearIn v.1.1 (nI b)) q130 = (t + v.1.2.2.1.2.2 b, s + v.1.2.2.1.2.1 b, 1) := by
  obtain ⟨n, st, h1, h2, eS, eP⟩ := people_sm h.1.1 hb
  have k1 : ¬ (1 : Int32) = 0 := by decide
  have kp : f_X9_ifPrice v (nI b) 7 = 7 * f_X9_barn v (nI b) 5 := by
    rw [price_of hb (by decide), barn_5 hb, Int32.mul_comm]
  have kle : ¬ f_X9_barn v (nI b) 1 < f_X9_barn v (nI b) 5 := by
    rw [barn_1 hb, barn_5 hb, eS, eP]
    intro z
    have := (nlt_iff (nrf st) (nrf n) (by omega) (by omega)).mp z
    omega
  have hP : f_X7_peopleIn v.1 (nI b) b = if f_X4_numberAt v.1.1 (nI b) = 0 then 0 else (if (((SEATSF b * f_X4_freshIn v.1.1 (nI b)) / f_X4_numberAt v.1.1 (nI b)) - (f_X4_mostWearIn v.1.1 (nI b) / 10)) < 0 then 0 else (((SEATSF b * f_X4_freshIn v.1.1 (nI b)) / f_X4_numberAt v.1.1 (nI b)) - (f_X4_mostWearIn v.1.1 (nI b) / 10))) := rfl
  unfold f_L_areBarnsSo_130_x
  dsimp only
  by_cases c : f_X4_numberAt v.1.1 (nI b) = 0
  · have hP0 : f_X9_barn v (nI b) 5 = 0 := by rw [barn_5 hb, hP, if_pos c]
    rw [if_pos c, if_neg k1, if_pos (barn_3 hb), if_pos (barn_4 hb), if_pos hP0, if_neg kle, if_pos kp, barn_6 hb, barn_7 hb, barn_8 hb]
    rcases why_num0 (s := v.1) (k := b) c with e | e
    · rw [e, if_pos (show (1 : Int32) = 1 from rfl)]
    · rw [e, if_neg (show ¬ (2 : Int32) = 1 by decide), if_pos (show (2 : Int32) = 2 from rfl)]
  · rw [if_neg c, if_neg k1, if_pos (barn_3 hb), if_pos (barn_4 hb)]
    have tl : (if f_X9_barn v (nI b) 1 < f_X9_barn v (nI b) 5 then ((t + f_X9_barn v (nI b) 8), (s + f_X9_barn v (nI b) 7), (0 : Int32)) else if f_X9_ifPrice v (nI b) 7 = 7 * f_X9_barn v (nI b) 5 then if f_X9_barn v (nI b) 6 = 1 then ((t + f_X9_barn v (nI b) 8), (s + f_X9_barn v (nI b) 7), 1) else if q130.1 = 0 then if f_X9_barn v (nI b) 6 = 3 then ((t + f_X9_barn v (nI b) 8), (s + f_X9_barn v (nI b) 7), 1) else ((t + f_X9_barn v (nI b) 8), (s + f_X9_barn v (nI b) 7), 0) else if q130.2 = 0 then if f_X9_barn v (nI b) 6 = 4 then ((t + f_X9_barn v (nI b) 8), (s + f_X9_barn v (nI b) 7), 1) else ((t + f_X9_barn v (nI b) 8), (s + f_X9_barn v (nI b) 7), 0) else if f_X9_barn v (nI b) 6 = 0 then ((t + f_X9_barn v (nI b) 8), (s + f_X9_barn v (nI b) 7), 1) else ((t + f_X9_barn v (nI b) 8), (s + f_X9_barn v (nI b) 7), 0) else ((t + f_X9_barn v (nI b) 8), (s + f_X9_barn v (nI b) 7), 0)) = (t + v.1.2.2.1.2.2 b, s + v.1.2.2.1.2.1 b, 1) := by
      rw [if_neg kle, if_pos kp, barn_6 hb, barn_7 hb, barn_8 hb]
      rcases why_num (s := v.1) (k := b) c with e | ⟨e1, e⟩ | ⟨e1, e2, e⟩ | ⟨e1, e2, e⟩
      · rw [e, if_pos (show (1 : Int32) = 1 from rfl)]
      · rw [e, if_neg (show ¬ (3 : Int32) = 1 by decide), if_pos (g1.mpr e1), if_pos (show (3 : Int32) = 3 from rfl)]
      · rw [e, if_neg (show ¬ (4 : Int32) = 1 by decide), if_neg (fun z => e1 (g1.mp z)), if_pos (g2.mpr e2), if_pos (show (4 : Int32) = 4 from rfl)]
      · rw [e, if_neg (show ¬ (0 : Int32) = 1 by decide), if_neg (fun z => e1 (g1.mp z)), if_neg (fun z => e2 (g2.mp z)), if_pos (show (0 : Int32) = 0 from rfl)]
    rw [if_neg c] at hP
    rw [barn_1 hb] at tl ⊢
    generalize hX : (((SEATSF b * f_X4_freshIn v.1.1 (nI b)) / f_X4_numberAt v.1.1 (nI b)) - (f_X4_mostWearIn v.1.1 (nI b) / 10)) = X at hP ⊢
    by_cases d : 0 ≤ X
    · rw [if_neg (Int32.not_lt.mpr d)] at hP
      rw [if_pos d, if_pos (show f_X9_barn v (nI b) 5 = X by rw [barn_5 hb, hP])]
      exact tl
    · rw [if_pos (Int32.not_le.mp d)] at hP
      rw [if_neg d, if_pos (show f_X9_barn v (nI b) 5 = 0 by rw [barn_5 hb, hP])]
      exact tl
theorem l_bstep (h : INV N v) {k : Nat} (hk : k < 5) {t s : Int32} (e : lp_L_areBarnsSo_9 v (0, 0, 1) k = (t, s, 1)) : lp_L_areBarnsSo_9 v (0, 0, 1) (k + 1) = (t + v.1.2.2.1.2.2 k, s + v.1.2.2.1.2.1 k, 1) := by
  rw [lp_L_areBarnsSo_9_s, e]
  unfold st_L_areBarnsSo_9
  rw [l_b36 h hk (t, s, 1) 10 (Nat.le_refl _)]
  have q := l_b130 (v := v) hk (t, s, 1) (f_X4_numberAt v.1.1 (nI k), f_X4_minutesIn v.1.1 (nI k), f_X4_freshIn v.1.1 (nI k), f_X4_mostWearIn v.1.1 (nI k))
  have r := l_btail h hk t s (lp_L_areBarnsSo_130 v k (t, s, 1) (f_X4_numberAt v.1.1 (nI k), f_X4_minutesIn v.1.1 (nI k), f_X4_freshIn v.1.1 (nI k), f_X4_mostWearIn v.1.1 (nI k)) (0, 0) 2) q.1 q.2
  unfold f_X4_numberAt f_X4_minutesIn f_X4_freshIn f_X4_mostWearIn f_X4_numberAt_4_x f_X4_minutesIn_4_x f_X4_freshIn_4_x f_X4_mostWearIn_4_x at r
  unfold f_L_areBarnsSo_36_x
  exact r
theorem l_barns (h : INV N v) : f_L_areBarnsSo v = 1 := by
  have s0 := l_bstep h (k := 0) (by omega) (t := 0) (s := 0) rfl
  have s1 := l_bstep h (k := 1) (by omega) s0
  have s2 := l_bstep h (k := 2) (by omega) s1
  have s3 := l_bstep h (k := 3) (by omega) s2
  have s4 := l_bstep h (k := 4) (by omega) s3
  obtain ⟨a1, a2⟩ := h.1.2.2.2.1
  unfold f_L_areBarnsSo
  rw [s4]
  unfold f_L_areBarnsSo_9_x
  dsimp only
  rw [if_neg (show ¬ (1 : Int32) = 0 by decide), count_4, count_9, count_8, count_5, count_6, count_7, if_pos a1.symm, if_pos a2.symm, if_pos (by rw [← a1])]
end SO
