/-! the whole relation of a State -/
def BRel (N dd : Nat) (bv : BV) (s : Nat → Int32) : Prop := ∀ b, b < 5 → (∃ c e, c ≤ N ∧ e ≤ dd ∧ bv.2.1 b = nI c ∧ bv.1 b = nI e ∧ s (57 + b) = (if 0 < c ∧ e = dd then 1 else 0)) ∧ s (62 + b) = bv.2.1 b ∧ s (67 + b) = bv.2.2 b
def LRel (lv : LV) (s : Nat → Int32) : Prop := (∃ m, m ≤ 6 ∧ lv.2 = nI m) ∧ s 77 = lv.2 ∧ ∀ j, j < 30 → s (78 + j) = lv.1 j
def ARel (av : AV) (s : Nat → Int32) : Prop := s 72 = av.2.1 ∧ s 73 = av.2.2.1 ∧ s 74 = av.2.2.2.1 ∧ s 75 = av.2.2.2.2.2.1 ∧ s 76 = av.2.2.2.2.2.2 ∧ av.1 = 0 + s 67 + s 68 + s 69 + s 70 + s 71 ∧ av.2.2.2.2.1 = 0 + s 62 + s 63 + s 64 + s 65 + s 66
/-- the minutes of the generators are small -/
def GM (g : GV) : Prop := ∀ j, j < 2 → ∃ m, m ≤ 500 ∧ g.2 j = nI m
def RS (N : Nat) (v : SV) (s : Nat → Int32) : Prop := RRel v.1 s ∧ (GRel v.2.1 s ∧ GM v.2.1) ∧ (∃ dd, dd ≤ 9999 ∧ v.2.2.2.2.2.2.1 = nI dd ∧ s 55 = nI dd ∧ BRel N dd v.2.2.1 s) ∧ LRel v.2.2.2.1 s ∧ ARel v.2.2.2.2.1 s ∧ (∃ b, b < 5 ∧ v.2.2.2.2.2.1 = nI b ∧ s 54 = nI b) ∧ s 56 = v.2.2.2.2.2.2.2 ∧ ∃ p, 1 ≤ p ∧ p ≤ 99 ∧ v.2.2.2.2.2.2.2 = nI p
section RSS
variable {N : Nat} {v : SV} {s : Nat → Int32}
theorem rs_rr (h : RS N v s) : RRel v.1 s := h.1
theorem rs_gr (h : RS N v s) : GRel v.2.1 s := h.2.1.1
theorem rs_van (h : RS N v s) : s 54 = v.2.2.2.2.2.1 := by obtain ⟨b, _, e1, e2⟩ := h.2.2.2.2.2.1; rw [e1, e2]
theorem rs_day (h : RS N v s) : s 55 = v.2.2.2.2.2.2.1 := by obtain ⟨d, _, e1, e2, _⟩ := h.2.2.1; rw [e1, e2]
theorem rs_vp (h : RS N v s) : vp_in v.2.2.2.2.2.1 5 := by obtain ⟨b, hb, e1, _⟩ := h.2.2.2.2.2.1; rw [e1]; exact vp_in_nI hb (by decide)
theorem rs_si (h : RS N v s) : SI s := ⟨rr_wm h.1, by obtain ⟨b, hb, _, e2⟩ := h.2.2.2.2.2.1; exact ⟨b, hb, e2⟩⟩
theorem rs_mono {M : Nat} (h : RS N v s) (hM : N ≤ M) : RS M v s := by
  obtain ⟨h1, h2, ⟨dd, a, b, c, d⟩, h4⟩ := h
  refine ⟨h1, h2, ⟨dd, a, b, c, fun x hx => ?_⟩, h4⟩
  obtain ⟨⟨c1, e1, g1, g2⟩, g3⟩ := d x hx
  exact ⟨⟨c1, e1, by omega, g2⟩, g3⟩
theorem rs_agree {t : Nat → Int32} (h : RS N v s) (e : ∀ j, j < 108 → t j = s j) : RS N v t := by
  obtain ⟨h1, ⟨h2, h2b⟩, ⟨dd, a, b, c, d⟩, ⟨l1, l2, l3⟩, ⟨a1, a2, a3, a4, a5, a6, a7⟩, ⟨b0, v1, v2, v3⟩, p1, p2⟩ := h
  refine ⟨fun j hj => ?_, ⟨fun j hj => ?_, h2b⟩, ⟨dd, a, b, by rw [e 55 (by omega)]; exact c, fun x hx => ?_⟩, ⟨l1, by rw [e 77 (by omega)]; exact l2, fun j hj => by rw [e _ (by omega)]; exact l3 j hj⟩, ?_, ⟨b0, v1, v2, by rw [e 54 (by omega)]; exact v3⟩, by rw [e 56 (by omega)]; exact p1, p2⟩
  · obtain ⟨⟨r0, r1, r2, r3, r4⟩, rr⟩ := h1 j hj
    exact ⟨⟨by rw [e _ (by omega)]; exact r0, by rw [e _ (by omega)]; exact r1, by rw [e _ (by omega)]; exact r2, by rw [e _ (by omega)]; exact r3, by rw [e _ (by omega)]; exact r4⟩, rr⟩
  · obtain ⟨g0, g1, g2⟩ := h2 j hj
    exact ⟨by rw [e _ (by omega)]; exact g0, by rw [e _ (by omega)]; exact g1, g2⟩
  · obtain ⟨⟨c1, e1, g1, g2, g3, g4, g5⟩, g6, g7⟩ := d x hx
    exact ⟨⟨c1, e1, g1, g2, g3, g4, by rw [e _ (by omega)]; exact g5⟩, by rw [e _ (by omega)]; exact g6, by rw [e _ (by omega)]; exact g7⟩
  · refine ⟨by rw [e 72 (by omega)]; exact a1, by rw [e 73 (by omega)]; exact a2, by rw [e 74 (by omega)]; exact a3, by rw [e 75 (by omega)]; exact a4, by rw [e 76 (by omega)]; exact a5, ?_, ?_⟩
    · rw [e 67 (by omega), e 68 (by omega), e 69 (by omega), e 70 (by omega), e 71 (by omega)]; exact a6
    · rw [e 62 (by omega), e 63 (by omega), e 64 (by omega), e 65 (by omega), e 66 (by omega)]; exact a7
/-- why a show cannot be: the same reason -/
theorem had_eq (h : RS N v s) (hN : N < 2 ^ 30) {b : Nat} (hb : b < 5) : (f_X1_hadShowOn v.2.2.1 (nI b) b v.2.2.2.2.2.2.1 = 0 ↔ ¬ s (57 + b) = 1) := by
  obtain ⟨dd, hd, e1, _, hB⟩ := h.2.2.1
  obtain ⟨⟨c, e, hc, he, e2, e3, e4⟩, _⟩ := hB b hb
  unfold f_X1_hadShowOn
  rw [e2, e3, e1, e4]
  have k1 : nI c ≤ (0 : Int32) ↔ c ≤ 0 := nle_iff (nrf c) (nlit 0) (by omega) (by omega)
  have k2 := neq_iff (nrf e) (nrf dd) (by omega) (by omega)
  by_cases c0 : c = 0
  · rw [if_pos (k1.mpr (by omega)), if_neg (by omega)]; decide
  · rw [if_neg (fun z => c0 (by have := k1.mp z; omega))]
    by_cases c1 : e = dd
    · rw [if_pos (k2.mpr c1), if_pos ⟨by omega, c1⟩]; decide
    · rw [if_neg (fun z => c1 (k2.mp z)), if_neg (fun z => c1 z.2)]; decide
theorem gnum_eq (h : RS N v s) {b : Nat} (hb : b < 5) : f_X2_numberAt v.2.1 (nI b) = 0 ↔ f_X10_generatorFor s (nI b) 0 = -10000005 := by
  have k := rs_gr h
  have e0 := pl_barn (k 0 (by omega)).2.2 hb
  have e1 := pl_barn (k 1 (by omega)).2.2 hb
  rw [← (k 0 (by omega)).1] at e0
  rw [← (k 1 (by omega)).1] at e1
  obtain ⟨m0, b0, f0⟩ := h.2.1.2 0 (by omega)
  obtain ⟨m1, b1, f1⟩ := h.2.1.2 1 (by omega)
  have d0 : ¬ s (50 + 2 * 0 + 1) < 0 := by rw [(k 0 (by omega)).2.1, f0]; exact nI_pos (by omega)
  have d1 : ¬ s (50 + 2 * 1 + 1) < 0 := by rw [(k 1 (by omega)).2.1, f1]; exact nI_pos (by omega)
  rw [num2]
  unfold f_X10_generatorFor
  by_cases c0 : v.2.1.1 0 = nI b
  · rw [if_pos (e0.mpr c0), if_neg d0]
    by_cases c1 : v.2.1.1 1 = nI b
    · rw [if_pos c1, if_pos c0]; decide
    · rw [if_neg c1, if_pos c0]; decide
  · rw [if_neg (fun z => c0 (e0.mp z))]
    by_cases c1 : v.2.1.1 1 = nI b
    · rw [if_pos c1, if_neg c0, if_pos (e1.mpr c1), if_neg d1]; decide
    · rw [if_neg c1, if_neg c0, if_neg (fun z => c1 (e1.mp z))]; decide
theorem why_eq (h : RS N v s) (hN : N < 2 ^ 30) {b : Nat} (hb : b < 5) : f_X7_reasonAgainst v (nI b) b = f_X10_why s (nI b) b := by
  unfold f_X7_reasonAgainst f_X10_why
  have k1 := had_eq h hN hb
  have k2 := num_barn (rs_rr h) hb
  have k3 := gnum_eq h hb
  have k4 := min_barn (rs_rr h) hb
  rw [k2, k4]
  by_cases c1 : s (57 + b) = 1
  · rw [if_pos c1, if_neg (fun z => (k1.mp z) c1)]
  · rw [if_neg c1, if_pos (k1.mpr c1)]
    by_cases c2 : f_X10_reels s (nI b) 0 = 0
    · rw [if_pos c2, if_pos c2]
    · rw [if_neg c2, if_neg c2]
      by_cases c3 : f_X10_generatorFor s (nI b) 0 = -10000005
      · rw [if_pos c3, if_pos (k3.mpr c3)]
      · rw [if_neg c3, if_neg (fun z => c3 (k3.mp z))]
        rcases lowest (rs_gr h) hb (f_X10_reels s (nI b) 1) with ⟨g1, g2⟩ | ⟨g1, g2⟩
        · rw [if_pos g1, if_pos g2]
        · have g3 : ¬ f_X10_generatorFor s (nI b) (f_X10_reels s (nI b) 1) = -10000005 := by
            rcases g2 with g2 | g2 <;> rw [g2] <;> decide
          have g4 : ¬ f_X2_lowestWith v.2.1 (nI b) (f_X10_reels s (nI b) 1) = -1 := by
            rw [g1]; rcases g2 with g2 | g2 <;> rw [g2] <;> decide
          rw [if_neg g3, if_neg g4]
theorem seats_eq : ∀ b, b < 5 → SEATSF b = f_X10_seats (nI b) := by
  intro b hb
  rcases (show b = 0 ∨ b = 1 ∨ b = 2 ∨ b = 3 ∨ b = 4 by omega) with rfl | rfl | rfl | rfl | rfl <;> decide
theorem miles_eq : ∀ b, b < 5 → MILESF b = f_X10_mile (nI b) := by
  intro b hb
  rcases (show b = 0 ∨ b = 1 ∨ b = 2 ∨ b = 3 ∨ b = 4 by omega) with rfl | rfl | rfl | rfl | rfl <;> decide
theorem people_eq (h : RS N v s) {b : Nat} (hb : b < 5) : f_X7_peopleIn v (nI b) b = f_X10_peopleAt s (nI b) := by
  unfold f_X7_peopleIn f_X10_peopleAt
  rw [num_barn (rs_rr h) hb, fresh_barn (rs_rr h) hb, wear_barn (rs_rr h) hb, seats_eq b hb]
  by_cases c : f_X10_reels s (nI b) 0 = 0
  · rw [if_pos c, if_pos c]
  · rw [if_neg c, if_neg c]
    generalize f_X10_seats (nI b) * f_X10_reels s (nI b) 3 / f_X10_reels s (nI b) 0 - f_X10_reels s (nI b) 2 / 10 = y
    by_cases d : y < 0
    · rw [if_pos d, if_neg (fun z => Int32.not_le.mpr d z)]
    · rw [if_neg d, if_pos (Int32.not_lt.mp d)]
end RSS
