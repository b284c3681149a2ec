/-! acts on a State and on the reference's row: fuel, a new print, the price, the day -/
theorem rg_lh {x : Int32} (lo hi : Nat) {L H : Int32} (h1 : ¬ x < L) (h2 : ¬ H < x) (hL : L = nI lo) (hH : H = nI hi) (hl : lo < 2 ^ 31) (hm : hi + 1 < 2 ^ 31) : ∃ j, x = nI j ∧ lo ≤ j ∧ j ≤ hi := by
  subst hL hH
  have a1 := Int32.not_lt.mp h1
  have a2 := Int32.not_lt.mp h2
  have h0 : ¬ x < 0 := fun z => by
    have b1 := nI_nn hl
    rw [Int32.le_iff_toInt_le] at a1 b1
    rw [Int32.lt_iff_toInt_lt] at z
    omega
  obtain ⟨j, e, hj⟩ := rg_nat (N := nI (hi + 1)) (hi + 1) h0 (fun z => by
    have b : nI hi < nI (hi + 1) := (nlt_iff (nrf hi) (nrf (hi + 1)) (by omega) hm).mpr (by omega)
    rw [Int32.le_iff_toInt_le] at z a2
    rw [Int32.lt_iff_toInt_lt] at b
    omega) rfl hm
  exact ⟨j, e, (nle_iff (nrf lo) e hl (by omega)).mp a1, (nle_iff e (nrf hi) (by omega) (by omega)).mp a2⟩
theorem fuel_gr {g : GV} {s : Nat → Int32} (h : GRel g s) {j : Nat} (hj : j < 2) (i y z : Int32) : GRel (f_X2_addMinutes g i j y) (upd (upd s 73 z) (50 + 2 * j + 1) (s (50 + 2 * j + 1) + y)) := by
  intro a ha
  obtain ⟨g0, g1, g2⟩ := h a ha
  unfold f_X2_addMinutes
  refine ⟨by rw [upd_n (by omega), upd_n (by omega)]; exact g0, ?_, g2⟩
  by_cases c : a = j
  · subst c; rw [upd_s]; show _ = upd g.2 a (g.2 a + y) a; rw [upd_s, g1]
  · rw [upd_n (by omega), upd_n (by omega)]; show _ = upd g.2 j (g.2 j + y) a; rw [upd_n c]; exact g1
theorem fuel_rs {N : Nat} {v : SV} {s : Nat → Int32} (h : RS N v s) {j : Nat} (hj : j < 2) (i y : Int32) (hm : ∃ m, m ≤ 500 ∧ v.2.1.2 j + y = nI m) : RS (N + 1) (v.1, f_X2_addMinutes v.2.1 i j y, v.2.2.1, v.2.2.2.1, f_X0_payFuel v.2.2.2.2.1 (y / 5), v.2.2.2.2.2.1, v.2.2.2.2.2.2.1, v.2.2.2.2.2.2.2) (upd (upd s 73 (s 73 + y / 5)) (50 + 2 * j + 1) (s (50 + 2 * j + 1) + y)) := by
  have e : ∀ a, a < 50 ∨ (54 ≤ a ∧ a ≠ 73) → upd (upd s 73 (s 73 + y / 5)) (50 + 2 * j + 1) (s (50 + 2 * j + 1) + y) a = s a := fun a h1 => by rw [upd_n (by omega), upd_n (by omega)]
  obtain ⟨h1, ⟨h2, h2b⟩, ⟨dd, d1, d2, d3, h3⟩, h4, ⟨a1, a2, a3, a4, a5, a6, a7⟩, ⟨b, hb, v1, v2⟩, hp, hq⟩ := h
  refine rs_mk (rr_agree h1 (fun a q => e a (by omega))) (fuel_gr h2 hj i y _) ?_ d1 d2 (by rw [e 55 (by omega)]; exact d3) (br_mono (br_agree h3 (fun a q _ => e a (by omega))) (by omega)) (lr_agree h4 (fun a q _ => e a (by omega))) ?_ hb v1 (by rw [e 54 (by omega)]; exact v2) (by rw [e 56 (by omega)]; exact hp) hq
  · intro a ha
    show ∃ m, m ≤ 500 ∧ upd v.2.1.2 j (v.2.1.2 j + y) a = nI m
    by_cases c : a = j
    · subst c; rw [upd_s]; exact hm
    · rw [upd_n c]; exact h2b a ha
  · refine ⟨by rw [e 72 (by omega)]; exact a1, ?_, by rw [e 74 (by omega)]; exact a3, by rw [e 75 (by omega)]; exact a4, by rw [e 76 (by omega)]; exact a5, ?_, ?_⟩
    · rw [upd_n (by omega), upd_s, a2]; rfl
    · rw [e 67 (by omega), e 68 (by omega), e 69 (by omega), e 70 (by omega), e 71 (by omega)]; exact a6
    · rw [e 62 (by omega), e 63 (by omega), e 64 (by omega), e 65 (by omega), e 66 (by omega)]; exact a7
theorem fuel_eq {N : Nat} {v : SV} {s : Nat → Int32} (h : RS N v s) (x y : Int32) : OPR N v (f_X7_buyFuel v x y) (f_X10_fuelFault s x y) (f_X10_fuels s x x.toNatClampNeg y) := by
  have h0 := h
  unfold f_X7_buyFuel f_X10_fuelFault
  rw [gen_eq]
  by_cases c1 : f_X10_isGenerator x = 0
  · rw [if_pos c1, if_pos c1]; exact Or.inl ⟨by decide, rfl, rfl⟩
  · obtain ⟨j, e, hj⟩ := isGen_nat (x := x) (by rw [gen_eq]; exact c1)
    rw [if_neg c1, if_neg c1]
    unfold f_X9_isFuelOnSale f_X10_in
    by_cases c2 : y < 5
    · rw [if_pos c2, if_pos c2, if_pos rfl, if_pos rfl]; exact Or.inl ⟨by decide, rfl, rfl⟩
    · rw [if_neg c2, if_neg c2]
      by_cases c3 : 500 < y
      · rw [if_pos c3, if_pos c3, if_pos rfl, if_pos rfl]; exact Or.inl ⟨by decide, rfl, rfl⟩
      · rw [if_neg c3, if_neg c3, if_neg (show ¬ (1 : Int32) = 0 by decide)]
        obtain ⟨k, ek, k1, k2⟩ := rg_lh 5 500 c2 c3 rfl rfl (by decide) (by decide)
        by_cases c4 : y - y / 5 * 5 = 0
        · rw [if_pos c4, if_pos c4, if_neg (show ¬ (1 : Int32) = 0 by decide), e, nI_clm (by omega)]
          obtain ⟨g0, g1, g2⟩ := h.2.1.1 j hj
          obtain ⟨m, hm, em⟩ := h.2.1.2 j hj
          have p := pl_van g2
          rw [← g0] at p
          unfold f_X2_placeOf f_X2_minutesOf
          by_cases c5 : v.2.1.1 j = -1
          · rw [if_pos c5, if_pos (p.mpr c5)]
            by_cases c6 : v.2.1.2 j + y ≤ 500
            · have c7 : s (50 + 2 * j + 1) + y ≤ 500 := by rw [g1]; exact c6
              rw [if_pos c6, if_pos c7]
              refine Or.inr ⟨rfl, ?_⟩
              have q : v.2.1.2 j + y = nI (m + k) := nadd em ek
              have q2 : m + k ≤ 500 := (nle_iff q (nlit 500) (by omega) (by omega)).mp c6
              unfold f_X10_fuels
              refine ⟨?_, ?_, ?_⟩
              · show 0 ≤ s (50 + 2 * j + 1) + y
                rw [g1, q]; exact nI_nn (by omega)
              · unfold f_X7_buyFuel_q60 f_X7_buyFuel_q70 f_X2_addMinutes
                show upd v.2.1.2 j (v.2.1.2 j + y) _ = s (50 + 2 * j + 1) + y
                rw [nI_clm (by omega), upd_s, g1]
              · exact fuel_rs h0 hj (nI j) y ⟨m + k, q2, q⟩
            · have c7 : ¬ s (50 + 2 * j + 1) + y ≤ 500 := by rw [g1]; exact c6
              rw [if_neg c6, if_neg c7]; exact Or.inl ⟨by decide, rfl, rfl⟩
          · rw [if_neg c5, if_neg (fun z => c5 (p.mp z))]; exact Or.inl ⟨by decide, rfl, rfl⟩
        · rw [if_neg c4, if_neg c4, if_pos rfl]; exact Or.inl ⟨by decide, rfl, rfl⟩
def rnF (s : Nat → Int32) (j : Nat) : Int32 := if s (5 * j + 0) = -10000005 then 0 else -10000004
def rnD (s : Nat → Int32) (x : Int32) (j : Nat) : Nat → Int32 := upd (upd (upd (upd (upd s 74 (s 74 + 30)) (5 * j + 1) (8 + x)) (5 * j + 2) 0) (5 * j + 3) 0) (5 * j + 4) 0
theorem renew_rr {r : RV} {s : Nat → Int32} (h : RRel r s) {j : Nat} (hj : j < 10) : RRel (f_X4_makeNew r (nI j) j) (rnD s (nI j) j) := by
  intro a ha
  obtain ⟨⟨r0, r1, r2, r3, r4⟩, p0, p1, p2, p3⟩ := h a ha
  unfold f_X4_makeNew rnD
  by_cases c : a = j
  · subst c
    refine ⟨⟨?_, ?_, ?_, ?_, ?_⟩, p0, ?_, ?_, ?_⟩
    · rw [upd_n (by omega), upd_n (by omega), upd_n (by omega), upd_n (by omega), upd_n (by omega)]; exact r0
    · rw [upd_n (by omega), upd_n (by omega), upd_n (by omega), upd_s]; show _ = upd r.2.1 a _ a; rw [upd_s]
    · rw [upd_n (by omega), upd_n (by omega), upd_s]; show _ = upd r.2.2.1 a _ a; rw [upd_s]
    · rw [upd_n (by omega), upd_s]; show _ = upd r.2.2.2.1 a _ a; rw [upd_s]
    · rw [upd_s]; show _ = upd r.2.2.2.2 a _ a; rw [upd_s]
    · exact ⟨0, by omega, by show upd r.2.2.1 a _ a = _; rw [upd_s]; rfl⟩
    · intro _; exact ⟨8 + a, by omega, by show upd r.2.1 a _ a = _; rw [upd_s]; exact nadd rfl rfl⟩
    · exact ⟨0, by omega, by show upd r.2.2.2.2 a _ a = _; rw [upd_s]; rfl⟩
  · refine ⟨⟨?_, ?_, ?_, ?_, ?_⟩, p0, ?_, ?_, ?_⟩
    · rw [upd_n (by omega), upd_n (by omega), upd_n (by omega), upd_n (by omega), upd_n (by omega)]; exact r0
    · rw [upd_n (by omega), upd_n (by omega), upd_n (by omega), upd_n (by omega), upd_n (by omega)]; show _ = upd r.2.1 j _ a; rw [upd_n c]; exact r1
    · rw [upd_n (by omega), upd_n (by omega), upd_n (by omega), upd_n (by omega), upd_n (by omega)]; show _ = upd r.2.2.1 j _ a; rw [upd_n c]; exact r2
    · rw [upd_n (by omega), upd_n (by omega), upd_n (by omega), upd_n (by omega), upd_n (by omega)]; show _ = upd r.2.2.2.1 j _ a; rw [upd_n c]; exact r3
    · rw [upd_n (by omega), upd_n (by omega), upd_n (by omega), upd_n (by omega), upd_n (by omega)]; show _ = upd r.2.2.2.2 j _ a; rw [upd_n c]; exact r4
    · show ∃ w, w < 40 ∧ upd r.2.2.1 j _ a = nI w; rw [upd_n c]; exact p1
    · intro g; show ∃ m, m < 18 ∧ upd r.2.1 j _ a = nI m; rw [upd_n c]; exact p2 g
    · show ∃ p, p < 32 ∧ upd r.2.2.2.2 j _ a = nI p; rw [upd_n c]; exact p3
theorem renew_rs {N : Nat} {v : SV} {s : Nat → Int32} (h : RS N v s) {j : Nat} (hj : j < 10) : RS (N + 1) (f_X4_makeNew v.1 (nI j) j, v.2.1, v.2.2.1, v.2.2.2.1, f_X0_payRenewal v.2.2.2.2.1, v.2.2.2.2.2.1, v.2.2.2.2.2.2.1, v.2.2.2.2.2.2.2) (rnD s (nI j) j) := by
  have e : ∀ a, 50 ≤ a ∧ a ≠ 74 → rnD s (nI j) j a = s a := fun a h1 => by unfold rnD; rw [upd_n (by omega), upd_n (by omega), upd_n (by omega), upd_n (by omega), upd_n (by omega)]
  obtain ⟨h1, ⟨h2, h2b⟩, ⟨dd, d1, d2, d3, h3⟩, h4, ⟨a1, a2, a3, a4, a5, a6, a7⟩, ⟨b, hb, v1, v2⟩, hp, hq⟩ := h
  refine rs_mk (renew_rr h1 hj) (gr_agree h2 (fun a q _ => e a (by omega))) h2b d1 d2 (by rw [e 55 (by omega)]; exact d3) (br_mono (br_agree h3 (fun a q _ => e a (by omega))) (by omega)) (lr_agree h4 (fun a q _ => e a (by omega))) ?_ hb v1 (by rw [e 54 (by omega)]; exact v2) (by rw [e 56 (by omega)]; exact hp) hq
  refine ⟨by rw [e 72 (by omega)]; exact a1, by rw [e 73 (by omega)]; exact a2, ?_, by rw [e 75 (by omega)]; exact a4, by rw [e 76 (by omega)]; exact a5, ?_, ?_⟩
  · unfold rnD; rw [upd_n (by omega), upd_n (by omega), upd_n (by omega), upd_n (by omega), upd_s, a3]; rfl
  · rw [e 67 (by omega), e 68 (by omega), e 69 (by omega), e 70 (by omega), e 71 (by omega)]; exact a6
  · rw [e 62 (by omega), e 63 (by omega), e 64 (by omega), e 65 (by omega), e 66 (by omega)]; exact a7
theorem there_of {r : RV} {j : Nat} (hj : j < 10) (hg : ¬ r.1 j = -2) : ¬ f_X4_isThere r (nI j) = 0 := by
  unfold f_X4_isThere
  rw [if_neg (nI_pos (by omega)), if_neg (fun z => by have := (nle_iff (nlit 10) (nrf j) (by omega) (by omega)).mp z; omega), nI_clm (by omega), if_neg hg]; decide
theorem renew_eq {N : Nat} {v : SV} {s : Nat → Int32} (h : RS N v s) {j : Nat} (hj : j < 10) (hg : ¬ v.1.1 j = -2) : OPR N v (f_X7_renewReel v (nI j)) (rnF s j) (8 + nI j, rnD s (nI j) j) := by
  obtain ⟨⟨r0, _⟩, p0, _⟩ := h.1 j hj
  have p := pl_van p0
  rw [← r0] at p
  unfold f_X7_renewReel rnF
  rw [if_neg (there_of hj hg), nI_clm (by omega)]
  unfold f_X4_placeOf
  by_cases c : v.1.1 j = -1
  · rw [if_pos c, if_pos (p.mpr c)]
    refine Or.inr ⟨rfl, ?_, ?_, renew_rs h hj⟩
    · show 0 ≤ 8 + nI j
      have q : 8 + nI j = nI (8 + j) := nadd rfl rfl
      rw [q]; exact nI_nn (by omega)
    · unfold f_X7_renewReel_q34 f_X7_renewReel_q41 f_X4_makeNew
      show upd v.1.2.1 j (8 + nI j) _ = 8 + nI j
      rw [nI_clm (by omega), upd_s]
  · rw [if_neg c, if_neg (fun z => c (p.mp z))]; exact Or.inl ⟨by decide, rfl, rfl⟩
theorem price_op {N : Nat} {v : SV} {s : Nat → Int32} (h : RS N v s) (x : Int32) : OPR N v (f_X7_changePrice v x) (if f_X10_in x 1 99 = 0 then -10000002 else if s 56 = x then -10000005 else 0) (s 56, upd s 56 x) := by
  obtain ⟨h1, ⟨h2, h2b⟩, ⟨dd, d1, d2, d3, h3⟩, h4, h5, ⟨b, hb, v1, v2⟩, hp, ⟨p, p1, p2, p3⟩⟩ := h
  unfold f_X7_changePrice
  rw [price_eq, ← hp]
  by_cases c1 : f_X10_in x 1 99 = 0
  · rw [if_pos c1, if_pos c1]; exact Or.inl ⟨by decide, rfl, rfl⟩
  · rw [if_neg c1, if_neg c1]
    by_cases c2 : s 56 = x
    · rw [if_pos c2, if_pos c2.symm]; exact Or.inl ⟨by decide, rfl, rfl⟩
    · rw [if_neg c2, if_neg (fun z => c2 z.symm)]
      have e : ∀ a, a ≠ 56 → upd s 56 x a = s a := fun a q => upd_n q
      have hx : ∃ k, 1 ≤ k ∧ k ≤ 99 ∧ x = nI k := by
        unfold f_X10_in at c1
        by_cases e1 : x < 1
        · rw [if_pos e1] at c1; exact absurd rfl c1
        · rw [if_neg e1] at c1
          by_cases e2 : 99 < x
          · rw [if_pos e2] at c1; exact absurd rfl c1
          · obtain ⟨k, ek, k1, k2⟩ := rg_lh 1 99 e1 e2 rfl rfl (by decide) (by decide)
            exact ⟨k, k1, k2, ek⟩
      refine Or.inr ⟨rfl, ?_, rfl, ?_⟩
      · show 0 ≤ s 56
        rw [hp, p3]; exact nI_nn (by omega)
      · exact rs_mk (rr_agree h1 (fun a q => e a (by omega))) (gr_agree h2 (fun a q _ => e a (by omega))) h2b d1 d2 ((e 55 (by omega)).trans d3) (br_mono (br_agree h3 (fun a q _ => e a (by omega))) (by omega)) (lr_agree h4 (fun a q _ => e a (by omega))) (ar_agree h5 (fun a q _ => e a (by omega))) hb v1 ((e 54 (by omega)).trans v2) (show upd s 56 x 56 = x from upd_s _ _ _) hx
theorem begins_at (s : Nat → Int32) (i0 : Nat → Int32) : ∀ k a, lp_X10_begins_13 s i0 k a = if 57 ≤ a ∧ a < 57 + k then 0 else i0 a := by
  intro k
  induction k with
  | zero => intro a; rw [if_neg (by omega)]; rfl
  | succ k ih =>
    intro a
    rw [lp_X10_begins_13_s]
    unfold st_X10_begins_13
    by_cases c : a = 57 + k
    · subst c; rw [upd_s, if_pos (by omega)]
    · rw [upd_n c, ih]
      by_cases d : 57 ≤ a ∧ a < 57 + k
      · rw [if_pos d, if_pos (by omega)]
      · rw [if_neg d, if_neg (by omega)]
theorem day_eq {N : Nat} {v : SV} {s : Nat → Int32} (h : RS N v s) : OPR N v (f_X7_beginNextDay v) (if s 55 = 9999 then -10000003 else 0) (f_X10_begins s) := by
  obtain ⟨h1, ⟨h2, h2b⟩, ⟨dd, d1, d2, d3, h3⟩, h4, h5, ⟨b, hb, v1, v2⟩, hp, hq⟩ := h
  unfold f_X7_beginNextDay
  have k1 : v.2.2.2.2.2.2.1 < 9999 ↔ dd < 9999 := nlt_iff d2 (nlit 9999) (by omega) (by omega)
  have k2 : s 55 = 9999 ↔ dd = 9999 := neq_iff d3 (nlit 9999) (by omega) (by omega)
  by_cases c : dd = 9999
  · rw [if_pos (k2.mpr c), if_neg (fun z => by have := k1.mp z; omega)]; exact Or.inl ⟨by decide, rfl, rfl⟩
  · rw [if_neg (fun z => c (k2.mp z)), if_pos (k1.mpr (by omega))]
    have hr : ∀ a, (f_X10_begins s).2 a = if 57 ≤ a ∧ a < 62 then 0 else upd s 55 (s 55 + 1) a := fun a => begins_at s _ 5 a
    have e : ∀ a, a ≠ 55 ∧ ¬ (57 ≤ a ∧ a < 62) → (f_X10_begins s).2 a = s a := fun a q => by rw [hr, if_neg q.2, upd_n q.1]
    have e55 : (f_X10_begins s).2 55 = nI (dd + 1) := by rw [hr, if_neg (by omega), upd_s]; exact nadd d3 rfl
    have e1 : (f_X10_begins s).1 = nI (dd + 1) := e55
    have ev : v.2.2.2.2.2.2.1 + 1 = nI (dd + 1) := nadd d2 rfl
    refine Or.inr ⟨rfl, by rw [e1]; exact nI_nn (by omega), by rw [e1]; exact ev, ?_⟩
    refine rs_mk (rr_agree h1 (fun a q => e a (by omega))) (gr_agree h2 (fun a q _ => e a (by omega))) h2b (dd := dd + 1) (by omega) ev e55 ?_ (lr_agree h4 (fun a q _ => e a (by omega))) (ar_agree h5 (fun a q _ => e a (by omega))) hb v1 (by rw [e 54 (by omega)]; exact v2) (by rw [e 56 (by omega)]; exact hp) hq
    intro x hx
    obtain ⟨⟨c1, e1, g1, g2, g3, g4, g5⟩, g6, g7⟩ := h3 x hx
    exact ⟨⟨c1, e1, by omega, by omega, g3, g4, by rw [hr, if_pos (by omega), if_neg (by omega)]⟩, by rw [e _ (by omega)]; exact g6, by rw [e _ (by omega)]; exact g7⟩
