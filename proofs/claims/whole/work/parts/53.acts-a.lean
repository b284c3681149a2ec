/-! acts on a State and on the reference's row: what is common -/
theorem upd_s (f : Nat → Int32) (k : Nat) (x : Int32) : upd f k x k = x := by unfold upd; rw [if_pos rfl]
theorem upd_n {f : Nat → Int32} {k j : Nat} {x : Int32} (h : j ≠ k) : upd f k x j = f j := by unfold upd; rw [if_neg h]
theorem nI_clm {b : Nat} (h : b < 2 ^ 31) : (nI b).toNatClampNeg = b := clamp_of rfl h
theorem rr_agree {r : RV} {s t : Nat → Int32} (h : RRel r s) (e : ∀ j, j < 50 → t j = s j) : RRel r t := fun j hj => by
  obtain ⟨⟨r0, r1, r2, r3, r4⟩, rr⟩ := h j hj
  exact ⟨⟨by rw [e _ (by omega)]; exact r0, by rw [e _ (by omega)]; exact r1, by rw [e _ (by omega)]; exact r2, by rw [e _ (by omega)]; exact r3, by rw [e _ (by omega)]; exact r4⟩, rr⟩
theorem gr_agree {g : GV} {s t : Nat → Int32} (h : GRel g s) (e : ∀ j, 50 ≤ j → j < 54 → t j = s j) : GRel g t := fun j hj => by
  obtain ⟨g0, g1, g2⟩ := h j hj
  exact ⟨by rw [e _ (by omega) (by omega)]; exact g0, by rw [e _ (by omega) (by omega)]; exact g1, g2⟩
theorem br_agree {N dd : Nat} {bv : BV} {s t : Nat → Int32} (h : BRel N dd bv s) (e : ∀ j, 57 ≤ j → j < 72 → t j = s j) : BRel N dd bv t := fun x hx => by
  obtain ⟨⟨c1, e1, g1, g2, g3, g4, g5⟩, g6, g7⟩ := h x hx
  exact ⟨⟨c1, e1, g1, g2, g3, g4, by rw [e _ (by omega) (by omega)]; exact g5⟩, by rw [e _ (by omega) (by omega)]; exact g6, by rw [e _ (by omega) (by omega)]; exact g7⟩
theorem br_mono {N M dd : Nat} {bv : BV} {s : Nat → Int32} (h : BRel N dd bv s) (hM : N ≤ M) : BRel M dd bv s := fun x hx => by
  obtain ⟨⟨c1, e1, g1, g2⟩, g3⟩ := h x hx
  exact ⟨⟨c1, e1, by omega, g2⟩, g3⟩
theorem lr_agree {lv : LV} {s t : Nat → Int32} (h : LRel lv s) (e : ∀ j, 77 ≤ j → j < 108 → t j = s j) : LRel lv t := by
  obtain ⟨l1, l2, l3⟩ := h
  exact ⟨l1, by rw [e 77 (by omega) (by omega)]; exact l2, fun j hj => by rw [e _ (by omega) (by omega)]; exact l3 j hj⟩
theorem ar_agree {av : AV} {s t : Nat → Int32} (h : ARel av s) (e : ∀ j, 62 ≤ j → j < 77 → t j = s j) : ARel av t := by
  obtain ⟨a1, a2, a3, a4, a5, a6, a7⟩ := h
  refine ⟨by rw [e 72 (by omega) (by omega)]; exact a1, by rw [e 73 (by omega) (by omega)]; exact a2, by rw [e 74 (by omega) (by omega)]; exact a3, by rw [e 75 (by omega) (by omega)]; exact a4, by rw [e 76 (by omega) (by omega)]; exact a5, ?_, ?_⟩
  · rw [e 67 (by omega) (by omega), e 68 (by omega) (by omega), e 69 (by omega) (by omega), e 70 (by omega) (by omega), e 71 (by omega) (by omega)]; exact a6
  · rw [e 62 (by omega) (by omega), e 63 (by omega) (by omega), e 64 (by omega) (by omega), e 65 (by omega) (by omega), e 66 (by omega) (by omega)]; exact a7
theorem rs_mk {N : Nat} {v : SV} {s : Nat → Int32} (h1 : RRel v.1 s) (h2 : GRel v.2.1 s) (h2b : GM v.2.1) {dd : Nat} (d1 : dd ≤ 9999) (d2 : v.2.2.2.2.2.2.1 = nI dd) (d3 : s 55 = nI dd) (h3 : BRel N dd v.2.2.1 s) (h4 : LRel v.2.2.2.1 s) (h5 : ARel v.2.2.2.2.1 s) {b : Nat} (hb : b < 5) (v1 : v.2.2.2.2.2.1 = nI b) (v2 : s 54 = nI b) (hp : s 56 = v.2.2.2.2.2.2.2) (hq : ∃ p, 1 ≤ p ∧ p ≤ 99 ∧ v.2.2.2.2.2.2.2 = nI p) : RS N v s :=
  ⟨h1, ⟨h2, h2b⟩, ⟨dd, d1, d2, d3, h3⟩, h4, h5, ⟨b, hb, v1, v2⟩, hp, hq⟩
/-- one act: refused on both sides with the same answer, or done on both sides with the same answer -/
def OPR (N : Nat) (v : SV) (q : Int32 × SV) (f : Int32) (d : Int32 × (Nat → Int32)) : Prop := (¬ 0 ≤ f ∧ q.1 = f ∧ q.2 = v) ∨ (f = 0 ∧ 0 ≤ d.1 ∧ q.1 = d.1 ∧ RS (N + 1) q.2 d.2)
theorem sc_le {a b : Int32} {n : Int} (ha : a.toInt = n + 1) (hb : b.toInt = n) (x : Int32) : a ≤ x ↔ b < x := by
  rw [Int32.le_iff_toInt_le, Int32.lt_iff_toInt_lt]; omega
theorem barn_eq (x : Int32) : f_X9_isBarn x = f_X10_isBarn x := by
  unfold f_X9_isBarn f_X10_isBarn f_X10_in
  have k := sc_le (a := 5) (b := 4) (n := 4) (by decide) (by decide) x
  by_cases c : x < 0
  · rw [if_pos c, if_pos c]
  · rw [if_neg c, if_neg c]
    by_cases d : 5 ≤ x
    · rw [if_pos d, if_pos (k.mp d)]
    · rw [if_neg d, if_neg (fun z => d (k.mpr z))]
theorem gen_eq (x : Int32) : f_X9_isGenerator x = f_X10_isGenerator x := by
  unfold f_X9_isGenerator f_X10_isGenerator f_X10_in
  have k := sc_le (a := 2) (b := 1) (n := 1) (by decide) (by decide) x
  by_cases c : x < 0
  · rw [if_pos c, if_pos c]
  · rw [if_neg c, if_neg c]
    by_cases d : 2 ≤ x
    · rw [if_pos d, if_pos (k.mp d)]
    · rw [if_neg d, if_neg (fun z => d (k.mpr z))]
theorem price_eq (x : Int32) : f_X9_isPrice x = f_X10_in x 1 99 := rfl
theorem there_eq {r : RV} {s : Nat → Int32} (h : RRel r s) (x : Int32) : f_X4_isThere r x = f_X10_isReel s x := by
  unfold f_X4_isThere f_X10_isReel f_X10_in
  have k := sc_le (a := 10) (b := 9) (n := 9) (by decide) (by decide) x
  by_cases c : x < 0
  · rw [if_pos c, if_pos c, if_pos rfl]
  · rw [if_neg c, if_neg c]
    by_cases d : 10 ≤ x
    · rw [if_pos d, if_pos (k.mp d), if_pos rfl]
    · rw [if_neg d, if_neg (fun z => d (k.mpr z)), if_neg (show ¬ (1 : Int32) = 0 by decide)]
      obtain ⟨j, e, hj⟩ := rg_nat 10 c d rfl (by decide)
      rw [e, nI_clm (by omega)]
      have g := pl_gone (h j hj).2.1
      rw [← (h j hj).1.1] at g
      by_cases f : r.1 j = -2
      · rw [if_pos f, if_pos (g.mpr f)]
      · rw [if_neg f, if_neg (fun z => f (g.mp z))]
theorem barn_of {b : Nat} (h : b < 5) : ¬ f_X9_isBarn (nI b) = 0 := by
  rcases (show b = 0 ∨ b = 1 ∨ b = 2 ∨ b = 3 ∨ b = 4 by omega) with rfl | rfl | rfl | rfl | rfl <;> decide
theorem gen_of {b : Nat} (h : b < 2) : ¬ f_X9_isGenerator (nI b) = 0 := by
  rcases (show b = 0 ∨ b = 1 by omega) with rfl | rfl <;> decide
theorem abs_mile : ∀ b, b < 5 → ∀ c, c < 5 → ¬ 0 ≤ f_X10_mile (nI b) - f_X10_mile (nI c) → 0 ≤ -(f_X10_mile (nI b) - f_X10_mile (nI c)) := by decide +kernel
theorem drive_rs {N : Nat} {v : SV} {s : Nat → Int32} (h : RS N v s) {b : Nat} (hb : b < 5) (m : Int32) : RS (N + 1) (v.1, v.2.1, v.2.2.1, v.2.2.2.1, f_X0_payDriving v.2.2.2.2.1 m, nI b, v.2.2.2.2.2.2.1, v.2.2.2.2.2.2.2) (upd (upd s 72 (s 72 + m)) 54 (nI b)) := by
  have e : ∀ j, j ≠ 72 → j ≠ 54 → upd (upd s 72 (s 72 + m)) 54 (nI b) j = s j := fun j h1 h2 => by rw [upd_n h2, upd_n h1]
  obtain ⟨h1, ⟨h2, h2b⟩, ⟨dd, d1, d2, d3, h3⟩, h4, ⟨a1, a2, a3, a4, a5, a6, a7⟩, _, hp, hq⟩ := h
  refine rs_mk (rr_agree h1 (fun j hj => e j (by omega) (by omega))) (gr_agree h2 (fun j _ hj => e j (by omega) (by omega))) h2b d1 d2 (by rw [e 55 (by omega) (by omega)]; exact d3) (br_mono (br_agree h3 (fun j _ hj => e j (by omega) (by omega))) (by omega)) (lr_agree h4 (fun j _ hj => e j (by omega) (by omega))) ?_ hb rfl (upd_s _ _ _) (by rw [e 56 (by omega) (by omega)]; exact hp) hq
  refine ⟨?_, by rw [e 73 (by omega) (by omega)]; exact a2, by rw [e 74 (by omega) (by omega)]; exact a3, by rw [e 75 (by omega) (by omega)]; exact a4, by rw [e 76 (by omega) (by omega)]; exact a5, ?_, ?_⟩
  · rw [upd_n (by omega), upd_s, a1]; rfl
  · rw [e 67 (by omega) (by omega), e 68 (by omega) (by omega), e 69 (by omega) (by omega), e 70 (by omega) (by omega), e 71 (by omega) (by omega)]; exact a6
  · rw [e 62 (by omega) (by omega), e 63 (by omega) (by omega), e 64 (by omega) (by omega), e 65 (by omega) (by omega), e 66 (by omega) (by omega)]; exact a7
theorem drive_eq {N : Nat} {v : SV} {s : Nat → Int32} (h : RS N v s) {b : Nat} (hb : b < 5) : OPR N v (f_X7_driveTo v (nI b)) (if s 54 = nI b then -10000005 else 0) (f_X10_drives s (nI b)) := by
  have h0 := h
  obtain ⟨c, hc, e1, e2⟩ := h.2.2.2.2.2.1
  have eb : (nI b).toNatClampNeg = b := nI_clm (by omega)
  have ec : (nI c).toNatClampNeg = c := nI_clm (by omega)
  unfold f_X7_driveTo
  rw [if_neg (barn_of hb)]
  by_cases c1 : s 54 = nI b
  · rw [if_pos c1, if_pos (by rw [e1, ← e2]; exact c1.symm)]; exact Or.inl ⟨by decide, rfl, rfl⟩
  · rw [if_neg c1, if_neg (fun z => c1 (by rw [e2, ← e1]; exact z.symm))]
    refine Or.inr ⟨rfl, ?_⟩
    have hm := abs_mile b hb c hc
    unfold f_X7_driveTo_q49 f_X10_drives
    rw [eb, e1, e2, ec, miles_eq b hb, miles_eq c hc]
    generalize f_X10_mile (nI b) - f_X10_mile (nI c) = m at hm ⊢
    by_cases c2 : 0 ≤ m
    · simp only [if_pos c2]
      exact ⟨c2, trivial, drive_rs h0 hb m⟩
    · simp only [if_neg c2, Int32.zero_sub]
      exact ⟨hm c2, trivial, drive_rs h0 hb (-m)⟩
