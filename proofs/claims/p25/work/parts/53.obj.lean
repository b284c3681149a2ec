/-! the object: its state and its history -/
def HI (h : HV) : Prop := ∃ nx sz, nx < 4 ∧ sz ≤ 4 ∧ h.2.1 = nI nx ∧ h.2.2 = nI sz
def INV (N : Nat) (v : PV) : Prop := SI N v.1 ∧ HI v.2.2.2.1
def hst (h : HV) (i : Nat) : SV := if i = 0 then h.1.1 else if i = 1 then h.1.2.1 else if i = 2 then h.1.2.2.1 else h.1.2.2.2
theorem hst_add (h : HV) (v : SV) {p : Nat} (hp : p < 4) (e : h.2.1 = nI p) : hst (f_X3_add h v) p = v ∧ (f_X3_add h v).2.1 = nI ((p + 1) % 4) ∧ (f_X3_add h v).2.2 = (if 4 < h.2.2 + 1 then 4 else h.2.2 + 1) := by
  have e2 : (h.2.1 + 1) - (h.2.1 + 1) / 4 * 4 = nI ((p + 1) % 4) := nrem (nadd e (nlit 1)) (nlit 4) (by omega) (by decide) (by decide)
  unfold f_X3_add
  rcases (show p = 0 ∨ p = 1 ∨ p = 2 ∨ p = 3 by omega) with rfl | rfl | rfl | rfl
  · rw [if_pos (show h.2.1 = 0 from e)]
    exact ⟨rfl, e2, rfl⟩
  · rw [if_neg (show ¬ h.2.1 = 0 by rw [e]; decide), if_pos (show h.2.1 = 1 from e)]
    exact ⟨rfl, e2, rfl⟩
  · rw [if_neg (show ¬ h.2.1 = 0 by rw [e]; decide), if_neg (show ¬ h.2.1 = 1 by rw [e]; decide), if_pos (show h.2.1 = 2 from e)]
    exact ⟨rfl, e2, rfl⟩
  · rw [if_neg (show ¬ h.2.1 = 0 by rw [e]; decide), if_neg (show ¬ h.2.1 = 1 by rw [e]; decide), if_neg (show ¬ h.2.1 = 2 by rw [e]; decide)]
    exact ⟨rfl, e2, rfl⟩
theorem sz_add {h : HV} {k : Nat} (hk : k ≤ 4) (e : h.2.2 = nI k) : (if 4 < h.2.2 + 1 then 4 else h.2.2 + 1) = nI (min (k + 1) 4) := by
  have e1 : h.2.2 + 1 = nI (k + 1) := nadd e (nlit 1)
  have q : 4 < h.2.2 + 1 ↔ 4 < k + 1 := nlt_iff (nlit 4) e1 (by omega) (by omega)
  by_cases c : 4 < k + 1
  · rw [if_pos (q.mpr c), show min (k + 1) 4 = 4 by omega]; rfl
  · rw [if_neg (fun z => c (q.mp z)), e1, show min (k + 1) 4 = k + 1 by omega]
theorem hi_add {h : HV} (q : HI h) (v : SV) : HI (f_X3_add h v) := by
  obtain ⟨p, k, hp, hk, e1, e2⟩ := q
  obtain ⟨_, a2, a3⟩ := hst_add h v hp e1
  exact ⟨(p + 1) % 4, min (k + 1) 4, by omega, by omega, a2, a3.trans (sz_add hk e2)⟩
theorem inv_n {N : Nat} {v : PV} (h : INV N v) : v.2.2.2.1.2.1 = nI v.2.2.2.1.2.1.toNatClampNeg ∧ v.2.2.2.1.2.1.toNatClampNeg < 4 := by
  obtain ⟨p, k, hp, hk, e1, e2⟩ := h.2
  rw [e1, nI_clm (by omega)]
  exact ⟨rfl, hp⟩
theorem rec_1 (w : PV) (x : Int32) : (f_X9_recorded w x).1 = x := by
  unfold f_X9_recorded
  split
  · rfl
  · rfl
theorem rec_hi {w : PV} (h : HI w.2.2.2.1) (x : Int32) : HI (f_X9_recorded w x).2 := by
  unfold f_X9_recorded
  split
  · exact h
  · exact hi_add h _
/-- an act of the object -/
def PSTEP (N : Nat) (q : Int32 × PV) : Prop := ANS q.1 ∧ INV N q.2
theorem inv_act {N : Nat} {v : PV} (h : HI v.2.2.2.1) {q : Int32 × SV} (hq : STEP N q) (s : SV) : PSTEP N ((f_X9_recorded (q.2, s, v.2.2.1, v.2.2.2.1, v.2.2.2.2.1, v.2.2.2.2.2.1, v.2.2.2.2.2.2.1, v.2.2.2.2.2.2.2.1, v.2.2.2.2.2.2.2.2.1, v.2.2.2.2.2.2.2.2.2) q.1).1, (q.2, s, v.2.2.1, (f_X9_recorded (q.2, s, v.2.2.1, v.2.2.2.1, v.2.2.2.2.1, v.2.2.2.2.2.1, v.2.2.2.2.2.2.1, v.2.2.2.2.2.2.2.1, v.2.2.2.2.2.2.2.2.1, v.2.2.2.2.2.2.2.2.2) q.1).2, v.2.2.2.2.1, v.2.2.2.2.2.1, v.2.2.2.2.2.2.1, v.2.2.2.2.2.2.2.1, v.2.2.2.2.2.2.2.2.1, v.2.2.2.2.2.2.2.2.2)) := by
  refine ⟨?_, hq.2, rec_hi (w := (q.2, s, v.2.2.1, v.2.2.2.1, v.2.2.2.2.1, v.2.2.2.2.2.1, v.2.2.2.2.2.2.1, v.2.2.2.2.2.2.2.1, v.2.2.2.2.2.2.2.2.1, v.2.2.2.2.2.2.2.2.2)) h q.1⟩
  rw [rec_1]; exact hq.1
section PP
variable {N : Nat} {v : PV}
theorem p_drive (h : INV N v) (x : Int32) : PSTEP N (f_X9_drive v x) := by
  unfold f_X9_drive f_X9_drive_q8 f_X9_drive_q17 f_X9_drive_q20
  exact inv_act h.2 (si_drive h.1 x) _
theorem p_reel (h : INV N v) (x y : Int32) : PSTEP N (f_X9_moveReel v x y) := by
  unfold f_X9_moveReel f_X9_moveReel_q8 f_X9_moveReel_q18 f_X9_moveReel_q21
  exact inv_act h.2 (si_reel h.1 x y) _
theorem p_gen (h : INV N v) (x y : Int32) : PSTEP N (f_X9_moveGenerator v x y) := by
  unfold f_X9_moveGenerator f_X9_moveGenerator_q8 f_X9_moveGenerator_q18 f_X9_moveGenerator_q21
  exact inv_act h.2 (si_gen h.1 x y) _
theorem p_fuel (h : INV N v) (x y : Int32) : PSTEP N (f_X9_fuel v x y) := by
  unfold f_X9_fuel f_X9_fuel_q8 f_X9_fuel_q18 f_X9_fuel_q21
  exact inv_act h.2 (si_fuel h.1 x y) _
theorem p_renew (h : INV N v) (x : Int32) : PSTEP N (f_X9_renew v x) := by
  unfold f_X9_renew f_X9_renew_q8 f_X9_renew_q17 f_X9_renew_q20
  exact inv_act h.2 (si_renew h.1 x) _
theorem p_price (h : INV N v) (x : Int32) : PSTEP N (f_X9_setPrice v x) := by
  unfold f_X9_setPrice f_X9_setPrice_q8 f_X9_setPrice_q17 f_X9_setPrice_q20
  exact inv_act h.2 (si_price h.1 x) _
theorem p_show (h : INV N v) (x : Int32) : PSTEP (N + 1) (f_X9_show v x) := by
  unfold f_X9_show f_X9_show_q8 f_X9_show_q17 f_X9_show_q20
  exact inv_act h.2 (si_show h.1 x) _
theorem p_day (h : INV N v) : PSTEP N (f_X9_nextDay v) := by
  unfold f_X9_nextDay f_X9_nextDay_q8 f_X9_nextDay_q16 f_X9_nextDay_q19
  exact inv_act h.2 (si_day h.1) _
theorem ps_mono {M : Nat} {q : Int32 × PV} (h : PSTEP N q) (hM : N ≤ M) : PSTEP M q := ⟨h.1, si_mono h.2.1 hM, h.2.2⟩
theorem inv_mono {M : Nat} (h : INV N v) (hM : N ≤ M) : INV M v := ⟨si_mono h.1 hM, h.2⟩
end PP
