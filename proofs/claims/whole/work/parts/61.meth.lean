/-! every method of the class against the reference's, but perform -/
theorem ca_drive (v : PV) (x : Int32) : f_X9_drive v x = actC v (f_X7_driveTo v.1 x) := by
  unfold f_X9_drive f_X9_drive_q8 f_X9_drive_q17 f_X9_drive_q20 f_X9_recorded f_X9_recorded_q12 actC
  rw [copy_eq]
  generalize f_X7_driveTo v.1 x = q
  by_cases c : q.1 < 0
  · simp only [if_pos c]
  · simp only [if_neg c]
theorem ca_moveReel (v : PV) (x y : Int32) : f_X9_moveReel v x y = actC v (f_X7_carryReel v.1 x y) := by
  unfold f_X9_moveReel f_X9_moveReel_q8 f_X9_moveReel_q18 f_X9_moveReel_q21 f_X9_recorded f_X9_recorded_q12 actC
  rw [copy_eq]
  generalize f_X7_carryReel v.1 x y = q
  by_cases c : q.1 < 0
  · simp only [if_pos c]
  · simp only [if_neg c]
theorem ca_moveGenerator (v : PV) (x y : Int32) : f_X9_moveGenerator v x y = actC v (f_X7_carryGenerator v.1 x y) := by
  unfold f_X9_moveGenerator f_X9_moveGenerator_q8 f_X9_moveGenerator_q18 f_X9_moveGenerator_q21 f_X9_recorded f_X9_recorded_q12 actC
  rw [copy_eq]
  generalize f_X7_carryGenerator v.1 x y = q
  by_cases c : q.1 < 0
  · simp only [if_pos c]
  · simp only [if_neg c]
theorem ca_fuel (v : PV) (x y : Int32) : f_X9_fuel v x y = actC v (f_X7_buyFuel v.1 x y) := by
  unfold f_X9_fuel f_X9_fuel_q8 f_X9_fuel_q18 f_X9_fuel_q21 f_X9_recorded f_X9_recorded_q12 actC
  rw [copy_eq]
  generalize f_X7_buyFuel v.1 x y = q
  by_cases c : q.1 < 0
  · simp only [if_pos c]
  · simp only [if_neg c]
theorem ca_renew (v : PV) (x : Int32) : f_X9_renew v x = actC v (f_X7_renewReel v.1 x) := by
  unfold f_X9_renew f_X9_renew_q8 f_X9_renew_q17 f_X9_renew_q20 f_X9_recorded f_X9_recorded_q12 actC
  rw [copy_eq]
  generalize f_X7_renewReel v.1 x = q
  by_cases c : q.1 < 0
  · simp only [if_pos c]
  · simp only [if_neg c]
theorem ca_setPrice (v : PV) (x : Int32) : f_X9_setPrice v x = actC v (f_X7_changePrice v.1 x) := by
  unfold f_X9_setPrice f_X9_setPrice_q8 f_X9_setPrice_q17 f_X9_setPrice_q20 f_X9_recorded f_X9_recorded_q12 actC
  rw [copy_eq]
  generalize f_X7_changePrice v.1 x = q
  by_cases c : q.1 < 0
  · simp only [if_pos c]
  · simp only [if_neg c]
theorem ca_show (v : PV) (x : Int32) : f_X9_show v x = actC v (f_X7_showIn v.1 x) := by
  unfold f_X9_show f_X9_show_q8 f_X9_show_q17 f_X9_show_q20 f_X9_recorded f_X9_recorded_q12 actC
  rw [copy_eq]
  generalize f_X7_showIn v.1 x = q
  by_cases c : q.1 < 0
  · simp only [if_pos c]
  · simp only [if_neg c]
theorem ca_nextDay (v : PV) : f_X9_nextDay v = actC v (f_X7_beginNextDay v.1) := by
  unfold f_X9_nextDay f_X9_nextDay_q8 f_X9_nextDay_q16 f_X9_nextDay_q19 f_X9_recorded f_X9_recorded_q12 actC
  rw [copy_eq]
  generalize f_X7_beginNextDay v.1 = q
  by_cases c : q.1 < 0
  · simp only [if_pos c]
  · simp only [if_neg c]
theorem n_unk : ¬ (0 : Int32) ≤ -10000001 := by decide
theorem n_bad : ¬ (0 : Int32) ≤ -10000002 := by decide
theorem n_ful : ¬ (0 : Int32) ≤ -10000003 := by decide
theorem n_not : ¬ (0 : Int32) ≤ -10000004 := by decide
theorem n_non : ¬ (0 : Int32) ≤ -10000005 := by decide
theorem y_0 : (0 : Int32) ≤ 0 := by decide
section OO
variable {N : Nat} {v : PV} {w : MV}
theorem drive_op (R : REL N v w) (x : Int32) : ∃ f d, OPR N v.1 (f_X7_driveTo v.1 x) f d ∧ f_X10_drive w x = actM w f d := by
  by_cases c : f_X10_isBarn x = 0
  · have c9 : f_X9_isBarn x = 0 := by rw [barn_eq]; exact c
    refine ⟨-10000001, (0, w.1), Or.inl ⟨n_unk, ?_, ?_⟩, ?_⟩
    · unfold f_X7_driveTo; rw [if_pos c9]
    · unfold f_X7_driveTo; rw [if_pos c9]
    · unfold f_X10_drive actM; rw [if_pos c, if_neg n_unk]
  · obtain ⟨b, eb, hb⟩ := isBarn_nat (x := x) (by rw [barn_eq]; exact c)
    subst eb
    refine ⟨_, _, drive_eq R.1 hb, ?_⟩
    unfold f_X10_drive f_X10_drive_q25 f_X10_drive_q30 actM
    rw [if_neg c]
    by_cases d : w.1 54 = nI b
    · rw [if_pos d, if_pos d, if_neg n_non]
    · rw [if_neg d, if_neg d, if_pos y_0]
theorem moveReel_op (R : REL N v w) (x y : Int32) : ∃ f d, OPR N v.1 (f_X7_carryReel v.1 x y) f d ∧ f_X10_moveReel w x y = actM w f d := by
  by_cases c : f_X10_isReel w.1 x = 0
  · have c9 : f_X4_isThere v.1.1 x = 0 := by rw [there_eq R.1.1]; exact c
    refine ⟨-10000001, (0, w.1), Or.inl ⟨n_unk, ?_, ?_⟩, ?_⟩
    · unfold f_X7_carryReel; rw [if_pos c9]
    · unfold f_X7_carryReel; rw [if_pos c9]
    · unfold f_X10_moveReel f_X10_moveReel_q22 f_X10_movesIf actM; rw [if_pos c, if_neg n_unk, if_pos c]
  · obtain ⟨j, ej, hj, hg⟩ := isThere_nat (v := v.1.1) (x := x) (by rw [there_eq R.1.1]; exact c)
    subst ej
    refine ⟨_, _, reel_eq R.1 hj hg (f_X10_of (nI j) 0) y, ?_⟩
    unfold f_X10_moveReel f_X10_moveReel_q22_1 f_X10_movesIf f_X10_movesIf_q26 f_X10_movesIf_q32 actM
    rw [if_neg c, if_neg c, nI_clm (by omega)]
theorem moveGenerator_op (R : REL N v w) (x y : Int32) : ∃ f d, OPR N v.1 (f_X7_carryGenerator v.1 x y) f d ∧ f_X10_moveGenerator w x y = actM w f d := by
  by_cases c : f_X10_isGenerator x = 0
  · have c9 : f_X9_isGenerator x = 0 := by rw [gen_eq]; exact c
    refine ⟨-10000001, (0, w.1), Or.inl ⟨n_unk, ?_, ?_⟩, ?_⟩
    · unfold f_X7_carryGenerator; rw [if_pos c9]
    · unfold f_X7_carryGenerator; rw [if_pos c9]
    · unfold f_X10_moveGenerator f_X10_moveGenerator_q22 f_X10_movesIf actM; rw [if_pos c, if_neg n_unk, if_pos c]
  · obtain ⟨j, ej, hj⟩ := isGen_nat (x := x) (by rw [gen_eq]; exact c)
    subst ej
    refine ⟨_, _, gen_eqv R.1 hj (50 + 2 * nI j) y, ?_⟩
    unfold f_X10_moveGenerator f_X10_moveGenerator_q22_1 f_X10_movesIf f_X10_movesIf_q26 f_X10_movesIf_q32 actM
    rw [if_neg c, if_neg c, nI_clm (by omega)]
theorem fuel_op (R : REL N v w) (x y : Int32) : ∃ f d, OPR N v.1 (f_X7_buyFuel v.1 x y) f d ∧ f_X10_fuel w x y = actM w f d := ⟨_, _, fuel_eq R.1 x y, rfl⟩
theorem renew_op (R : REL N v w) (x : Int32) : ∃ f d, OPR N v.1 (f_X7_renewReel v.1 x) f d ∧ f_X10_renew w x = actM w f d := by
  by_cases c : f_X10_isReel w.1 x = 0
  · have c9 : f_X4_isThere v.1.1 x = 0 := by rw [there_eq R.1.1]; exact c
    refine ⟨-10000001, (0, w.1), Or.inl ⟨n_unk, ?_, ?_⟩, ?_⟩
    · unfold f_X7_renewReel; rw [if_pos c9]
    · unfold f_X7_renewReel; rw [if_pos c9]
    · unfold f_X10_renew actM; rw [if_pos c, if_neg n_unk]
  · obtain ⟨j, ej, hj, hg⟩ := isThere_nat (v := v.1.1) (x := x) (by rw [there_eq R.1.1]; exact c)
    subst ej
    refine ⟨_, _, renew_eq R.1 hj hg, ?_⟩
    unfold f_X10_renew f_X10_renew_q30 actM rnF rnD
    rw [if_neg c, nI_clm (by omega)]
    by_cases d : w.1 (5 * j + 0) = -10000005
    · rw [if_pos d, if_pos d, if_pos y_0]
    · rw [if_neg d, if_neg d, if_neg n_not]
theorem setPrice_op (R : REL N v w) (x : Int32) : ∃ f d, OPR N v.1 (f_X7_changePrice v.1 x) f d ∧ f_X10_setPrice w x = actM w f d := by
  refine ⟨_, _, price_op R.1 x, ?_⟩
  unfold f_X10_setPrice f_X10_setPrice_q28 f_X10_setPrice_q35 f_X10_puts actM
  by_cases c : f_X10_in x 1 99 = 0
  · rw [if_pos c, if_pos c, if_neg n_bad]
  · rw [if_neg c, if_neg c]
    by_cases d : w.1 56 = x
    · rw [if_pos d, if_pos d, if_neg n_non]
    · rw [if_neg d, if_neg d, if_pos y_0]
theorem why_le {s : Nat → Int32} {x : Int32} {k : Nat} : f_X10_why s x k ≤ 0 ↔ f_X10_why s x k = 0 := by
  rcases why_cases s x k with e | e | e | e | e <;> rw [e] <;> decide
theorem why_no {s : Nat → Int32} {x : Int32} {k : Nat} : ¬ 0 ≤ -10000010 - f_X10_why s x k := by
  rcases why_cases s x k with e | e | e | e | e <;> rw [e] <;> decide
theorem show_op (R : REL N v w) (hN : N < 2 ^ 30) (x : Int32) : ∃ f d, OPR N v.1 (f_X7_showIn v.1 x) f d ∧ f_X10_show w x = actM w f d := by
  by_cases c : f_X10_isBarn x = 0
  · have c9 : f_X9_isBarn x = 0 := by rw [barn_eq]; exact c
    refine ⟨-10000001, (0, w.1), Or.inl ⟨n_unk, ?_, ?_⟩, ?_⟩
    · unfold f_X7_showIn; rw [if_pos c9]
    · unfold f_X7_showIn; rw [if_pos c9]
    · unfold f_X10_show actM; rw [if_pos c, if_neg n_unk]
  · obtain ⟨b, eb, hb⟩ := isBarn_nat (x := x) (by rw [barn_eq]; exact c)
    subst eb
    refine ⟨_, _, show_eq R.1 hN hb, ?_⟩
    unfold f_X10_show f_X10_show_q26 f_X10_show_q31 actM whF
    rw [if_neg c, nI_clm (by omega)]
    by_cases d : f_X10_why w.1 (nI b) b = 0
    · rw [if_pos (why_le.mpr d), if_pos d, if_pos y_0]
    · rw [if_neg (fun z => d (why_le.mp z)), if_neg d, if_neg why_no]
theorem nextDay_op (R : REL N v w) : ∃ f d, OPR N v.1 (f_X7_beginNextDay v.1) f d ∧ f_X10_nextDay w = actM w f d := by
  refine ⟨_, _, day_eq R.1, ?_⟩
  unfold f_X10_nextDay f_X10_nextDay_q17 f_X10_nextDay_q21 actM
  by_cases d : w.1 55 = 9999
  · rw [if_pos d, if_pos d, if_neg n_ful]
  · rw [if_neg d, if_neg d, if_pos y_0]
/-- what a method owes: the same answer, and what it leaves stands in the relation -/
theorem drive_m (R : REL N v w) (x : Int32) : (f_X9_drive v x).1 = (f_X10_drive w x).1 ∧ REL (N + 1) (f_X9_drive v x).2 (mv3 w (f_X10_drive w x).2) := by
  obtain ⟨f, d, o, e⟩ := drive_op R x
  rw [ca_drive, e]; exact act_rel R o
theorem moveReel_m (R : REL N v w) (x y : Int32) : (f_X9_moveReel v x y).1 = (f_X10_moveReel w x y).1 ∧ REL (N + 1) (f_X9_moveReel v x y).2 (mv3 w (f_X10_moveReel w x y).2) := by
  obtain ⟨f, d, o, e⟩ := moveReel_op R x y
  rw [ca_moveReel, e]; exact act_rel R o
theorem moveGenerator_m (R : REL N v w) (x y : Int32) : (f_X9_moveGenerator v x y).1 = (f_X10_moveGenerator w x y).1 ∧ REL (N + 1) (f_X9_moveGenerator v x y).2 (mv3 w (f_X10_moveGenerator w x y).2) := by
  obtain ⟨f, d, o, e⟩ := moveGenerator_op R x y
  rw [ca_moveGenerator, e]; exact act_rel R o
theorem fuel_m (R : REL N v w) (x y : Int32) : (f_X9_fuel v x y).1 = (f_X10_fuel w x y).1 ∧ REL (N + 1) (f_X9_fuel v x y).2 (mv3 w (f_X10_fuel w x y).2) := by
  obtain ⟨f, d, o, e⟩ := fuel_op R x y
  rw [ca_fuel, e]; exact act_rel R o
theorem renew_m (R : REL N v w) (x : Int32) : (f_X9_renew v x).1 = (f_X10_renew w x).1 ∧ REL (N + 1) (f_X9_renew v x).2 (mv3 w (f_X10_renew w x).2) := by
  obtain ⟨f, d, o, e⟩ := renew_op R x
  rw [ca_renew, e]; exact act_rel R o
theorem setPrice_m (R : REL N v w) (x : Int32) : (f_X9_setPrice v x).1 = (f_X10_setPrice w x).1 ∧ REL (N + 1) (f_X9_setPrice v x).2 (mv3 w (f_X10_setPrice w x).2) := by
  obtain ⟨f, d, o, e⟩ := setPrice_op R x
  rw [ca_setPrice, e]; exact act_rel R o
theorem show_m (R : REL N v w) (hN : N < 2 ^ 30) (x : Int32) : (f_X9_show v x).1 = (f_X10_show w x).1 ∧ REL (N + 1) (f_X9_show v x).2 (mv3 w (f_X10_show w x).2) := by
  obtain ⟨f, d, o, e⟩ := show_op R hN x
  rw [ca_show, e]; exact act_rel R o
theorem nextDay_m (R : REL N v w) : (f_X9_nextDay v).1 = (f_X10_nextDay w).1 ∧ REL (N + 1) (f_X9_nextDay v).2 (mv3 w (f_X10_nextDay w).2) := by
  obtain ⟨f, d, o, e⟩ := nextDay_op R
  rw [ca_nextDay, e]; exact act_rel R o
/-! texts -/
theorem type_m (R : REL N v w) (x : Int32) (hx : vp_nar .char x = x) : (f_X9_type v x).1 = (f_X10_type w x).1 ∧ REL (N + 1) (f_X9_type v x).2 (w.1, w.2.1, w.2.2.1, w.2.2.2.1, w.2.2.2.2.1, w.2.2.2.2.2.1, (f_X10_type w x).2.1, (f_X10_type w x).2.2, w.2.2.2.2.2.2.2.2) := by
  obtain ⟨r1, r2, ⟨L, hL, e1, e2, e3⟩, r4, r5⟩ := R
  have r1 := rs_mono r1 (show N ≤ N + 1 by omega)
  have r2 := hr_mono r2 (show N ≤ N + 1 by omega)
  have r4 := kp_mono r4 (show N ≤ N + 1 by omega)
  have k1 : nI L < 80 ↔ L < 80 := nlt_iff (nrf L) (nlit 80) (by omega) (by omega)
  have k2 : nI L = 80 ↔ L = 80 := neq_iff (nrf L) (nlit 80) (by omega) (by omega)
  unfold f_X9_type f_X9_type_q5 f_X8_append f_X10_type
  rw [e1, e2, hx, nI_clm (by omega)]
  by_cases c : L < 80
  · rw [if_pos (k1.mpr c), if_neg (fun z => by have := k2.mp z; omega)]
    refine ⟨rfl, r1, r2, ⟨L + 1, by omega, nadd rfl (nlit 1), nadd rfl (nlit 1), fun j hj => ?_⟩, r4, r5⟩
    show upd v.2.2.2.2.1.1 L x j = upd w.2.2.2.2.2.2.1 L x j
    by_cases d : j = L
    · rw [d, upd_s, upd_s]
    · rw [upd_n d, upd_n d]; exact e3 j (by omega)
  · rw [if_neg (fun z => c (k1.mp z)), if_pos (k2.mpr (by omega))]
    exact ⟨rfl, r1, r2, ⟨L, hL, e1, rfl, e3⟩, r4, r5⟩
theorem clearText_m (R : REL N v w) : (f_X9_clearText v).1 = (f_X10_clearText w).1 ∧ REL (N + 1) (f_X9_clearText v).2 (w.1, w.2.1, w.2.2.1, w.2.2.2.1, w.2.2.2.2.1, w.2.2.2.2.2.1, w.2.2.2.2.2.2.1, (f_X10_clearText w).2, w.2.2.2.2.2.2.2.2) := by
  obtain ⟨r1, r2, ⟨L, hL, e1, e2, e3⟩, r4, r5⟩ := R
  have r1 := rs_mono r1 (show N ≤ N + 1 by omega)
  have r2 := hr_mono r2 (show N ≤ N + 1 by omega)
  have r4 := kp_mono r4 (show N ≤ N + 1 by omega)
  exact ⟨e1.trans e2.symm, r1, r2, ⟨0, by omega, rfl, rfl, fun j hj => absurd hj (by omega)⟩, r4, r5⟩
theorem stopped_m (R : REL N v w) (x : Int32) : f_X9_stopped v x = f_X10_stopped w x := by
  have r5 := R.2.2.2.2
  unfold f_X9_stopped f_X10_stopped f_X10_in
  by_cases c : x < 0
  · rw [if_pos c, if_pos c, if_pos rfl]
  · rw [if_neg c, if_neg c]
    by_cases d : 1 < x
    · rw [if_neg (Int32.not_le.mpr d), if_pos d, if_pos rfl]
    · rw [if_pos (Int32.not_lt.mp d), if_neg d, if_neg n10]
      rcases r5 with ⟨h1, h2, h3⟩ | ⟨h1, h2, h3⟩
      · rw [if_pos h1, h2, h3]
        by_cases f : x = 0
        · rw [if_pos f]
        · rw [if_neg f]
      · rw [if_neg (by rw [h1]; exact n10), h2, h3]
/-! history and snapshot -/
theorem undo_m (R : REL N v w) : (f_X9_undo v).1 = (f_X10_undo w).1 ∧ REL (N + 1) (f_X9_undo v).2 ((f_X10_undo w).2.1, w.2.1, w.2.2.1, (f_X10_undo w).2.2, w.2.2.2.2) := by
  obtain ⟨r1, ⟨k, p, h1, h2, h3, h4, h5, h6⟩, r3, r4, r5⟩ := R
  have r4 := kp_mono r4 (show N ≤ N + 1 by omega)
  unfold f_X9_undo f_X10_undo
  by_cases c : k = 0
  · subst c
    have e1 : v.2.2.2.1.2.2 = 0 := h3
    have e2 : w.2.2.2.1 = 0 := h4
    rw [if_pos e2]
    unfold f_X9_undo_q8 f_X3_takeLatestInto
    rw [if_pos e1, if_pos (show ((0 : Int32), (v.2.2.2.1, v.1)).1 = 0 from rfl)]
    exact ⟨rfl, rs_mono r1 (by omega), ⟨0, p, by omega, h2, h3, h4, h5, fun i hi => absurd hi (by omega)⟩, r3, r4, r5⟩
  · have n2 : ¬ w.2.2.2.1 = 0 := by
      rw [h4]; intro z
      have := (neq_iff (nrf k) (nlit 0) (by omega) (by omega)).mp z
      omega
    rw [if_neg n2, take_at _ v.1 h2 h5 (by omega) h1 h3]
    unfold f_X9_undo_q8
    rw [if_neg (show ¬ ((1 : Int32), (v.2.2.2.1.1, nI ((p + 3) % 4), nI (k - 1)), hst v.2.2.2.1 ((p + 3) % 4)).1 = 0 from n10)]
    have e4 : w.2.2.2.1 - 1 = nI (k - 1) := nsub h4 (nlit 1) (by omega)
    have ec : w.2.2.2.1.toNatClampNeg = k := by rw [h4]; exact nI_clm (by omega)
    unfold f_X10_undo_22_x
    rw [e4]
    refine ⟨rfl, ?_, ⟨k - 1, (p + 3) % 4, by omega, by omega, rfl, rfl, rfl, fun i hi => ?_⟩, r3, r4, r5⟩
    · have q := h6 (k - 1) (by omega)
      rw [show (p + 4 - k + (k - 1)) % 4 = (p + 3) % 4 by omega] at q
      refine rs_agree (rs_mono q (by omega)) (fun j hj => ?_)
      show lp_X10_undo_22 w w.1 108 j = w.2.2.1 (108 * (k - 1) + j)
      rw [undo_at w w.1 (108 * (k - 1)) (by rw [ec]), if_pos hj]
    · have q := h6 i (by omega)
      rw [show (p + 4 - k + i) % 4 = ((p + 3) % 4 + 4 - (k - 1) + i) % 4 by omega] at q
      exact rs_mono q (by omega)
theorem keep_m (R : REL N v w) : (f_X9_keep v).1 = (f_X10_keep w).1 ∧ REL (N + 1) (f_X9_keep v).2 (w.1, w.2.1, w.2.2.1, w.2.2.2.1, (f_X10_keep w).2.1, (f_X10_keep w).2.2, w.2.2.2.2.2.2) := by
  obtain ⟨r1, r2, r3, r4, r5⟩ := R
  have r1 := rs_mono r1 (show N ≤ N + 1 by omega)
  have r2 := hr_mono r2 (show N ≤ N + 1 by omega)
  refine ⟨(rs_day r1).symm, r1, r2, r3, Or.inr ⟨rfl, rfl, ?_⟩, r5⟩
  refine rs_agree r1 (fun j hj => ?_)
  show lp_X10_keep_2 w w.2.2.2.2.1 108 j = w.1 j
  rw [keep_at, if_pos hj]
theorem ca_restore (v : PV) : f_X9_restore v = if v.2.2.2.2.2.2.1 = 0 then (-10000005, v) else actC v (v.2.2.1.2.2.2.2.2.2.1, v.2.2.1) := by
  unfold f_X9_restore f_X9_restore_q18 f_X9_restore_q29 f_X9_restore_q40 f_X9_recorded f_X9_recorded_q12 f_X7_today actC
  rw [copy_eq, copy_eq]
  by_cases d : v.2.2.2.2.2.2.1 = 0
  · rw [if_pos d, if_pos d]
  · rw [if_neg d, if_neg d]
    by_cases c : v.2.2.1.2.2.2.2.2.2.1 < 0
    · simp only [if_pos c]
    · simp only [if_neg c]
theorem restore_m (R : REL N v w) : (f_X9_restore v).1 = (f_X10_restore w).1 ∧ REL (N + 1) (f_X9_restore v).2 (mv3 w (f_X10_restore w).2) := by
  rw [ca_restore]
  unfold f_X10_restore
  rcases R.2.2.2.1 with ⟨h1, h2⟩ | ⟨h1, h2, h3⟩
  · rw [if_pos h1, if_pos h2]
    exact ⟨rfl, rel_mono R (by omega)⟩
  · have n1 : ¬ v.2.2.2.2.2.2.1 = 0 := by rw [h1]; exact n10
    have n2 : ¬ w.2.2.2.2.2.1 = 0 := by rw [h2]; exact n10
    rw [if_neg n1, if_neg n2]
    unfold f_X10_restore_q11 f_X10_restore_16_x
    have hq : ∀ j, j < 108 → lp_X10_restore_16 w (f_X10_know w) w.1 108 j = w.2.2.2.2.1 j := fun j hj => by rw [restore_at, if_pos hj]
    generalize lp_X10_restore_16 w (f_X10_know w) w.1 108 = q at hq ⊢
    have h4 : RS N v.2.2.1 q := rs_agree h3 hq
    have o : OPR N v.1 (v.2.2.1.2.2.2.2.2.2.1, v.2.2.1) 0 (q 55, q) := by
      obtain ⟨dd, d1, d2, d3, _⟩ := h4.2.2.1
      refine Or.inr ⟨rfl, ?_, (rs_day h4).symm, rs_mono h4 (by omega)⟩
      show 0 ≤ q 55
      rw [d3]; exact nI_nn (by omega)
    have k := act_rel R o
    unfold actM at k
    rw [if_pos y_0] at k
    exact k
/-! what is told -/
theorem reel_m (R : REL N v w) (x y : Int32) : f_X9_reel v x y = f_X10_reel w.1 x y := reel_ask R.1 x y
theorem generator_m (R : REL N v w) (x y : Int32) : f_X9_generator v x y = f_X10_generator w.1 x y := gen_ask R.1 x y
theorem barn_m (R : REL N v w) (hN : N < 2 ^ 30) (x y : Int32) : f_X9_barn v x y = f_X10_barn w.1 x y := barn_ask R.1 hN x y
theorem bestBarn_m (R : REL N v w) (hN : N < 2 ^ 30) : f_X9_bestBarn v = f_X10_bestBarn w.1 := best_ask R.1 hN
theorem showOf_m (R : REL N v w) (x y : Int32) : f_X9_showOf v x y = f_X10_showOf w.1 x y := past_ask R.1 x y
theorem ifPrice_m (R : REL N v w) (x y : Int32) : f_X9_ifPrice v x y = f_X10_ifPrice w.1 x y := by
  unfold f_X9_ifPrice f_X10_ifPrice
  rw [barn_eq, price_eq]
  by_cases c : f_X10_isBarn x = 0
  · rw [if_pos c, if_pos c]
  · rw [if_neg c, if_neg c, price_ask R.1 c]
theorem count_m (R : REL N v w) (x : Int32) : f_X9_count v x = f_X10_count w x := by
  obtain ⟨k, p, h1, h2, h3, h4, h5, h6⟩ := R.2.1
  obtain ⟨L, hL, e1, e2, e3⟩ := R.2.2.1
  unfold f_X9_count
  by_cases c : x = 13
  · subst c; rw [if_pos rfl]; exact h3.trans h4.symm
  · rw [if_neg c]
    by_cases d : x = 14
    · subst d; rw [if_pos rfl]; exact e1.trans e2.symm
    · rw [if_neg d]; exact all_ask w R.1 x c d
end OO
