/-! the class against the reference: history, snapshot, text, stops -/
theorem copy_eq (v v2 : SV) : f_X7_copyFrom v v2 = v2 := rfl
def hst (h : HV) (i : Nat) : SV := if i = 0 then h.1.1 else if i = 1 then h.1.2.1 else if i = 2 then h.1.2.2.1 else h.1.2.2.2
theorem know50_at (v : MV) (i0 : Nat → Int32) (m : Nat) (hm : 108 * v.2.2.2.1.toNatClampNeg = m) : ∀ k a, lp_X10_know_50 v i0 k a = if m ≤ a ∧ a < m + k then v.1 (a - m) else i0 a := by
  intro k
  induction k with
  | zero => intro a; rw [if_neg (by omega)]; rfl
  | succ k ih =>
    intro a
    rw [lp_X10_know_50_s]
    unfold st_X10_know_50
    rw [hm]
    by_cases c : a = m + k
    · rw [c, upd_s, if_pos ⟨by omega, by omega⟩, Nat.add_sub_cancel_left]
    · rw [upd_n c, ih a]
      by_cases d : m ≤ a ∧ a < m + k
      · rw [if_pos d, if_pos ⟨by omega, by omega⟩]
      · rw [if_neg d, if_neg (by omega)]
theorem know50b_at (v : MV) (q i0 : Nat → Int32) (m : Nat) (hm : 108 * (v.2.2.2.1.toNatClampNeg - 1) = m) : ∀ k a, lp_X10_know_50b v q i0 k a = if m ≤ a ∧ a < m + k then v.1 (a - m) else i0 a := by
  intro k
  induction k with
  | zero => intro a; rw [if_neg (by omega)]; rfl
  | succ k ih =>
    intro a
    rw [lp_X10_know_50b_s]
    unfold st_X10_know_50b
    rw [hm]
    by_cases c : a = m + k
    · rw [c, upd_s, if_pos ⟨by omega, by omega⟩, Nat.add_sub_cancel_left]
    · rw [upd_n c, ih a]
      by_cases d : m ≤ a ∧ a < m + k
      · rw [if_pos d, if_pos ⟨by omega, by omega⟩]
      · rw [if_neg d, if_neg (by omega)]
theorem know10_at (v : MV) (i0 : Nat → Int32) : ∀ k a, lp_X10_know_10 v i0 k a = if a < k then i0 (108 + a) else i0 a := by
  intro k
  induction k with
  | zero => intro a; rw [if_neg (by omega)]; rfl
  | succ k ih =>
    intro a
    rw [lp_X10_know_10_s]
    unfold st_X10_know_10
    by_cases c : a = k
    · rw [c, upd_s, ih (108 + k), if_neg (by omega), if_pos (by omega)]
    · rw [upd_n c, ih a]
      by_cases d : a < k
      · rw [if_pos d, if_pos (by omega)]
      · rw [if_neg d, if_neg (by omega)]
/-- what the reference knows behind an act -/
theorem know_at {w : MV} {k : Nat} (hk : w.2.2.2.1 = nI k) (h4 : k ≤ 4) : ∃ m d, m + d = k ∧ m < 4 ∧ (d = 0 ∨ m = 3) ∧ (f_X10_know w).2 = nI (m + 1) ∧ (∀ i, i < m → ∀ j, j < 108 → (f_X10_know w).1 (108 * i + j) = w.2.2.1 (108 * (i + d) + j)) ∧ ∀ j, j < 108 → (f_X10_know w).1 (108 * m + j) = w.1 j := by
  have ec : w.2.2.2.1.toNatClampNeg = k := by rw [hk]; exact nI_clm (by omega)
  unfold f_X10_know
  by_cases c : k = 4
  · subst c
    rw [if_pos (show w.2.2.2.1 = 4 from hk)]
    refine ⟨3, 1, rfl, by omega, Or.inr rfl, ?_, ?_, ?_⟩
    · unfold f_X10_know_10_x f_X10_know_50b_x; show w.2.2.2.1 - 1 + 1 = nI 4; rw [hk]; rfl
    · intro i hi j hj
      unfold f_X10_know_10_x f_X10_know_50b_x
      show lp_X10_know_50b w _ _ 108 (108 * i + j) = _
      rw [know50b_at w _ _ 324 (by rw [ec]), if_neg (by omega), know10_at, if_pos (by omega), show 108 + (108 * i + j) = 108 * (i + 1) + j by omega]
    · intro j hj
      unfold f_X10_know_10_x f_X10_know_50b_x
      show lp_X10_know_50b w _ _ 108 (108 * 3 + j) = _
      rw [know50b_at w _ _ 324 (by rw [ec]), if_pos ⟨by omega, by omega⟩, show 108 * 3 + j - 324 = j by omega]
  · have n4 : ¬ w.2.2.2.1 = 4 := by
      rw [hk]; intro e
      have := (neq_iff (nrf k) (nlit 4) (by omega) (by omega)).mp e
      exact c this
    rw [if_neg n4]
    refine ⟨k, 0, rfl, by omega, Or.inl rfl, ?_, ?_, ?_⟩
    · unfold f_X10_know_50_x; show w.2.2.2.1 + 1 = nI (k + 1); exact nadd hk (nlit 1)
    · intro i hi j hj
      unfold f_X10_know_50_x
      show lp_X10_know_50 w _ 108 (108 * i + j) = _
      rw [know50_at w _ (108 * k) (by rw [ec]), if_neg (by omega)]
      congr 1
    · intro j hj
      unfold f_X10_know_50_x
      show lp_X10_know_50 w _ 108 (108 * k + j) = _
      rw [know50_at w _ (108 * k) (by rw [ec]), if_pos ⟨by omega, by omega⟩, Nat.add_sub_cancel_left]
def HR (N : Nat) (h : HV) (bf : Nat → Int32) (kn : Int32) : Prop := ∃ k p, k ≤ 4 ∧ p < 4 ∧ h.2.2 = nI k ∧ kn = nI k ∧ h.2.1 = nI p ∧ ∀ i, i < k → RS N (hst h ((p + 4 - k + i) % 4)) (fun j => bf (108 * i + j))
theorem hr_mono {N M : Nat} {h : HV} {bf : Nat → Int32} {kn : Int32} (r : HR N h bf kn) (hM : N ≤ M) : HR M h bf kn := by
  obtain ⟨k, p, h1, h2, h3, h4, h5, h6⟩ := r
  exact ⟨k, p, h1, h2, h3, h4, h5, fun i hi => rs_mono (h6 i hi) hM⟩
theorem hst_add (h : HV) (v : SV) {p : Nat} (hp : p < 4) (e : h.2.1 = nI p) : (∀ i, i < 4 → hst (f_X3_add h v) i = if i = p then v else hst h i) ∧ (f_X3_add h v).2.1 = nI ((p + 1) % 4) ∧ (f_X3_add h v).2.2 = (if 4 < h.2.2 + 1 then 4 else h.2.2 + 1) := by
  have e2 : (h.2.1 + 1) - (h.2.1 + 1) / 4 * 4 = nI ((p + 1) % 4) := nrem (nadd e (nlit 1)) (nlit 4) (by omega) (by decide) (by decide)
  unfold f_X3_add
  rcases (show p = 0 ∨ p = 1 ∨ p = 2 ∨ p = 3 by omega) with rfl | rfl | rfl | rfl
  · rw [if_pos (show h.2.1 = 0 from e)]
    refine ⟨fun i hi => ?_, e2, rfl⟩
    rcases (show i = 0 ∨ i = 1 ∨ i = 2 ∨ i = 3 by omega) with rfl | rfl | rfl | rfl <;> rfl
  · rw [if_neg (show ¬ h.2.1 = 0 by rw [e]; decide), if_pos (show h.2.1 = 1 from e)]
    refine ⟨fun i hi => ?_, e2, rfl⟩
    rcases (show i = 0 ∨ i = 1 ∨ i = 2 ∨ i = 3 by omega) with rfl | rfl | rfl | rfl <;> rfl
  · rw [if_neg (show ¬ h.2.1 = 0 by rw [e]; decide), if_neg (show ¬ h.2.1 = 1 by rw [e]; decide), if_pos (show h.2.1 = 2 from e)]
    refine ⟨fun i hi => ?_, e2, rfl⟩
    rcases (show i = 0 ∨ i = 1 ∨ i = 2 ∨ i = 3 by omega) with rfl | rfl | rfl | rfl <;> rfl
  · rw [if_neg (show ¬ h.2.1 = 0 by rw [e]; decide), if_neg (show ¬ h.2.1 = 1 by rw [e]; decide), if_neg (show ¬ h.2.1 = 2 by rw [e]; decide)]
    refine ⟨fun i hi => ?_, e2, rfl⟩
    rcases (show i = 0 ∨ i = 1 ∨ i = 2 ∨ i = 3 by omega) with rfl | rfl | rfl | rfl <;> rfl
theorem hist_add {N : Nat} {h : HV} {w : MV} {v : SV} (hr : HR N h w.2.2.1 w.2.2.2.1) (hs : RS N v w.1) : HR N (f_X3_add h v) (f_X10_know w).1 (f_X10_know w).2 := by
  obtain ⟨k, p, h1, h2, h3, h4, h5, h6⟩ := hr
  obtain ⟨m, d, e1, e2, e3, e4, e5, e6⟩ := know_at h4 h1
  obtain ⟨a1, a2, a3⟩ := hst_add h v h2 h5
  refine ⟨m + 1, (p + 1) % 4, by omega, by omega, ?_, e4, a2, fun i hi => ?_⟩
  · rw [a3]
    have q : h.2.2 + 1 = nI (k + 1) := nadd h3 (nlit 1)
    rw [q]
    have q2 : 4 < nI (k + 1) ↔ 4 < (k + 1) := nlt_iff (nlit 4) (nrf (k + 1)) (by omega) (by omega)
    by_cases c : 4 < k + 1
    · rw [if_pos (q2.mpr c), show m + 1 = 4 by omega]; rfl
    · rw [if_neg (fun z => c (q2.mp z)), show m + 1 = k + 1 by omega]
  · rw [a1 _ (by omega)]
    by_cases c : i = m
    · rw [if_pos (by omega), c]
      exact rs_agree hs (fun j hj => e6 j hj)
    · rw [if_neg (by omega)]
      have q := h6 (i + d) (by omega)
      rw [show (p + 4 - k + (i + d)) % 4 = ((p + 1) % 4 + 4 - (m + 1) + i) % 4 by omega] at q
      exact rs_agree q (fun j hj => e5 i (by omega) j hj)
theorem undo_at (v : MV) (i0 : Nat → Int32) (m : Nat) (hm : 108 * (v.2.2.2.1.toNatClampNeg - 1) = m) : ∀ k a, lp_X10_undo_22 v i0 k a = if a < k then v.2.2.1 (m + a) else i0 a := by
  intro k
  induction k with
  | zero => intro a; rw [if_neg (by omega)]; rfl
  | succ k ih =>
    intro a
    rw [lp_X10_undo_22_s]
    unfold st_X10_undo_22
    rw [hm]
    by_cases c : a = k
    · rw [c, upd_s, if_pos (by omega)]
    · rw [upd_n c, ih a]
      by_cases d : a < k
      · rw [if_pos d, if_pos (by omega)]
      · rw [if_neg d, if_neg (by omega)]
theorem keep_at (v : MV) (i0 : Nat → Int32) : ∀ k a, lp_X10_keep_2 v i0 k a = if a < k then v.1 a else i0 a := by
  intro k
  induction k with
  | zero => intro a; rw [if_neg (by omega)]; rfl
  | succ k ih =>
    intro a
    rw [lp_X10_keep_2_s]
    unfold st_X10_keep_2
    by_cases c : a = k
    · rw [c, upd_s, if_pos (by omega)]
    · rw [upd_n c, ih a]
      by_cases d : a < k
      · rw [if_pos d, if_pos (by omega)]
      · rw [if_neg d, if_neg (by omega)]
theorem restore_at (v : MV) (q : (Nat → Int32) × Int32) (i0 : Nat → Int32) : ∀ k a, lp_X10_restore_16 v q i0 k a = if a < k then v.2.2.2.2.1 a else i0 a := by
  intro k
  induction k with
  | zero => intro a; rw [if_neg (by omega)]; rfl
  | succ k ih =>
    intro a
    rw [lp_X10_restore_16_s]
    unfold st_X10_restore_16
    by_cases c : a = k
    · rw [c, upd_s, if_pos (by omega)]
    · rw [upd_n c, ih a]
      by_cases d : a < k
      · rw [if_pos d, if_pos (by omega)]
      · rw [if_neg d, if_neg (by omega)]
theorem take_at (h : HV) (v : SV) {p k : Nat} (hp : p < 4) (e : h.2.1 = nI p) (hk : 0 < k) (h4 : k ≤ 4) (ek : h.2.2 = nI k) : f_X3_takeLatestInto h v = (1, (h.1, nI ((p + 3) % 4), nI (k - 1)), hst h ((p + 3) % 4)) := by
  have e2 : ((h.2.1 + 4) - 1) - ((h.2.1 + 4) - 1) / 4 * 4 = nI ((p + 3) % 4) := nrem (show (h.2.1 + 4) - 1 = nI (p + 3) from nsub (nadd e (nlit 4)) (nlit 1) (by omega)) (nlit 4) (by omega) (by decide) (by decide)
  have e3 : h.2.2 - 1 = nI (k - 1) := nsub ek (nlit 1) (by omega)
  have n0 : ¬ h.2.2 = 0 := by
    rw [ek]; intro z
    have := (neq_iff (nrf k) (nlit 0) (by omega) (by omega)).mp z
    omega
  unfold f_X3_takeLatestInto f_X3_takeLatestInto_q43 f_X3_takeLatestInto_q43_1 f_X3_takeLatestInto_q43_2 f_X3_takeLatestInto_q43_3
  rw [if_neg n0, e2, e3]
  simp only [copy_eq]
  rcases (show p = 0 ∨ p = 1 ∨ p = 2 ∨ p = 3 by omega) with rfl | rfl | rfl | rfl <;> rfl
/-! text, snapshot, stops -/
def TX (v : TV) (tx : Nat → Int32) (ty : Int32) : Prop := ∃ L, L ≤ 80 ∧ v.2 = nI L ∧ ty = nI L ∧ ∀ j, j < L → v.1 j = tx j
def KP (N : Nat) (v : SV) (a : Int32) (s : Nat → Int32) (b : Int32) : Prop := (a = 0 ∧ b = 0) ∨ (a = 1 ∧ b = 1 ∧ RS N v s)
def SP (q : Int32 × Int32 × Int32) (x y : Int32) : Prop := (q.1 = 0 ∧ x = -10000005 ∧ y = -10000005) ∨ (q.1 = 1 ∧ x = q.2.1 ∧ y = q.2.2)
def REL (N : Nat) (v : PV) (w : MV) : Prop := RS N v.1 w.1 ∧ HR N v.2.2.2.1 w.2.2.1 w.2.2.2.1 ∧ TX v.2.2.2.2.1 w.2.2.2.2.2.2.1 w.2.2.2.2.2.2.2.1 ∧ KP N v.2.2.1 v.2.2.2.2.2.2.1 w.2.2.2.2.1 w.2.2.2.2.2.1 ∧ SP v.2.2.2.2.2.2.2 w.2.2.2.2.2.2.2.2.1 w.2.2.2.2.2.2.2.2.2.1
theorem kp_mono {N M : Nat} {v : SV} {a : Int32} {s : Nat → Int32} {b : Int32} (r : KP N v a s b) (hM : N ≤ M) : KP M v a s b := by
  rcases r with r | ⟨h1, h2, h3⟩
  · exact Or.inl r
  · exact Or.inr ⟨h1, h2, rs_mono h3 hM⟩
theorem rel_mono {N M : Nat} {v : PV} {w : MV} (r : REL N v w) (hM : N ≤ M) : REL M v w := ⟨rs_mono r.1 hM, hr_mono r.2.1 hM, r.2.2.1, kp_mono r.2.2.2.1 hM, r.2.2.2.2⟩
/-- an act of the class, recorded; the same of the reference -/
def actC (v : PV) (q : Int32 × SV) : Int32 × PV := (q.1, (q.2, v.1, v.2.2.1, (if q.1 < 0 then v.2.2.2.1 else f_X3_add v.2.2.2.1 v.1), v.2.2.2.2))
def actM (w : MV) (f : Int32) (d : Int32 × (Nat → Int32)) : Int32 × (Nat → Int32) × (Nat → Int32) × Int32 := if 0 ≤ f then (d.1, (d.2, (f_X10_know w).1, (f_X10_know w).2)) else (f, (w.1, w.2.2.1, w.2.2.2.1))
def mv3 (w : MV) (u : (Nat → Int32) × (Nat → Int32) × Int32) : MV := (u.1, w.2.1, u.2.1, u.2.2, w.2.2.2.2)
theorem act_rel {N : Nat} {v : PV} {w : MV} (R : REL N v w) {q : Int32 × SV} {f : Int32} {d : Int32 × (Nat → Int32)} (o : OPR N v.1 q f d) : (actC v q).1 = (actM w f d).1 ∧ REL (N + 1) (actC v q).2 (mv3 w (actM w f d).2) := by
  obtain ⟨r1, r2, r3, r4, r5⟩ := R
  unfold actC actM mv3
  rcases o with ⟨o1, o2, o3⟩ | ⟨o1, o2, o3, o4⟩
  · rw [if_neg o1, if_pos (show q.1 < 0 by rw [o2]; exact Int32.not_le.mp o1)]
    refine ⟨o2, ?_, hr_mono r2 (by omega), r3, kp_mono r4 (by omega), r5⟩
    show RS (N + 1) q.2 w.1
    rw [o3]
    exact rs_mono r1 (by omega)
  · rw [if_pos (show 0 ≤ f by rw [o1]; decide), if_neg (show ¬ q.1 < 0 by rw [o3]; exact Int32.not_lt.mpr o2)]
    exact ⟨o3, o4, hr_mono (hist_add r2 r1) (by omega), r3, kp_mono r4 (by omega), r5⟩
