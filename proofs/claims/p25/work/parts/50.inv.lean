/-! what holds of every State that the class makes -/
theorem upd_s (f : Nat → Int32) (k : Nat) (x : Int32) : upd f k x k = x := by unfold upd; rw [if_pos rfl]
theorem upd_n {f : Nat → Int32} {k j : Nat} {x : Int32} (h : j ≠ k) : upd f k x j = f j := by unfold upd; rw [if_neg h]
theorem nI_clm {b : Nat} (h : b < 2 ^ 31) : (nI b).toNatClampNeg = b := clamp_of rfl h
theorem nI_nn {n : Nat} (h : n < 2 ^ 31) : 0 ≤ nI n := Int32.not_lt.mp (nI_pos h)
theorem rg_lh {x : Int32} (lo hi : Nat) {L H : Int32} (h1 : ¬ x < L) (h2 : ¬ H < x) (hL : L = nI lo) (hH : H = nI hi) (hl : lo < 2 ^ 31) (hm : hi + 1 < 2 ^ 31) : ∃ j, x = nI j ∧ lo ≤ j ∧ j ≤ hi := by
  subst hL hH
  have a1 := Int32.not_lt.mp h1
  have a2 := Int32.not_lt.mp h2
  have h0 : ¬ x < 0 := fun z => by
    have b1 := nI_nn hl
    rw [Int32.le_iff_toInt_le] at a1 b1
    rw [Int32.lt_iff_toInt_lt] at z
    omega
  obtain ⟨j, e, hj⟩ := rg_nat (N := nI (hi + 1)) (hi + 1) h0 (fun z => by
    have b : nI hi < nI (hi + 1) := (nlt_iff (nrf hi) (nrf (hi + 1)) (by omega) hm).mpr (by omega)
    rw [Int32.le_iff_toInt_le] at z a2
    rw [Int32.lt_iff_toInt_lt] at b
    omega) rfl hm
  exact ⟨j, e, (nle_iff (nrf lo) e hl (by omega)).mp a1, (nle_iff e (nrf hi) (by omega) (by omega)).mp a2⟩
theorem copy_eq (v v2 : SV) : f_X7_copyFrom v v2 = v2 := rfl
def PR (x : Int32) : Prop := x = -2 ∨ x = -1 ∨ ∃ b, b < 5 ∧ x = nI b
theorem pr_barn {b : Nat} (h : b < 5) : PR (nI b) := Or.inr (Or.inr ⟨b, h, rfl⟩)
theorem pr_van : PR (-1) := Or.inr (Or.inl rfl)
theorem pr_gone : PR (-2) := Or.inl rfl
theorem nb_gone {b : Nat} (h : b < 5) : ¬ nI b = -2 := by
  rcases (show b = 0 ∨ b = 1 ∨ b = 2 ∨ b = 3 ∨ b = 4 by omega) with rfl | rfl | rfl | rfl | rfl <;> decide
theorem nb_van {b : Nat} (h : b < 5) : ¬ nI b = -1 := by
  rcases (show b = 0 ∨ b = 1 ∨ b = 2 ∨ b = 3 ∨ b = 4 by omega) with rfl | rfl | rfl | rfl | rfl <;> decide
theorem nb_none {b : Nat} (h : b < 5) : ¬ nI b = -10000005 := by
  rcases (show b = 0 ∨ b = 1 ∨ b = 2 ∨ b = 3 ∨ b = 4 by omega) with rfl | rfl | rfl | rfl | rfl <;> decide
theorem nb_unk {b : Nat} (h : b < 5) : ¬ nI b = -10000001 := by
  rcases (show b = 0 ∨ b = 1 ∨ b = 2 ∨ b = 3 ∨ b = 4 by omega) with rfl | rfl | rfl | rfl | rfl <;> decide
theorem barn_of {b : Nat} (h : b < 5) : ¬ f_X9_isBarn (nI b) = 0 := by
  rcases (show b = 0 ∨ b = 1 ∨ b = 2 ∨ b = 3 ∨ b = 4 by omega) with rfl | rfl | rfl | rfl | rfl <;> decide
theorem gen_of {b : Nat} (h : b < 2) : ¬ f_X9_isGenerator (nI b) = 0 := by
  rcases (show b = 0 ∨ b = 1 by omega) with rfl | rfl <;> decide
theorem bit_b : ∀ b, b < 5 → ∀ p, p < 32 → (((nI p >>> (nI b &&& 31)) &&& 1 = 0) ↔ (nI p &&& (1 <<< (nI b &&& 31)) = 0)) := by decide +kernel
theorem bit_or : ∀ b, b < 5 → ∀ p, p < 32 → ∃ q, q < 32 ∧ nI p ||| (1 <<< (nI b &&& 31)) = nI q := by
  have h : ∀ b, b < 5 → ∀ p, p < 32 → (nI p ||| (1 <<< (nI b &&& 31))) = nI (p ||| 2 ^ b) := by decide +kernel
  intro b hb p hp
  refine ⟨p ||| 2 ^ b, ?_, h b hb p hp⟩
  have h2 : ∀ b, b < 5 → ∀ p, p < 32 → p ||| 2 ^ b < 32 := by decide +kernel
  exact h2 b hb p hp
/-- reels: place, wear, barns of old, minutes and splices -/
def RI (r : RV) : Prop := ∀ j, j < 10 → PR (r.1 j) ∧ (∃ w, w < 40 ∧ r.2.2.1 j = nI w) ∧ (∃ p, p < 32 ∧ r.2.2.2.2 j = nI p) ∧ ∃ m s, m + s = 8 + j ∧ r.2.1 j = nI m ∧ r.2.2.2.1 j = nI s ∧ (¬ r.1 j = -2 → 3 ≤ m)
/-- generators -/
def GI (g : GV) : Prop := ∀ j, j < 2 → PR (g.1 j) ∧ ∃ m, m ≤ 500 ∧ g.2 j = nI m
/-- barns: shows and the latest day -/
def BI (N dd : Nat) (b : BV) : Prop := ∀ x, x < 5 → ∃ c e, c ≤ N ∧ e ≤ dd ∧ b.2.1 x = nI c ∧ b.1 x = nI e
/-- the log: the latest T shows, at most 6; days fall -/
def LI (dd T : Nat) (l : LV) : Prop := l.2 = nI (min T 6) ∧ ∃ dy : Nat → Nat, (∀ i, i < min T 6 → l.1 (5 * i) = nI (dy i) ∧ dy i ≤ dd) ∧ ∀ i, i + 1 < min T 6 → dy (i + 1) ≤ dy i
/-- accounts: the sums over the barns -/
def AI (b : BV) (a : AV) : Prop := a.1 = 0 + b.2.2 0 + b.2.2 1 + b.2.2 2 + b.2.2 3 + b.2.2 4 ∧ a.2.2.2.2.1 = 0 + b.2.1 0 + b.2.1 1 + b.2.1 2 + b.2.1 3 + b.2.1 4
def SI (N : Nat) (v : SV) : Prop := RI v.1 ∧ GI v.2.1 ∧ (∃ dd T, dd ≤ 9999 ∧ T ≤ N ∧ v.2.2.2.2.2.2.1 = nI dd ∧ v.2.2.2.2.1.2.2.2.2.1 = nI T ∧ BI N dd v.2.2.1 ∧ LI dd T v.2.2.2.1) ∧ AI v.2.2.1 v.2.2.2.2.1 ∧ (∃ b, b < 5 ∧ v.2.2.2.2.2.1 = nI b) ∧ ∃ p, 1 ≤ p ∧ p ≤ 99 ∧ v.2.2.2.2.2.2.2 = nI p
theorem bi_mono {N M dd de : Nat} {b : BV} (h : BI N dd b) (hM : N ≤ M) (hd : dd ≤ de) : BI M de b := fun x hx => by
  obtain ⟨c, e, h1, h2, h3⟩ := h x hx
  exact ⟨c, e, Nat.le_trans h1 hM, Nat.le_trans h2 hd, h3⟩
theorem li_mono {dd de T : Nat} {l : LV} (h : LI dd T l) (hd : dd ≤ de) : LI de T l := by
  obtain ⟨h1, dy, h2, h3⟩ := h
  exact ⟨h1, dy, fun i hi => ⟨(h2 i hi).1, Nat.le_trans (h2 i hi).2 hd⟩, h3⟩
theorem si_mono {N M : Nat} {v : SV} (h : SI N v) (hM : N ≤ M) : SI M v := by
  obtain ⟨h1, h2, ⟨dd, T, a1, a2, a3, a4, a5, a6⟩, h4⟩ := h
  exact ⟨h1, h2, ⟨dd, T, a1, Nat.le_trans a2 hM, a3, a4, bi_mono a5 hM (Nat.le_refl _), a6⟩, h4⟩
theorem ri_wok {r : RV} (h : RI r) : WOK r := fun j hj => (h j hj).2.1
theorem ri_mok {r : RV} (h : RI r) : MOK r := fun j hj _ => by
  obtain ⟨_, _, _, m, s, e1, e2, _⟩ := h j hj
  exact ⟨m, by omega, e2⟩
theorem si_van {N : Nat} {v : SV} (h : SI N v) : vp_in v.2.2.2.2.2.1 5 := by
  obtain ⟨b, hb, e⟩ := h.2.2.2.2.1
  rw [e]; exact vp_in_nI hb (by decide)
theorem si_log {N : Nat} {v : SV} (h : SI N v) : v.2.2.2.1.2.toInt ≤ 6 := by
  obtain ⟨dd, T, _, _, _, _, _, a6, _⟩ := h.2.2.1
  rw [a6]
  have k := (nle_iff (nrf (min T 6)) (nlit 6) (by omega) (by omega)).mpr (by omega)
  rw [Int32.le_iff_toInt_le] at k
  exact k
/-! answers -/
abbrev ANS (r : Int32) : Prop := ¬ r < -10000014
theorem an0 : ANS 0 := by decide
theorem an1 : ANS (-10000001) := by decide
theorem an2 : ANS (-10000002) := by decide
theorem an3 : ANS (-10000003) := by decide
theorem an4 : ANS (-10000004) := by decide
theorem an5 : ANS (-10000005) := by decide
theorem ans_nn {r : Int32} (h : 0 ≤ r) : ANS r := fun z => by
  rw [Int32.le_iff_toInt_le] at h
  rw [Int32.lt_iff_toInt_lt] at z
  have e0 : (0 : Int32).toInt = 0 := by decide
  have e1 : (-10000014 : Int32).toInt = -10000014 := by decide
  omega
theorem ans_nI {n : Nat} (h : n < 2 ^ 31) : ANS (nI n) := ans_nn (nI_nn h)
/-- an act: its answer, and the State behind it -/
def STEP (N : Nat) (q : Int32 × SV) : Prop := ANS q.1 ∧ SI N q.2
theorem step_no {N : Nat} {v : SV} (h : SI N v) {r : Int32} (hr : ANS r) : STEP N (r, v) := ⟨hr, h⟩
/-! numbers that are counted over the reels -/
theorem num_sm (r : RV) (x : Int32) : ∃ n, n ≤ 10 ∧ f_X4_numberAt r x = nI n := by
  have key : ∀ k, k ≤ 10 → ∃ n, n ≤ k ∧ lp_X4_numberAt_4 r x 0 k = nI n := by
    intro k
    induction k with
    | zero => intro _; exact ⟨0, Nat.le_refl _, rfl⟩
    | succ k ih =>
      intro hk
      obtain ⟨n, hn, e⟩ := ih (by omega)
      rw [lp_X4_numberAt_4_s, e]
      unfold st_X4_numberAt_4
      split
      · exact ⟨n + 1, by omega, nadd rfl rfl⟩
      · exact ⟨n, by omega, rfl⟩
  exact key 10 (Nat.le_refl _)
theorem fresh_sm (r : RV) (x : Int32) : ∃ f n, f ≤ n ∧ n ≤ 10 ∧ f_X4_freshIn r x = nI f ∧ f_X4_numberAt r x = nI n := by
  have key : ∀ k, k ≤ 10 → ∃ f n, f ≤ n ∧ n ≤ k ∧ lp_X4_freshIn_4 r x 0 k = nI f ∧ lp_X4_numberAt_4 r x 0 k = nI n := by
    intro k
    induction k with
    | zero => intro _; exact ⟨0, 0, Nat.le_refl _, Nat.le_refl _, rfl, rfl⟩
    | succ k ih =>
      intro hk
      obtain ⟨f, n, hf, hn, e1, e2⟩ := ih (by omega)
      rw [lp_X4_freshIn_4_s, lp_X4_numberAt_4_s, e1, e2]
      unfold st_X4_freshIn_4 st_X4_numberAt_4
      by_cases c : r.1 k = x
      · rw [if_pos c, if_pos c]
        split
        · exact ⟨f + 1, n + 1, by omega, by omega, nadd rfl rfl, nadd rfl rfl⟩
        · exact ⟨f, n + 1, by omega, by omega, rfl, nadd rfl rfl⟩
      · rw [if_neg c, if_neg c]
        exact ⟨f, n, hf, by omega, rfl, rfl⟩
  exact key 10 (Nat.le_refl _)
theorem min_sm {r : RV} (h : RI r) (x : Int32) : ∃ n, n ≤ 170 ∧ f_X4_minutesIn r x = nI n := by
  have key : ∀ k, k ≤ 10 → ∃ n, n ≤ 17 * k ∧ lp_X4_minutesIn_4 r x 0 k = nI n := by
    intro k
    induction k with
    | zero => intro _; exact ⟨0, Nat.le_refl _, rfl⟩
    | succ k ih =>
      intro hk
      obtain ⟨n, hn, e⟩ := ih (by omega)
      rw [lp_X4_minutesIn_4_s, e]
      unfold st_X4_minutesIn_4
      obtain ⟨_, _, _, m, s, e1, e2, _⟩ := h k (by omega)
      rw [e2]
      split
      · exact ⟨n + m, by omega, nadd rfl rfl⟩
      · exact ⟨n, by omega, rfl⟩
  exact key 10 (Nat.le_refl _)
theorem wear_sm {r : RV} (h : RI r) (x : Int32) : ∃ n, n < 40 ∧ f_X4_mostWearIn r x = nI n := by
  have key : ∀ k, k ≤ 10 → ∃ n, n < 40 ∧ lp_X4_mostWearIn_4 r x 0 k = nI n := by
    intro k
    induction k with
    | zero => intro _; exact ⟨0, by omega, rfl⟩
    | succ k ih =>
      intro hk
      obtain ⟨n, hn, e⟩ := ih (by omega)
      obtain ⟨_, ⟨w, hw, ew⟩, _⟩ := h k (by omega)
      rw [lp_X4_mostWearIn_4_s, e]
      unfold st_X4_mostWearIn_4
      rw [ew]
      split
      · split
        · exact ⟨w, hw, rfl⟩
        · exact ⟨n, hn, rfl⟩
      · exact ⟨n, hn, rfl⟩
  exact key 10 (Nat.le_refl _)
theorem num2 (g : GV) (x : Int32) : f_X2_numberAt g x = (if g.1 1 = x then (if g.1 0 = x then 0 + 1 else 0) + 1 else (if g.1 0 = x then 0 + 1 else 0)) := rfl
theorem num2_sm (g : GV) (x : Int32) : ∃ n, n ≤ 2 ∧ f_X2_numberAt g x = nI n := by
  rw [num2]
  split <;> split
  · exact ⟨2, by omega, rfl⟩
  · exact ⟨1, by omega, rfl⟩
  · exact ⟨1, by omega, rfl⟩
  · exact ⟨0, by omega, rfl⟩
theorem seat_sm : ∀ b, b < 5 → ∃ n, n ≤ 80 ∧ SEATSF b = nI n := by
  intro b hb
  rcases (show b = 0 ∨ b = 1 ∨ b = 2 ∨ b = 3 ∨ b = 4 by omega) with rfl | rfl | rfl | rfl | rfl
  · exact ⟨40, by omega, by decide⟩
  · exact ⟨60, by omega, by decide⟩
  · exact ⟨80, by omega, by decide⟩
  · exact ⟨50, by omega, by decide⟩
  · exact ⟨30, by omega, by decide⟩
/-- the people of a show: no more than the seats -/
theorem people_sm {v : SV} (h : RI v.1) {b : Nat} (hb : b < 5) : ∃ n s, n ≤ s ∧ s ≤ 80 ∧ SEATSF b = nI s ∧ f_X7_peopleIn v (nI b) b = nI n := by
  obtain ⟨f, n0, h1, h0, e1, e0⟩ := fresh_sm v.1 (nI b)
  obtain ⟨n2, h2, e2⟩ := wear_sm h (nI b)
  obtain ⟨n3, h3, e3⟩ := seat_sm b hb
  unfold f_X7_peopleIn
  rw [e0, e1, e2, e3]
  by_cases c : nI n0 = 0
  · rw [if_pos c]; exact ⟨0, n3, by omega, h3, rfl, rfl⟩
  · rw [if_neg c]
    have c0 : 0 < n0 := by
      rcases Nat.eq_zero_or_pos n0 with z | z
      · rw [z] at c; exact absurd rfl c
      · exact z
    have b1 : n3 * f ≤ 800 := Nat.mul_le_mul h3 (Nat.le_trans h1 h0)
    have q1 : nI n3 * nI f / nI n0 = nI (n3 * f / n0) := ndiv (nmul rfl rfl) rfl (by omega) c0 (by omega)
    have q2 : nI n2 / 10 = nI (n2 / 10) := ndiv rfl (nlit 10) (by omega) (by omega) (by omega)
    have b2 : n3 * f / n0 ≤ n3 := Nat.div_le_of_le_mul (by rw [Nat.mul_comm n0 n3]; exact Nat.mul_le_mul_left n3 h1)
    rw [q1, q2]
    generalize n3 * f / n0 = A at b2 ⊢
    by_cases d : n2 / 10 ≤ A
    · rw [nsub rfl rfl d, if_neg (nI_pos (by omega))]
      exact ⟨A - n2 / 10, n3, by omega, h3, rfl, rfl⟩
    · have q3 : nI A - nI (n2 / 10) < 0 := by
        have hB : n2 / 10 < 4 := by omega
        generalize n2 / 10 = B at d hB
        have : A < 4 := by omega
        rcases (show A = 0 ∨ A = 1 ∨ A = 2 by omega) with rfl | rfl | rfl <;> rcases (show B = 0 ∨ B = 1 ∨ B = 2 ∨ B = 3 by omega) with rfl | rfl | rfl | rfl <;> first | omega | decide
      rw [if_pos q3]; exact ⟨0, n3, by omega, h3, rfl, rfl⟩
