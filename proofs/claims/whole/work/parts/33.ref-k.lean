theorem n10 : ¬ (1 : Int32) = 0 := by decide
theorem n0_118 : ¬ (0 : Int32) = 118 := by decide
theorem n0_103 : ¬ (0 : Int32) = 103 := by decide
theorem sign_w {tx : Nat → Int32} {ty a w x y : Int32} (h : (f_X10_sign tx ty a w x y).2.2 = 0) : w = 0 ∧ ¬ f_X10_in (f_X10_sign tx ty a w x y).1 x y = 0 := by
  revert h
  unfold f_X10_sign
  by_cases c1 : ty ≤ a
  · rw [if_pos c1]
    by_cases c2 : w = 0
    · rw [if_pos c2]
      by_cases c3 : f_X10_in 0 x y = 0
      · rw [if_pos c3]; intro h; exact absurd h n10
      · rw [if_neg c3]; intro _; exact ⟨c2, c3⟩
    · rw [if_neg c2]; intro h; exact absurd h n10
  · rw [if_neg c1]
    by_cases c2 : w = 0
    · rw [if_pos c2]
      by_cases c3 : f_X10_in (tx a.toNatClampNeg) x y = 0
      · rw [if_pos c3]; intro h; exact absurd h n10
      · rw [if_neg c3]; intro _; exact ⟨c2, c3⟩
    · rw [if_neg c2]; intro h; exact absurd h n10
theorem in_sub {c N : Int32} (m : Nat) (h : ¬ f_X10_in c 48 N = 0) (hN : N = nI (48 + m)) (hm : m < 100) : ∃ n, n < m + 1 ∧ c - 48 = nI n := by
  unfold f_X10_in at h
  by_cases h1 : c < 48
  · rw [if_pos h1] at h; exact absurd rfl h
  · by_cases h2 : N < c
    · rw [if_neg h1, if_pos h2] at h; exact absurd rfl h
    · subst hN
      have h3 := Int32.not_lt.mp h1
      have h4 := Int32.not_lt.mp h2
      rw [Int32.le_iff_toInt_le] at h3 h4
      rw [nI_toInt (by omega)] at h4
      have e48 : (48 : Int32).toInt = 48 := by decide
      rw [e48] at h3
      have h5 : ¬ c < 0 := by
        intro h6; rw [Int32.lt_iff_toInt_lt] at h6
        have e0 : (0 : Int32).toInt = 0 := by decide
        omega
      obtain ⟨j, hj, rfl⟩ := nI_of h5
      rw [nI_toInt hj] at h3 h4
      exact ⟨j - 48, by omega, nsub (nrf j) (nlit 48) (by omega)⟩
theorem read_ok {tx : Nat → Int32} {ty ap iw : Int32} (h : (f_X10_read tx ty ap iw).2.1 = 0) : ONEOK (f_X10_read tx ty ap iw).2.2.1 (f_X10_read tx ty ap iw).2.2.2.1 := by
  revert h
  unfold f_X10_read
  by_cases c1 : ty ≤ ap
  · rw [if_pos c1]
    by_cases c2 : iw = 0
    · rw [if_pos c2]; intro _; exact ⟨fun h => absurd h n0_118, fun h => absurd h n0_103⟩
    · rw [if_neg c2]; intro _; exact ⟨fun h => absurd h n0_118, fun h => absurd h n0_103⟩
  · rw [if_neg c1]
    by_cases c2 : iw = 0
    · rw [if_pos c2]
      by_cases d1 : tx ap.toNatClampNeg = 118
      · rw [if_pos d1]; unfold f_X10_read_q159_8; intro h
        exact ⟨fun _ => in_sub 4 (sign_w h).2 rfl (by decide), fun h2 => absurd (d1.symm.trans h2) (by decide)⟩
      rw [if_neg d1]
      by_cases d2 : tx ap.toNatClampNeg = 43
      · rw [if_pos d2]; intro _; exact ⟨fun h2 => absurd (d2.symm.trans h2) (by decide), fun h2 => absurd (d2.symm.trans h2) (by decide)⟩
      rw [if_neg d2]
      by_cases d3 : tx ap.toNatClampNeg = 45
      · rw [if_pos d3]; intro _; exact ⟨fun h2 => absurd (d3.symm.trans h2) (by decide), fun h2 => absurd (d3.symm.trans h2) (by decide)⟩
      rw [if_neg d3]
      by_cases d4 : tx ap.toNatClampNeg = 103
      · rw [if_pos d4]; unfold f_X10_read_q159_11; intro h
        exact ⟨fun h2 => absurd (d4.symm.trans h2) (by decide), fun _ => in_sub 1 (sign_w h).2 rfl (by decide)⟩
      rw [if_neg d4]
      by_cases d5 : tx ap.toNatClampNeg = 102
      · rw [if_pos d5]; unfold f_X10_read_q159_12 f_X10_read_q179_13 f_X10_read_q195_14; intro _; exact ⟨fun h2 => absurd (d5.symm.trans h2) (by decide), fun h2 => absurd (d5.symm.trans h2) (by decide)⟩
      rw [if_neg d5]
      by_cases d6 : tx ap.toNatClampNeg = 115
      · rw [if_pos d6]; intro _; exact ⟨fun h2 => absurd (d6.symm.trans h2) (by decide), fun h2 => absurd (d6.symm.trans h2) (by decide)⟩
      rw [if_neg d6]
      by_cases d7 : tx ap.toNatClampNeg = 100
      · rw [if_pos d7]; intro _; exact ⟨fun h2 => absurd (d7.symm.trans h2) (by decide), fun h2 => absurd (d7.symm.trans h2) (by decide)⟩
      rw [if_neg d7]; unfold f_X10_read_q159_15; intro _
      exact ⟨fun h2 => absurd h2 d1, fun h2 => absurd h2 d4⟩
    · rw [if_neg c2]
      by_cases d6 : tx ap.toNatClampNeg = 115
      · rw [if_pos d6]; intro h; exact absurd h n10
      rw [if_neg d6]
      by_cases d7 : tx ap.toNatClampNeg = 100
      · rw [if_pos d7]; intro h; exact absurd h n10
      rw [if_neg d7]
      by_cases d1 : tx ap.toNatClampNeg = 118
      · rw [if_pos d1]; unfold f_X10_read_q159_7; intro h; exact absurd (sign_w h).1 (by decide)
      rw [if_neg d1]
      by_cases d2 : tx ap.toNatClampNeg = 43
      · rw [if_pos d2]; unfold f_X10_read_q159_2; intro h; exact absurd (sign_w h).1 (by decide)
      rw [if_neg d2]
      by_cases d3 : tx ap.toNatClampNeg = 45
      · rw [if_pos d3]; unfold f_X10_read_q159_6; intro h; exact absurd (sign_w h).1 (by decide)
      rw [if_neg d3]; unfold f_X10_read_q159_3
      by_cases d5 : tx ap.toNatClampNeg = 102
      · rw [if_pos d5]; unfold f_X10_read_q179 f_X10_read_q195; intro _; exact ⟨fun h2 => absurd (d5.symm.trans h2) (by decide), fun h2 => absurd (d5.symm.trans h2) (by decide)⟩
      · rw [if_neg d5]; intro h; exact absurd (sign_w h).1 (by decide)
/-- from here on the text reads well -/
def pgo (tx : Nat → Int32) (ty : Int32) : Nat → Int32 → Int32 → Prop
  | 0, _, _ => False
  | n + 1, a, w => (f_X10_read tx ty a w).2.1 = 0 ∧ (ty ≤ (f_X10_read tx ty a w).1 ∨ ((f_X10_sign tx ty (f_X10_read tx ty a w).1 (f_X10_read tx ty a w).2.1 44 44).2.2 = 0 ∧ pgo tx ty n (f_X10_sign tx ty (f_X10_read tx ty a w).1 (f_X10_read tx ty a w).2.1 44 44).2.1 (f_X10_sign tx ty (f_X10_read tx ty a w).1 (f_X10_read tx ty a w).2.1 44 44).2.2))
def PG (tx : Nat → Int32) (ty a w : Int32) : Prop := ∃ n, pgo tx ty n a w
theorem pgo_s {tx : Nat → Int32} {ty a w : Int32} (h : PG tx ty a w) (R : Int32 × Int32 × Int32 × Int32 × Int32) (hR : R = f_X10_read tx ty a w) : R.2.1 = 0 ∧ (ty ≤ R.1 ∨ ∀ S : Int32 × Int32 × Int32, S = f_X10_sign tx ty R.1 R.2.1 44 44 → S.2.2 = 0 ∧ PG tx ty S.2.1 S.2.2) := by
  subst hR
  obtain ⟨n, h⟩ := h
  cases n with
  | zero => exact absurd h (by intro h; exact h)
  | succ n =>
    obtain ⟨h1, h2⟩ := h
    refine ⟨h1, ?_⟩
    rcases h2 with h2 | ⟨h2, h3⟩
    · exact Or.inl h2
    · exact Or.inr (fun S hS => by subst hS; exact ⟨h2, n, h3⟩)
theorem go0_end {tx : Nat → Int32} {ty le on tw : Int32} : ∀ (n : Nat) (m a w l o t : Int32), (wl_X10_go0_19 tx ty le on tw n (m, 0, a, w, l, o, t)).2.2.1 = 0 → w = 0 := by
  intro n m a w l o t h
  cases n with
  | zero => exact absurd h n10
  | succ n =>
    rw [wl_X10_go0_19_s, show st_X10_go0_19 tx ty le on tw (m, 0, a, w, l, o, t) = Sum.inr (m, (a, w, l, o, t, 0)) from by unfold st_X10_go0_19; rw [if_pos rfl]] at h
    exact h
theorem go0_pg {tx : Nat → Int32} {ty le on tw : Int32} : ∀ (n : Nat) (m a w l o t : Int32), (wl_X10_go0_19 tx ty le on tw n (m, 1, a, w, l, o, t)).2.2.1 = 0 → PG tx ty a w := by
  intro n
  induction n with
  | zero => intro m a w l o t h; exact absurd h n10
  | succ n ih =>
    intro m a w l o t h
    rw [wl_X10_go0_19_s] at h
    unfold st_X10_go0_19 at h
    rw [if_neg (show ¬ (1 : Int32) = 0 by decide)] at h
    obtain ⟨R, hR⟩ : ∃ R, R = f_X10_read tx ty a w := ⟨_, rfl⟩
    rw [show f_X10_read tx ty (m, (1 : Int32), a, w, l, o, t).2.2.1 (m, (1 : Int32), a, w, l, o, t).2.2.2.1 = R from hR.symm] at h
    unfold f_X10_go0_q24 at h
    by_cases c1 : R.2.1 = 0
    · rw [if_pos c1] at h
      by_cases c2 : ty ≤ R.1
      · exact ⟨1, by rw [← hR]; exact c1, by rw [← hR]; exact Or.inl c2⟩
      · rw [if_neg c2] at h
        obtain ⟨S, hS⟩ : ∃ S, S = f_X10_sign tx ty R.1 R.2.1 44 44 := ⟨_, rfl⟩
        rw [← hS] at h
        unfold f_X10_go0_q98 at h
        by_cases c3 : S.2.2 = 0
        · rw [if_pos c3] at h
          obtain ⟨k, hk⟩ := ih _ _ _ _ _ _ h
          exact ⟨k + 1, by rw [← hR]; exact c1, by rw [← hR, ← hS]; exact Or.inr ⟨c3, hk⟩⟩
        · rw [if_neg c3] at h
          exact absurd (go0_end _ _ _ _ _ _ _ h) c3
    · rw [if_neg c1] at h
      exact absurd (go0_end _ _ _ _ _ _ _ h) c1
theorem pgo_of {tx : Nat → Int32} {ty le on tw : Int32} {q : Int32 × Int32 × Int32 × Int32 × Int32 × Int32 × Int32} (hq : q = f_X10_go0 tx ty le on tw) (h : q.2.2.1 = 0) : PG tx ty 0 0 := by
  subst hq
  exact go0_pg 163 0 0 0 le on tw h
theorem iX10_go1_X10 : ∀ w ∈ wsX100, w ∈ wsX10_go := by decide +kernel
def f_X10_go1_q98 (s : (Nat → Int32)) (tx : (Nat → Int32)) (ty : Int32) (le : Int32) (on : Int32) (tw : Int32) (q19 : Int32 × Int32 × Int32 × Int32 × Int32 × Int32 × Int32 × Int32 × (Nat → Int32)) (q24 : Int32 × Int32 × Int32 × Int32 × Int32) (q33 : Int32 × (Nat → Int32)) (q98 : Int32 × Int32 × Int32) : (Int32 × Int32 × Int32 × Int32 × Int32 × Int32 × Int32 × Int32 × (Nat → Int32)) ⊕ (Int32 × (Nat → Int32) × Int32 × Int32 × Int32 × Int32 × Int32 × Int32) := if q98.2.2 = 0 then Sum.inl ((q19.1 + 1), 1, q98.2.1, q98.2.2, q24.2.2.1, q24.2.2.2.1, q24.2.2.2.2, q33.1, q33.2) else Sum.inl ((q19.1 + 1), 0, q98.2.1, q98.2.2, q24.2.2.1, q24.2.2.2.1, q24.2.2.2.2, q33.1, q33.2)
def f_X10_go1_q33 (s : (Nat → Int32)) (tx : (Nat → Int32)) (ty : Int32) (le : Int32) (on : Int32) (tw : Int32) (q19 : Int32 × Int32 × Int32 × Int32 × Int32 × Int32 × Int32 × Int32 × (Nat → Int32)) (q24 : Int32 × Int32 × Int32 × Int32 × Int32) (q33 : Int32 × (Nat → Int32)) : (Int32 × Int32 × Int32 × Int32 × Int32 × Int32 × Int32 × Int32 × (Nat → Int32)) ⊕ (Int32 × (Nat → Int32) × Int32 × Int32 × Int32 × Int32 × Int32 × Int32) := if q33.1 = 0 then if q24.2.1 = 0 then if ty ≤ q24.1 then Sum.inl ((q19.1 + 1), 0, q24.1, q24.2.1, q24.2.2.1, q24.2.2.2.1, q24.2.2.2.2, q33.1, q33.2) else f_X10_go1_q98 s tx ty le on tw q19 q24 q33 (f_X10_sign tx ty q24.1 q24.2.1 44 44) else Sum.inl ((q19.1 + 1), 0, q24.1, q24.2.1, q24.2.2.1, q24.2.2.2.1, q24.2.2.2.2, q33.1, q33.2) else if q24.2.1 = 0 then Sum.inl ((q19.1 + 0), 0, q24.1, q24.2.1, q24.2.2.1, q24.2.2.2.1, q24.2.2.2.2, q33.1, q33.2) else Sum.inl ((q19.1 + 0), 0, q24.1, q24.2.1, q24.2.2.1, q24.2.2.2.1, q24.2.2.2.2, q33.1, q33.2)
def f_X10_go1_q24 (s : (Nat → Int32)) (tx : (Nat → Int32)) (ty : Int32) (le : Int32) (on : Int32) (tw : Int32) (q19 : Int32 × Int32 × Int32 × Int32 × Int32 × Int32 × Int32 × Int32 × (Nat → Int32)) (q24 : Int32 × Int32 × Int32 × Int32 × Int32) : (Int32 × Int32 × Int32 × Int32 × Int32 × Int32 × Int32 × Int32 × (Nat → Int32)) ⊕ (Int32 × (Nat → Int32) × Int32 × Int32 × Int32 × Int32 × Int32 × Int32) := f_X10_go1_q33 s tx ty le on tw q19 q24 (f_X10_does q19.2.2.2.2.2.2.2.2 q24.2.2.1 q24.2.2.2.1 q24.2.2.2.2)
def st_X10_go1_19 (s : (Nat → Int32)) (tx : (Nat → Int32)) (ty : Int32) (le : Int32) (on : Int32) (tw : Int32) (q19 : Int32 × Int32 × Int32 × Int32 × Int32 × Int32 × Int32 × Int32 × (Nat → Int32)) : (Int32 × Int32 × Int32 × Int32 × Int32 × Int32 × Int32 × Int32 × (Nat → Int32)) ⊕ (Int32 × (Nat → Int32) × Int32 × Int32 × Int32 × Int32 × Int32 × Int32) := if q19.2.1 = 0 then Sum.inr (q19.1, (q19.2.2.2.2.2.2.2.2, q19.2.2.1, q19.2.2.2.1, q19.2.2.2.2.1, q19.2.2.2.2.2.1, q19.2.2.2.2.2.2.1, q19.2.2.2.2.2.2.2.1)) else f_X10_go1_q24 s tx ty le on tw q19 (f_X10_read tx ty q19.2.2.1 q19.2.2.2.1)
def wl_X10_go1_19 (s : (Nat → Int32)) (tx : (Nat → Int32)) (ty : Int32) (le : Int32) (on : Int32) (tw : Int32) : Nat → Int32 × Int32 × Int32 × Int32 × Int32 × Int32 × Int32 × Int32 × (Nat → Int32) → Int32 × (Nat → Int32) × Int32 × Int32 × Int32 × Int32 × Int32 × Int32
  | 0, q19 => (q19.1, q19.2.2.2.2.2.2.2.2, q19.2.2.1, 1, q19.2.2.2.2.1, q19.2.2.2.2.2.1, q19.2.2.2.2.2.2.1, q19.2.2.2.2.2.2.2.1)
  | n19 + 1, q19 => Sum.elim (fun q9 => wl_X10_go1_19 s tx ty le on tw n19 q9) id (st_X10_go1_19 s tx ty le on tw q19)
theorem wl_X10_go1_19_s (s : (Nat → Int32)) (tx : (Nat → Int32)) (ty : Int32) (le : Int32) (on : Int32) (tw : Int32) (n19 : Nat) (q19 : Int32 × Int32 × Int32 × Int32 × Int32 × Int32 × Int32 × Int32 × (Nat → Int32)) : wl_X10_go1_19 s tx ty le on tw (n19 + 1) q19 = Sum.elim (fun q9 => wl_X10_go1_19 s tx ty le on tw n19 q9) id (st_X10_go1_19 s tx ty le on tw q19) := rfl
def f_X10_go1 (s : (Nat → Int32)) (tx : (Nat → Int32)) (ty : Int32) (le : Int32) (on : Int32) (tw : Int32) : Int32 × (Nat → Int32) × Int32 × Int32 × Int32 × Int32 × Int32 × Int32 := wl_X10_go1_19 s tx ty le on tw 163 (0, 1, 0, 0, le, on, tw, 0, s)
set_option maxRecDepth 100000 in
set_option maxHeartbeats 1000000 in
theorem c_X10_go1 (l : Launch) (D : va_G) (z : ClassId × ClassId × ClassId) (h h1 h2 h3 h4 h5 : Nat) (v : MV) (hTy : v.2.2.2.2.2.2.2.1.toInt ≤ 80) (hSI : SI v.1) (hPG : PG v.2.2.2.2.2.2.1 v.2.2.2.2.2.2.2.1 0 0) (sz : Nat) : CI l yX10_go wsX10_go 5 119 0 0 [.ref h, .int 1] D z (wX10 z h h1 h2 h3 h4 h5 v) sz (E0) (fun (zr : Int32) (zu : (Nat → Int32) × Int32 × Int32 × Int32 × Int32 × Int32 × Int32) => (zr, zu) = f_X10_go1 v.1 v.2.2.2.2.2.2.1 v.2.2.2.2.2.2.2.1 v.2.2.2.2.2.2.2.2.2.2.2.2.1 v.2.2.2.2.2.2.2.2.2.2.2.2.2.1 v.2.2.2.2.2.2.2.2.2.2.2.2.2.2.1) (fun zu => wX10 z h h1 h2 h3 h4 h5 (zu.1, v.2.1, v.2.2.1, v.2.2.2.1, v.2.2.2.2.1, v.2.2.2.2.2.1, v.2.2.2.2.2.2.1, v.2.2.2.2.2.2.2.1, v.2.2.2.2.2.2.2.2.1, v.2.2.2.2.2.2.2.2.2.1, zu.2.1, zu.2.2.1, zu.2.2.2.1, zu.2.2.2.2.1, zu.2.2.2.2.2.1, zu.2.2.2.2.2.2)) := by
  refine met_i cX10_go 5 (some .int) (by decide) rfl (Nat.le_of_ble_eq_true rfl) ?_
  intro p e s m args below meth c R Q hx hb hr hml hts hown hlocks hin hRf hRl hRc hRs hc0 hs0 A H hA hP hK hD hS hE hQ ls hl
  have hl : lv_has ls 5 [(0, .ref h), (1, .int 1)] := hl
  have hP : va_P D vwCl [(h, .inr (10, [.ref h1, .ref h2, .ref h3, .int v.2.2.2.1, .ref h4, .int v.2.2.2.2.2.1, .ref h5, .int v.2.2.2.2.2.2.2.1, .int v.2.2.2.2.2.2.2.2.1, .int v.2.2.2.2.2.2.2.2.2.1, .int v.2.2.2.2.2.2.2.2.2.2.1, .int v.2.2.2.2.2.2.2.2.2.2.2.1, .int v.2.2.2.2.2.2.2.2.2.2.2.2.1, .int v.2.2.2.2.2.2.2.2.2.2.2.2.2.1, .int v.2.2.2.2.2.2.2.2.2.2.2.2.2.2.1, .int v.2.2.2.2.2.2.2.2.2.2.2.2.2.2.2])), (h1, .inl (z.1, 108, .inl v.1)), (h2, .inl (z.1, 108, .inl v.2.1)), (h3, .inl (z.1, 432, .inl v.2.2.1)), (h4, .inl (z.1, 108, .inl v.2.2.2.2.1)), (h5, .inl (z.1, 80, .inl v.2.2.2.2.2.2.1))] H := hP
  have hD : va_D A [(h, .inr (10, [.ref h1, .ref h2, .ref h3, .int v.2.2.2.1, .ref h4, .int v.2.2.2.2.2.1, .ref h5, .int v.2.2.2.2.2.2.2.1, .int v.2.2.2.2.2.2.2.2.1, .int v.2.2.2.2.2.2.2.2.2.1, .int v.2.2.2.2.2.2.2.2.2.2.1, .int v.2.2.2.2.2.2.2.2.2.2.2.1, .int v.2.2.2.2.2.2.2.2.2.2.2.2.1, .int v.2.2.2.2.2.2.2.2.2.2.2.2.2.1, .int v.2.2.2.2.2.2.2.2.2.2.2.2.2.2.1, .int v.2.2.2.2.2.2.2.2.2.2.2.2.2.2.2])), (h1, .inl (z.1, 108, .inl v.1)), (h2, .inl (z.1, 108, .inl v.2.1)), (h3, .inl (z.1, 432, .inl v.2.2.1)), (h4, .inl (z.1, 108, .inl v.2.2.2.2.1)), (h5, .inl (z.1, 80, .inl v.2.2.2.2.2.2.1))] := hD
  have hown : s.vm.findClass RX10 = some m.cls := hown
  refine lv_aload_n hx hb dX10_go_0 rfl (lv_at hl 0 rfl) ?_
  refine lv_iconst (v := 0) hx hb dX10_go_1 (by decide) ?_
  refine va_put (D := D) (ci := 10) (v := .int 0) (ty := .int) (C := RX10) (T := TX10) (N := 16) hx hb hts iX10_go1_X10 tyX10 tyX10_ok nmX10 hown hK hP hD hS 0 rfl rfl 10 (by decide) (hts (.fieldLink RX10 125 "BarnPicturesModel" "at" "I") (by decide +kernel)) (fun _ h9 => h9) rfl (by decide +kernel) rfl rfl (Nat.le_of_ble_eq_true rfl) dX10_go_2 (fun H locs hP hD hS => ?_)
  have hP : va_P D vwCl [(h, .inr (10, [.ref h1, .ref h2, .ref h3, .int v.2.2.2.1, .ref h4, .int v.2.2.2.2.2.1, .ref h5, .int v.2.2.2.2.2.2.2.1, .int v.2.2.2.2.2.2.2.2.1, .int v.2.2.2.2.2.2.2.2.2.1, .int 0, .int v.2.2.2.2.2.2.2.2.2.2.2.1, .int v.2.2.2.2.2.2.2.2.2.2.2.2.1, .int v.2.2.2.2.2.2.2.2.2.2.2.2.2.1, .int v.2.2.2.2.2.2.2.2.2.2.2.2.2.2.1, .int v.2.2.2.2.2.2.2.2.2.2.2.2.2.2.2])), (h1, .inl (z.1, 108, .inl v.1)), (h2, .inl (z.1, 108, .inl v.2.1)), (h3, .inl (z.1, 432, .inl v.2.2.1)), (h4, .inl (z.1, 108, .inl v.2.2.2.2.1)), (h5, .inl (z.1, 80, .inl v.2.2.2.2.2.2.1))] H := hP
  have hD : va_D A [(h, .inr (10, [.ref h1, .ref h2, .ref h3, .int v.2.2.2.1, .ref h4, .int v.2.2.2.2.2.1, .ref h5, .int v.2.2.2.2.2.2.2.1, .int v.2.2.2.2.2.2.2.2.1, .int v.2.2.2.2.2.2.2.2.2.1, .int 0, .int v.2.2.2.2.2.2.2.2.2.2.2.1, .int v.2.2.2.2.2.2.2.2.2.2.2.2.1, .int v.2.2.2.2.2.2.2.2.2.2.2.2.2.1, .int v.2.2.2.2.2.2.2.2.2.2.2.2.2.2.1, .int v.2.2.2.2.2.2.2.2.2.2.2.2.2.2.2])), (h1, .inl (z.1, 108, .inl v.1)), (h2, .inl (z.1, 108, .inl v.2.1)), (h3, .inl (z.1, 432, .inl v.2.2.1)), (h4, .inl (z.1, 108, .inl v.2.2.2.2.1)), (h5, .inl (z.1, 80, .inl v.2.2.2.2.2.2.1))] := hD
  refine lv_aload_n hx hb dX10_go_5 rfl (lv_at hl 0 rfl) ?_
  refine lv_iconst (v := 0) hx hb dX10_go_6 (by decide) ?_
  refine va_put (D := D) (ci := 10) (v := .int 0) (ty := .boolean) (C := RX10) (T := TX10) (N := 16) hx hb hts iX10_go1_X10 tyX10 tyX10_ok nmX10 hown hK hP hD hS 0 rfl rfl 11 (by decide) (hts (.fieldLink RX10 128 "BarnPicturesModel" "isWrong" "Z") (by decide +kernel)) (fun _ h9 => h9) rfl (by decide +kernel) rfl rfl (Nat.le_of_ble_eq_true rfl) dX10_go_7 (fun H locs hP hD hS => ?_)
  have hP : va_P D vwCl [(h, .inr (10, [.ref h1, .ref h2, .ref h3, .int v.2.2.2.1, .ref h4, .int v.2.2.2.2.2.1, .ref h5, .int v.2.2.2.2.2.2.2.1, .int v.2.2.2.2.2.2.2.2.1, .int v.2.2.2.2.2.2.2.2.2.1, .int 0, .int 0, .int v.2.2.2.2.2.2.2.2.2.2.2.2.1, .int v.2.2.2.2.2.2.2.2.2.2.2.2.2.1, .int v.2.2.2.2.2.2.2.2.2.2.2.2.2.2.1, .int v.2.2.2.2.2.2.2.2.2.2.2.2.2.2.2])), (h1, .inl (z.1, 108, .inl v.1)), (h2, .inl (z.1, 108, .inl v.2.1)), (h3, .inl (z.1, 432, .inl v.2.2.1)), (h4, .inl (z.1, 108, .inl v.2.2.2.2.1)), (h5, .inl (z.1, 80, .inl v.2.2.2.2.2.2.1))] H := hP
  have hD : va_D A [(h, .inr (10, [.ref h1, .ref h2, .ref h3, .int v.2.2.2.1, .ref h4, .int v.2.2.2.2.2.1, .ref h5, .int v.2.2.2.2.2.2.2.1, .int v.2.2.2.2.2.2.2.2.1, .int v.2.2.2.2.2.2.2.2.2.1, .int 0, .int 0, .int v.2.2.2.2.2.2.2.2.2.2.2.2.1, .int v.2.2.2.2.2.2.2.2.2.2.2.2.2.1, .int v.2.2.2.2.2.2.2.2.2.2.2.2.2.2.1, .int v.2.2.2.2.2.2.2.2.2.2.2.2.2.2.2])), (h1, .inl (z.1, 108, .inl v.1)), (h2, .inl (z.1, 108, .inl v.2.1)), (h3, .inl (z.1, 432, .inl v.2.2.1)), (h4, .inl (z.1, 108, .inl v.2.2.2.2.1)), (h5, .inl (z.1, 80, .inl v.2.2.2.2.2.2.1))] := hD
  refine lv_aload_n hx hb dX10_go_10 rfl (lv_at hl 0 rfl) ?_
  refine lv_iconst (v := 0) hx hb dX10_go_11 (by decide) ?_
  refine va_put (D := D) (ci := 10) (v := .int 0) (ty := .int) (C := RX10) (T := TX10) (N := 16) hx hb hts iX10_go1_X10 tyX10 tyX10_ok nmX10 hown hK hP hD hS 0 rfl rfl 15 (by decide) (hts (.fieldLink RX10 150 "BarnPicturesModel" "fault" "I") (by decide +kernel)) (fun _ h9 => h9) rfl (by decide +kernel) rfl rfl (Nat.le_of_ble_eq_true rfl) dX10_go_12 (fun H locs hP hD hS => ?_)
  have hP : va_P D vwCl [(h, .inr (10, [.ref h1, .ref h2, .ref h3, .int v.2.2.2.1, .ref h4, .int v.2.2.2.2.2.1, .ref h5, .int v.2.2.2.2.2.2.2.1, .int v.2.2.2.2.2.2.2.2.1, .int v.2.2.2.2.2.2.2.2.2.1, .int 0, .int 0, .int v.2.2.2.2.2.2.2.2.2.2.2.2.1, .int v.2.2.2.2.2.2.2.2.2.2.2.2.2.1, .int v.2.2.2.2.2.2.2.2.2.2.2.2.2.2.1, .int 0])), (h1, .inl (z.1, 108, .inl v.1)), (h2, .inl (z.1, 108, .inl v.2.1)), (h3, .inl (z.1, 432, .inl v.2.2.1)), (h4, .inl (z.1, 108, .inl v.2.2.2.2.1)), (h5, .inl (z.1, 80, .inl v.2.2.2.2.2.2.1))] H := hP
  have hD : va_D A [(h, .inr (10, [.ref h1, .ref h2, .ref h3, .int v.2.2.2.1, .ref h4, .int v.2.2.2.2.2.1, .ref h5, .int v.2.2.2.2.2.2.2.1, .int v.2.2.2.2.2.2.2.2.1, .int v.2.2.2.2.2.2.2.2.2.1, .int 0, .int 0, .int v.2.2.2.2.2.2.2.2.2.2.2.2.1, .int v.2.2.2.2.2.2.2.2.2.2.2.2.2.1, .int v.2.2.2.2.2.2.2.2.2.2.2.2.2.2.1, .int 0])), (h1, .inl (z.1, 108, .inl v.1)), (h2, .inl (z.1, 108, .inl v.2.1)), (h3, .inl (z.1, 432, .inl v.2.2.1)), (h4, .inl (z.1, 108, .inl v.2.2.2.2.1)), (h5, .inl (z.1, 80, .inl v.2.2.2.2.2.2.1))] := hD
  refine lv_iconst (v := 0) hx hb dX10_go_15 (by decide) ?_
  refine lv_istore_n (lv' := [(2, .int 0), (0, .ref h), (1, .int 1)]) hx hb dX10_go_16 rfl hl (by decide) rfl (fun ls hl => ?_)
  refine lv_iconst (v := 1) hx hb dX10_go_17 (by decide) ?_
  refine lv_istore_n (lv' := [(3, .int 1), (2, .int 0), (0, .ref h), (1, .int 1)]) hx hb dX10_go_18 rfl hl (by decide) rfl (fun ls hl => ?_)
  have L19 : ∀ (n19 : Nat) (q19 : Int32 × Int32 × Int32 × Int32 × Int32 × Int32 × Int32 × Int32 × (Nat → Int32)), f_X10_go1 v.1 v.2.2.2.2.2.2.1 v.2.2.2.2.2.2.2.1 v.2.2.2.2.2.2.2.2.2.2.2.2.1 v.2.2.2.2.2.2.2.2.2.2.2.2.2.1 v.2.2.2.2.2.2.2.2.2.2.2.2.2.2.1 = wl_X10_go1_19 v.1 v.2.2.2.2.2.2.1 v.2.2.2.2.2.2.2.1 v.2.2.2.2.2.2.2.2.2.2.2.2.1 v.2.2.2.2.2.2.2.2.2.2.2.2.2.1 v.2.2.2.2.2.2.2.2.2.2.2.2.2.2.1 n19 q19 → mg q19.2.2.1 q19.2.1 ≤ n19 → AOK q19.2.2.1 ∧ SI q19.2.2.2.2.2.2.2.2 ∧ (q19.2.1 = 0 ∨ PG v.2.2.2.2.2.2.1 v.2.2.2.2.2.2.2.1 q19.2.2.1 q19.2.2.2.1) → ∀ (H : Heap) (locs : List Loc) (ls : Array Slot), va_P D vwCl [(h, .inr (10, [.ref h1, .ref h2, .ref h3, .int v.2.2.2.1, .ref h4, .int v.2.2.2.2.2.1, .ref h5, .int v.2.2.2.2.2.2.2.1, .int v.2.2.2.2.2.2.2.2.1, .int v.2.2.2.2.2.2.2.2.2.1, .int q19.2.2.1, .int q19.2.2.2.1, .int q19.2.2.2.2.1, .int q19.2.2.2.2.2.1, .int q19.2.2.2.2.2.2.1, .int q19.2.2.2.2.2.2.2.1])), (h1, .inl (z.1, 108, .inl q19.2.2.2.2.2.2.2.2)), (h2, .inl (z.1, 108, .inl v.2.1)), (h3, .inl (z.1, 432, .inl v.2.2.1)), (h4, .inl (z.1, 108, .inl v.2.2.2.2.1)), (h5, .inl (z.1, 80, .inl v.2.2.2.2.2.2.1))] H → va_D A [(h, .inr (10, [.ref h1, .ref h2, .ref h3, .int v.2.2.2.1, .ref h4, .int v.2.2.2.2.2.1, .ref h5, .int v.2.2.2.2.2.2.2.1, .int v.2.2.2.2.2.2.2.2.1, .int v.2.2.2.2.2.2.2.2.2.1, .int q19.2.2.1, .int q19.2.2.2.1, .int q19.2.2.2.2.1, .int q19.2.2.2.2.2.1, .int q19.2.2.2.2.2.2.1, .int q19.2.2.2.2.2.2.2.1])), (h1, .inl (z.1, 108, .inl q19.2.2.2.2.2.2.2.2)), (h2, .inl (z.1, 108, .inl v.2.1)), (h3, .inl (z.1, 432, .inl v.2.2.1)), (h4, .inl (z.1, 108, .inl v.2.2.2.2.1)), (h5, .inl (z.1, 80, .inl v.2.2.2.2.2.2.1))] → va_S A s.heap H locs → lv_has ls 5 [(3, .int q19.2.1), (2, .int q19.1), (0, .ref h), (1, .int 1)] → W p l e R s m args below meth c H locs 0 0 Q (F0 m 19 ls []) := by
    intro n19
    induction n19 with
    | zero =>
      intro q19 hq19 hm19 hi19 H locs ls hP hD hS hl
      exact absurd hm19 (mg_pos hi19.1)
    | succ n19 ih19 =>
      intro q19 hq19 hm19 hi19 H locs ls hP hD hS hl
      refine lv_iload_n hx hb dX10_go_19 rfl (lv_at hl 0 rfl) ?_
      refine lv_if_eq (tgt := 119) hx hb dX10_go_20 (by decide) (fun c_1 => ?_) (fun c_1 => ?_)
      · refine lv_iload_n hx hb dX10_go_119 rfl (lv_at hl 1 rfl) ?_
        subst hQ
        exact ret_i (q19.2.2.2.2.2.2.2.2, q19.2.2.1, q19.2.2.2.1, q19.2.2.2.2.1, q19.2.2.2.2.2.1, q19.2.2.2.2.2.2.1, q19.2.2.2.2.2.2.2.1) hx hb hr hK hP hD hS rfl (by rw [hq19, wl_X10_go1_19_s, (show st_X10_go1_19 v.1 v.2.2.2.2.2.2.1 v.2.2.2.2.2.2.2.1 v.2.2.2.2.2.2.2.2.2.2.2.2.1 v.2.2.2.2.2.2.2.2.2.2.2.2.2.1 v.2.2.2.2.2.2.2.2.2.2.2.2.2.2.1 q19 = Sum.inr (q19.1, (q19.2.2.2.2.2.2.2.2, q19.2.2.1, q19.2.2.2.1, q19.2.2.2.2.1, q19.2.2.2.2.2.1, q19.2.2.2.2.2.2.1, q19.2.2.2.2.2.2.2.1)) from by unfold st_X10_go1_19; rw [if_pos c_1]; try rfl)]; try rfl) dX10_go_120 hlocks
      · refine lv_aload_n hx hb dX10_go_23 rfl (lv_at hl 2 rfl) ?_
        refine call_v [] (fun zu => [(h, .inr (10, [.ref h1, .ref h2, .ref h3, .int v.2.2.2.1, .ref h4, .int v.2.2.2.2.2.1, .ref h5, .int v.2.2.2.2.2.2.2.1, .int v.2.2.2.2.2.2.2.2.1, .int v.2.2.2.2.2.2.2.2.2.1, .int zu.1, .int zu.2.1, .int zu.2.2.1, .int zu.2.2.2.1, .int zu.2.2.2.2, .int q19.2.2.2.2.2.2.2.1])), (h1, .inl (z.1, 108, .inl q19.2.2.2.2.2.2.2.2)), (h2, .inl (z.1, 108, .inl v.2.1)), (h3, .inl (z.1, 432, .inl v.2.2.1)), (h4, .inl (z.1, 108, .inl v.2.2.2.2.1)), (h5, .inl (z.1, 80, .inl v.2.2.2.2.2.2.1))]) (rV (As := []) (rest := []) ⟨hx, hb, hml, hown, hts⟩ (c_X10_read l D z h h1 h2 h3 h4 h5 (q19.2.2.2.2.2.2.2.2, v.2.1, v.2.2.1, v.2.2.2.1, v.2.2.2.2.1, v.2.2.2.2.2.1, v.2.2.2.2.2.2.1, v.2.2.2.2.2.2.2.1, v.2.2.2.2.2.2.2.2.1, v.2.2.2.2.2.2.2.2.2.1, q19.2.2.1, q19.2.2.2.1, q19.2.2.2.2.1, q19.2.2.2.2.2.1, q19.2.2.2.2.2.2.1, q19.2.2.2.2.2.2.2.1) hi19.1 (by assumption) H.size) (cwV 0 hts gX10_go_X10_read rfl rfl rfl (by decide +kernel) ⟨Nat.le_trans (by decide) hRf, Nat.le_trans (by decide) hRl⟩) e0_ok e_0 hK hP hD [0, 1, 2, 3, 4, 5] (by decide) rfl (va_recv hK hP (ci := 10) (q0 := 0) rfl rfl) rfl hl.1 rfl (Nat.le_of_ble_eq_true rfl) dX10_go_24 ⟨Nat.zero_le _, Nat.zero_le _⟩) hK hP hD hS hA [0, 1, 2, 3, 4, 5] [] [0, 1, 2, 3, 4, 5] rfl rfl (by decide) (by decide) (by decide) (fun _ => rfl) (fun q24 H locs hq24 hP hD hS => ?_)
        obtain ⟨hq24, hx_2⟩ := hq24
        have hP : va_P D vwCl [(h, .inr (10, [.ref h1, .ref h2, .ref h3, .int v.2.2.2.1, .ref h4, .int v.2.2.2.2.2.1, .ref h5, .int v.2.2.2.2.2.2.2.1, .int v.2.2.2.2.2.2.2.2.1, .int v.2.2.2.2.2.2.2.2.2.1, .int q24.1, .int q24.2.1, .int q24.2.2.1, .int q24.2.2.2.1, .int q24.2.2.2.2, .int q19.2.2.2.2.2.2.2.1])), (h1, .inl (z.1, 108, .inl q19.2.2.2.2.2.2.2.2)), (h2, .inl (z.1, 108, .inl v.2.1)), (h3, .inl (z.1, 432, .inl v.2.2.1)), (h4, .inl (z.1, 108, .inl v.2.2.2.2.1)), (h5, .inl (z.1, 80, .inl v.2.2.2.2.2.2.1))] H := hP
        have hD : va_D A [(h, .inr (10, [.ref h1, .ref h2, .ref h3, .int v.2.2.2.1, .ref h4, .int v.2.2.2.2.2.1, .ref h5, .int v.2.2.2.2.2.2.2.1, .int v.2.2.2.2.2.2.2.2.1, .int v.2.2.2.2.2.2.2.2.2.1, .int q24.1, .int q24.2.1, .int q24.2.2.1, .int q24.2.2.2.1, .int q24.2.2.2.2, .int q19.2.2.2.2.2.2.2.1])), (h1, .inl (z.1, 108, .inl q19.2.2.2.2.2.2.2.2)), (h2, .inl (z.1, 108, .inl v.2.1)), (h3, .inl (z.1, 432, .inl v.2.2.1)), (h4, .inl (z.1, 108, .inl v.2.2.2.2.1)), (h5, .inl (z.1, 80, .inl v.2.2.2.2.2.2.1))] := hD
        have hpg := pgo_s (hi19.2.2.resolve_left (by assumption)) q24 hq24
        have hon9 : ONEOK q24.2.2.1 q24.2.2.2.1 := by rw [hq24]; exact read_ok (by rw [← hq24]; exact hpg.1)
        refine lv_aload_n hx hb dX10_go_27 rfl (lv_at hl 2 rfl) ?_
        refine lv_iload_n hx hb dX10_go_28 rfl (lv_at hl 3 rfl) ?_
        refine lv_if_eq (tgt := 39) hx hb dX10_go_29 (by decide) (fun c_3 => absurd c_3 (by decide)) (fun c_3 => ?_)
        refine lv_aload_n hx hb dX10_go_32 rfl (lv_at hl 2 rfl) ?_
        refine call_i [] (fun zu => [(h, .inr (10, [.ref h1, .ref h2, .ref h3, .int v.2.2.2.1, .ref h4, .int v.2.2.2.2.2.1, .ref h5, .int v.2.2.2.2.2.2.2.1, .int v.2.2.2.2.2.2.2.2.1, .int v.2.2.2.2.2.2.2.2.2.1, .int q24.1, .int q24.2.1, .int q24.2.2.1, .int q24.2.2.2.1, .int q24.2.2.2.2, .int q19.2.2.2.2.2.2.2.1])), (h1, .inl (z.1, 108, .inl zu)), (h2, .inl (z.1, 108, .inl v.2.1)), (h3, .inl (z.1, 432, .inl v.2.2.1)), (h4, .inl (z.1, 108, .inl v.2.2.2.2.1)), (h5, .inl (z.1, 80, .inl v.2.2.2.2.2.2.1))]) (rV (As := []) (rest := [.ref h]) ⟨hx, hb, hml, hown, hts⟩ (c_X10_does l D z h h1 h2 h3 h4 h5 (q19.2.2.2.2.2.2.2.2, v.2.1, v.2.2.1, v.2.2.2.1, v.2.2.2.2.1, v.2.2.2.2.2.1, v.2.2.2.2.2.2.1, v.2.2.2.2.2.2.2.1, v.2.2.2.2.2.2.2.2.1, v.2.2.2.2.2.2.2.2.2.1, q24.1, q24.2.1, q24.2.2.1, q24.2.2.2.1, q24.2.2.2.2, q19.2.2.2.2.2.2.2.1) hi19.2.1 hon9 H.size) (cwV 0 hts gX10_go_X10_does rfl rfl rfl (by decide +kernel) ⟨Nat.le_trans (by decide) hRf, Nat.le_trans (by decide) hRl⟩) e0_ok e_0 hK hP hD [0, 1, 2, 3, 4, 5] (by decide) rfl (va_recv hK hP (ci := 10) (q0 := 0) rfl rfl) rfl hl.1 rfl (Nat.le_of_ble_eq_true rfl) dX10_go_33 ⟨Nat.zero_le _, Nat.zero_le _⟩) hK hP hD hS hA [0, 1, 2, 3, 4, 5] [] [0, 1, 2, 3, 4, 5] rfl rfl (by decide) (by decide) (by decide) (fun _ => rfl) (fun zr zu H locs hw hP hD hS => ?_)
        obtain ⟨hw, hx_4⟩ := hw
        obtain ⟨q33, hq33⟩ : ∃ q9, q9 = (f_X10_does q19.2.2.2.2.2.2.2.2 q24.2.2.1 q24.2.2.2.1 q24.2.2.2.2) := ⟨_, rfl⟩
        rw [← hq33] at hw
        obtain ⟨rfl, rfl⟩ := pe hw
        have hP : va_P D vwCl [(h, .inr (10, [.ref h1, .ref h2, .ref h3, .int v.2.2.2.1, .ref h4, .int v.2.2.2.2.2.1, .ref h5, .int v.2.2.2.2.2.2.2.1, .int v.2.2.2.2.2.2.2.2.1, .int v.2.2.2.2.2.2.2.2.2.1, .int q24.1, .int q24.2.1, .int q24.2.2.1, .int q24.2.2.2.1, .int q24.2.2.2.2, .int q19.2.2.2.2.2.2.2.1])), (h1, .inl (z.1, 108, .inl q33.2)), (h2, .inl (z.1, 108, .inl v.2.1)), (h3, .inl (z.1, 432, .inl v.2.2.1)), (h4, .inl (z.1, 108, .inl v.2.2.2.2.1)), (h5, .inl (z.1, 80, .inl v.2.2.2.2.2.2.1))] H := hP
        have hD : va_D A [(h, .inr (10, [.ref h1, .ref h2, .ref h3, .int v.2.2.2.1, .ref h4, .int v.2.2.2.2.2.1, .ref h5, .int v.2.2.2.2.2.2.2.1, .int v.2.2.2.2.2.2.2.2.1, .int v.2.2.2.2.2.2.2.2.2.1, .int q24.1, .int q24.2.1, .int q24.2.2.1, .int q24.2.2.2.1, .int q24.2.2.2.2, .int q19.2.2.2.2.2.2.2.1])), (h1, .inl (z.1, 108, .inl q33.2)), (h2, .inl (z.1, 108, .inl v.2.1)), (h3, .inl (z.1, 432, .inl v.2.2.1)), (h4, .inl (z.1, 108, .inl v.2.2.2.2.1)), (h5, .inl (z.1, 80, .inl v.2.2.2.2.2.2.1))] := hD
        refine lv_goto (tgt := 40) hx hb dX10_go_36 (by decide) ?_
        refine va_put (D := D) (ci := 10) (v := .int q33.1) (ty := .int) (C := RX10) (T := TX10) (N := 16) hx hb hts iX10_go1_X10 tyX10 tyX10_ok nmX10 hown hK hP hD hS 0 rfl rfl 15 (by decide) (hts (.fieldLink RX10 150 "BarnPicturesModel" "fault" "I") (by decide +kernel)) (fun _ h9 => h9) rfl (by decide +kernel) rfl rfl (Nat.le_of_ble_eq_true rfl) dX10_go_40 (fun H locs hP hD hS => ?_)
        have hP : va_P D vwCl [(h, .inr (10, [.ref h1, .ref h2, .ref h3, .int v.2.2.2.1, .ref h4, .int v.2.2.2.2.2.1, .ref h5, .int v.2.2.2.2.2.2.2.1, .int v.2.2.2.2.2.2.2.2.1, .int v.2.2.2.2.2.2.2.2.2.1, .int q24.1, .int q24.2.1, .int q24.2.2.1, .int q24.2.2.2.1, .int q24.2.2.2.2, .int q33.1])), (h1, .inl (z.1, 108, .inl q33.2)), (h2, .inl (z.1, 108, .inl v.2.1)), (h3, .inl (z.1, 432, .inl v.2.2.1)), (h4, .inl (z.1, 108, .inl v.2.2.2.2.1)), (h5, .inl (z.1, 80, .inl v.2.2.2.2.2.2.1))] H := hP
        have hD : va_D A [(h, .inr (10, [.ref h1, .ref h2, .ref h3, .int v.2.2.2.1, .ref h4, .int v.2.2.2.2.2.1, .ref h5, .int v.2.2.2.2.2.2.2.1, .int v.2.2.2.2.2.2.2.2.1, .int v.2.2.2.2.2.2.2.2.2.1, .int q24.1, .int q24.2.1, .int q24.2.2.1, .int q24.2.2.2.1, .int q24.2.2.2.2, .int q33.1])), (h1, .inl (z.1, 108, .inl q33.2)), (h2, .inl (z.1, 108, .inl v.2.1)), (h3, .inl (z.1, 432, .inl v.2.2.1)), (h4, .inl (z.1, 108, .inl v.2.2.2.2.1)), (h5, .inl (z.1, 80, .inl v.2.2.2.2.2.2.1))] := hD
        refine lv_iload_n hx hb dX10_go_43 rfl (lv_at hl 1 rfl) ?_
        refine lv_aload_n hx hb dX10_go_44 rfl (lv_at hl 2 rfl) ?_
        refine va_get (D := D) (ci := 10) (v := .int q33.1) (C := RX10) (T := TX10) (N := 16) hx hb hts iX10_go1_X10 hown hK hP 0 rfl rfl 15 (by decide) (hts (.fieldLink RX10 150 "BarnPicturesModel" "fault" "I") (by decide +kernel)) (fun _ h9 => h9) rfl dX10_go_45 ?_
        refine lv_if_ne (tgt := 55) hx hb dX10_go_48 (by decide) (fun c_5 => ?_) (fun c_5 => ?_)
        · refine lv_iconst (v := 0) hx hb dX10_go_55 (by decide) ?_
          refine lv_iadd hx hb dX10_go_56 ?_
          refine lv_istore_n (lv' := [(2, .int (q19.1 + 0)), (3, .int q19.2.1), (0, .ref h), (1, .int 1)]) hx hb dX10_go_57 rfl hl (by decide) rfl (fun ls hl => ?_)
          refine lv_aload_n hx hb dX10_go_58 rfl (lv_at hl 2 rfl) ?_
          refine va_get (D := D) (ci := 10) (v := .int q24.2.1) (C := RX10) (T := TX10) (N := 16) hx hb hts iX10_go1_X10 hown hK hP 0 rfl rfl 11 (by decide) (hts (.fieldLink RX10 128 "BarnPicturesModel" "isWrong" "Z") (by decide +kernel)) (fun _ h9 => h9) rfl dX10_go_59 ?_
          refine lv_if_ne (tgt := 87) hx hb dX10_go_62 (by decide) (fun c_6 => ?_) (fun c_6 => ?_)
          · refine lv_iconst (v := 0) hx hb dX10_go_87 (by decide) ?_
            refine lv_istore_n (lv' := [(3, .int 0), (2, .int (q19.1 + 0)), (0, .ref h), (1, .int 1)]) hx hb dX10_go_88 rfl hl (by decide) rfl (fun ls hl => ?_)
            refine lv_iload_n hx hb dX10_go_89 rfl (lv_at hl 0 rfl) ?_
            refine lv_if_eq (tgt := 19) hx hb dX10_go_90 (by decide) (fun c_7 => ?_) (fun c_7 => absurd c_7 (by decide))
            exact ih19 ((q19.1 + 0), 0, q24.1, q24.2.1, q24.2.2.1, q24.2.2.2.1, q24.2.2.2.2, q33.1, q33.2) (by rw [hq19, wl_X10_go1_19_s, (show st_X10_go1_19 v.1 v.2.2.2.2.2.2.1 v.2.2.2.2.2.2.2.1 v.2.2.2.2.2.2.2.2.2.2.2.2.1 v.2.2.2.2.2.2.2.2.2.2.2.2.2.1 v.2.2.2.2.2.2.2.2.2.2.2.2.2.2.1 q19 = Sum.inl ((q19.1 + 0), 0, q24.1, q24.2.1, q24.2.2.1, q24.2.2.2.1, q24.2.2.2.2, q33.1, q33.2) from by unfold st_X10_go1_19; rw [if_neg c_1, ← hq24]; unfold f_X10_go1_q24; rw [← hq33]; unfold f_X10_go1_q33; rw [if_neg c_5, if_neg c_6]; try rfl)]; try rfl) (adv_mg0 hx_2 (by assumption) hm19) ⟨hx_2.1, hx_4, Or.inl rfl⟩ _ _ _ hP hD hS (lv_sub hl [0, 1, 2, 3] rfl)
          · refine lv_aload_n hx hb dX10_go_65 rfl (lv_at hl 2 rfl) ?_
            refine va_get (D := D) (ci := 10) (v := .int q33.1) (C := RX10) (T := TX10) (N := 16) hx hb hts iX10_go1_X10 hown hK hP 0 rfl rfl 15 (by decide) (hts (.fieldLink RX10 150 "BarnPicturesModel" "fault" "I") (by decide +kernel)) (fun _ h9 => h9) rfl dX10_go_66 ?_
            refine lv_if_ne (tgt := 87) hx hb dX10_go_69 (by decide) (fun c_8 => ?_) (fun c_8 => absurd c_8 c_5)
            refine lv_iconst (v := 0) hx hb dX10_go_87 (by decide) ?_
            refine lv_istore_n (lv' := [(3, .int 0), (2, .int (q19.1 + 0)), (0, .ref h), (1, .int 1)]) hx hb dX10_go_88 rfl hl (by decide) rfl (fun ls hl => ?_)
            refine lv_iload_n hx hb dX10_go_89 rfl (lv_at hl 0 rfl) ?_
            refine lv_if_eq (tgt := 19) hx hb dX10_go_90 (by decide) (fun c_9 => ?_) (fun c_9 => absurd c_9 (by decide))
            exact ih19 ((q19.1 + 0), 0, q24.1, q24.2.1, q24.2.2.1, q24.2.2.2.1, q24.2.2.2.2, q33.1, q33.2) (by rw [hq19, wl_X10_go1_19_s, (show st_X10_go1_19 v.1 v.2.2.2.2.2.2.1 v.2.2.2.2.2.2.2.1 v.2.2.2.2.2.2.2.2.2.2.2.2.1 v.2.2.2.2.2.2.2.2.2.2.2.2.2.1 v.2.2.2.2.2.2.2.2.2.2.2.2.2.2.1 q19 = Sum.inl ((q19.1 + 0), 0, q24.1, q24.2.1, q24.2.2.1, q24.2.2.2.1, q24.2.2.2.2, q33.1, q33.2) from by unfold st_X10_go1_19; rw [if_neg c_1, ← hq24]; unfold f_X10_go1_q24; rw [← hq33]; unfold f_X10_go1_q33; rw [if_neg c_5, if_pos c_6]; try rfl)]; try rfl) (adv_mg0 hx_2 (by assumption) hm19) ⟨hx_2.1, hx_4, Or.inl rfl⟩ _ _ _ hP hD hS (lv_sub hl [0, 1, 2, 3] rfl)
        · refine lv_iconst (v := 1) hx hb dX10_go_51 (by decide) ?_
          refine lv_goto (tgt := 56) hx hb dX10_go_52 (by decide) ?_
          refine lv_iadd hx hb dX10_go_56 ?_
          refine lv_istore_n (lv' := [(2, .int (q19.1 + 1)), (3, .int q19.2.1), (0, .ref h), (1, .int 1)]) hx hb dX10_go_57 rfl hl (by decide) rfl (fun ls hl => ?_)
          refine lv_aload_n hx hb dX10_go_58 rfl (lv_at hl 2 rfl) ?_
          refine va_get (D := D) (ci := 10) (v := .int q24.2.1) (C := RX10) (T := TX10) (N := 16) hx hb hts iX10_go1_X10 hown hK hP 0 rfl rfl 11 (by decide) (hts (.fieldLink RX10 128 "BarnPicturesModel" "isWrong" "Z") (by decide +kernel)) (fun _ h9 => h9) rfl dX10_go_59 ?_
          refine lv_if_ne (tgt := 87) hx hb dX10_go_62 (by decide) (fun c_10 => ?_) (fun c_10 => ?_)
          · refine lv_iconst (v := 0) hx hb dX10_go_87 (by decide) ?_
            refine lv_istore_n (lv' := [(3, .int 0), (2, .int (q19.1 + 1)), (0, .ref h), (1, .int 1)]) hx hb dX10_go_88 rfl hl (by decide) rfl (fun ls hl => ?_)
            refine lv_iload_n hx hb dX10_go_89 rfl (lv_at hl 0 rfl) ?_
            refine lv_if_eq (tgt := 19) hx hb dX10_go_90 (by decide) (fun c_11 => ?_) (fun c_11 => absurd c_11 (by decide))
            exact ih19 ((q19.1 + 1), 0, q24.1, q24.2.1, q24.2.2.1, q24.2.2.2.1, q24.2.2.2.2, q33.1, q33.2) (by rw [hq19, wl_X10_go1_19_s, (show st_X10_go1_19 v.1 v.2.2.2.2.2.2.1 v.2.2.2.2.2.2.2.1 v.2.2.2.2.2.2.2.2.2.2.2.2.1 v.2.2.2.2.2.2.2.2.2.2.2.2.2.1 v.2.2.2.2.2.2.2.2.2.2.2.2.2.2.1 q19 = Sum.inl ((q19.1 + 1), 0, q24.1, q24.2.1, q24.2.2.1, q24.2.2.2.1, q24.2.2.2.2, q33.1, q33.2) from by unfold st_X10_go1_19; rw [if_neg c_1, ← hq24]; unfold f_X10_go1_q24; rw [← hq33]; unfold f_X10_go1_q33; rw [if_pos c_5, if_neg c_10]; try rfl)]; try rfl) (adv_mg0 hx_2 (by assumption) hm19) ⟨hx_2.1, hx_4, Or.inl rfl⟩ _ _ _ hP hD hS (lv_sub hl [0, 1, 2, 3] rfl)
          · refine lv_aload_n hx hb dX10_go_65 rfl (lv_at hl 2 rfl) ?_
            refine va_get (D := D) (ci := 10) (v := .int q33.1) (C := RX10) (T := TX10) (N := 16) hx hb hts iX10_go1_X10 hown hK hP 0 rfl rfl 15 (by decide) (hts (.fieldLink RX10 150 "BarnPicturesModel" "fault" "I") (by decide +kernel)) (fun _ h9 => h9) rfl dX10_go_66 ?_
            refine lv_if_ne (tgt := 87) hx hb dX10_go_69 (by decide) (fun c_12 => absurd c_5 c_12) (fun c_12 => ?_)
            refine lv_aload_n hx hb dX10_go_72 rfl (lv_at hl 2 rfl) ?_
            refine va_get (D := D) (ci := 10) (v := .int q24.1) (C := RX10) (T := TX10) (N := 16) hx hb hts iX10_go1_X10 hown hK hP 0 rfl rfl 10 (by decide) (hts (.fieldLink RX10 125 "BarnPicturesModel" "at" "I") (by decide +kernel)) (fun _ h9 => h9) rfl dX10_go_73 ?_
            refine lv_aload_n hx hb dX10_go_76 rfl (lv_at hl 2 rfl) ?_
            refine va_get (D := D) (ci := 10) (v := .int v.2.2.2.2.2.2.2.1) (C := RX10) (T := TX10) (N := 16) hx hb hts iX10_go1_X10 hown hK hP 0 rfl rfl 7 (by decide) (hts (.fieldLink RX10 122 "BarnPicturesModel" "typed" "I") (by decide +kernel)) (fun _ h9 => h9) rfl dX10_go_77 ?_
            refine lv_icmp_ge (tgt := 87) hx hb dX10_go_80 (by decide) (fun c_13 => ?_) (fun c_13 => ?_)
            · refine lv_iconst (v := 0) hx hb dX10_go_87 (by decide) ?_
              refine lv_istore_n (lv' := [(3, .int 0), (2, .int (q19.1 + 1)), (0, .ref h), (1, .int 1)]) hx hb dX10_go_88 rfl hl (by decide) rfl (fun ls hl => ?_)
              refine lv_iload_n hx hb dX10_go_89 rfl (lv_at hl 0 rfl) ?_
              refine lv_if_eq (tgt := 19) hx hb dX10_go_90 (by decide) (fun c_14 => ?_) (fun c_14 => absurd c_14 (by decide))
              exact ih19 ((q19.1 + 1), 0, q24.1, q24.2.1, q24.2.2.1, q24.2.2.2.1, q24.2.2.2.2, q33.1, q33.2) (by rw [hq19, wl_X10_go1_19_s, (show st_X10_go1_19 v.1 v.2.2.2.2.2.2.1 v.2.2.2.2.2.2.2.1 v.2.2.2.2.2.2.2.2.2.2.2.2.1 v.2.2.2.2.2.2.2.2.2.2.2.2.2.1 v.2.2.2.2.2.2.2.2.2.2.2.2.2.2.1 q19 = Sum.inl ((q19.1 + 1), 0, q24.1, q24.2.1, q24.2.2.1, q24.2.2.2.1, q24.2.2.2.2, q33.1, q33.2) from by unfold st_X10_go1_19; rw [if_neg c_1, ← hq24]; unfold f_X10_go1_q24; rw [← hq33]; unfold f_X10_go1_q33; rw [if_pos c_5, if_pos c_10, if_pos c_13]; try rfl)]; try rfl) (adv_mg0 hx_2 (by assumption) hm19) ⟨hx_2.1, hx_4, Or.inl rfl⟩ _ _ _ hP hD hS (lv_sub hl [0, 1, 2, 3] rfl)
            · refine lv_iconst (v := 1) hx hb dX10_go_83 (by decide) ?_
              refine lv_goto (tgt := 88) hx hb dX10_go_84 (by decide) ?_
              refine lv_istore_n (lv' := [(3, .int 1), (2, .int (q19.1 + 1)), (0, .ref h), (1, .int 1)]) hx hb dX10_go_88 rfl hl (by decide) rfl (fun ls hl => ?_)
              refine lv_iload_n hx hb dX10_go_89 rfl (lv_at hl 0 rfl) ?_
              refine lv_if_eq (tgt := 19) hx hb dX10_go_90 (by decide) (fun c_15 => absurd c_15 (by decide)) (fun c_15 => ?_)
              refine lv_aload_n hx hb dX10_go_93 rfl (lv_at hl 2 rfl) ?_
              refine lv_bipush (v := 44) hx hb dX10_go_94 (by decide) ?_
              refine lv_bipush (v := 44) hx hb dX10_go_96 (by decide) ?_
              refine call_i [] (fun zu => [(h, .inr (10, [.ref h1, .ref h2, .ref h3, .int v.2.2.2.1, .ref h4, .int v.2.2.2.2.2.1, .ref h5, .int v.2.2.2.2.2.2.2.1, .int v.2.2.2.2.2.2.2.2.1, .int v.2.2.2.2.2.2.2.2.2.1, .int zu.1, .int zu.2, .int q24.2.2.1, .int q24.2.2.2.1, .int q24.2.2.2.2, .int q33.1])), (h1, .inl (z.1, 108, .inl q33.2)), (h2, .inl (z.1, 108, .inl v.2.1)), (h3, .inl (z.1, 432, .inl v.2.2.1)), (h4, .inl (z.1, 108, .inl v.2.2.2.2.1)), (h5, .inl (z.1, 80, .inl v.2.2.2.2.2.2.1))]) (rV (As := [.int 44, .int 44]) (rest := []) ⟨hx, hb, hml, hown, hts⟩ (c_X10_sign l D z h h1 h2 h3 h4 h5 (q33.2, v.2.1, v.2.2.1, v.2.2.2.1, v.2.2.2.2.1, v.2.2.2.2.2.1, v.2.2.2.2.2.2.1, v.2.2.2.2.2.2.2.1, v.2.2.2.2.2.2.2.2.1, v.2.2.2.2.2.2.2.2.2.1, q24.1, q24.2.1, q24.2.2.1, q24.2.2.2.1, q24.2.2.2.2, q33.1) 44 44 hx_2.1 (by assumption) (by decide) H.size) (cwV 2 hts gX10_go_X10_sign rfl rfl rfl (by decide +kernel) ⟨Nat.le_trans (by decide) hRf, Nat.le_trans (by decide) hRl⟩) e0_ok e_0 hK hP hD [0, 1, 2, 3, 4, 5] (by decide) rfl (va_recv hK hP (ci := 10) (q0 := 0) rfl rfl) rfl hl.1 rfl (Nat.le_of_ble_eq_true rfl) dX10_go_98 ⟨Nat.zero_le _, Nat.zero_le _⟩) hK hP hD hS hA [0, 1, 2, 3, 4, 5] [] [0, 1, 2, 3, 4, 5] rfl rfl (by decide) (by decide) (by decide) (fun _ => rfl) (fun zr zu H locs hw hP hD hS => ?_)
              obtain ⟨hw, hx_16⟩ := hw
              obtain ⟨q98, hq98⟩ : ∃ q9, q9 = (f_X10_sign v.2.2.2.2.2.2.1 v.2.2.2.2.2.2.2.1 q24.1 q24.2.1 44 44) := ⟨_, rfl⟩
              rw [← hq98] at hw
              obtain ⟨rfl, rfl⟩ := pe hw
              have hP : va_P D vwCl [(h, .inr (10, [.ref h1, .ref h2, .ref h3, .int v.2.2.2.1, .ref h4, .int v.2.2.2.2.2.1, .ref h5, .int v.2.2.2.2.2.2.2.1, .int v.2.2.2.2.2.2.2.2.1, .int v.2.2.2.2.2.2.2.2.2.1, .int q98.2.1, .int q98.2.2, .int q24.2.2.1, .int q24.2.2.2.1, .int q24.2.2.2.2, .int q33.1])), (h1, .inl (z.1, 108, .inl q33.2)), (h2, .inl (z.1, 108, .inl v.2.1)), (h3, .inl (z.1, 432, .inl v.2.2.1)), (h4, .inl (z.1, 108, .inl v.2.2.2.2.1)), (h5, .inl (z.1, 80, .inl v.2.2.2.2.2.2.1))] H := hP
              have hD : va_D A [(h, .inr (10, [.ref h1, .ref h2, .ref h3, .int v.2.2.2.1, .ref h4, .int v.2.2.2.2.2.1, .ref h5, .int v.2.2.2.2.2.2.2.1, .int v.2.2.2.2.2.2.2.2.1, .int v.2.2.2.2.2.2.2.2.2.1, .int q98.2.1, .int q98.2.2, .int q24.2.2.1, .int q24.2.2.2.1, .int q24.2.2.2.2, .int q33.1])), (h1, .inl (z.1, 108, .inl q33.2)), (h2, .inl (z.1, 108, .inl v.2.1)), (h3, .inl (z.1, 432, .inl v.2.2.1)), (h4, .inl (z.1, 108, .inl v.2.2.2.2.1)), (h5, .inl (z.1, 80, .inl v.2.2.2.2.2.2.1))] := hD
              have hpg2 := (hpg.2.resolve_left (by assumption)) q98 hq98
              refine lv_istore (lv' := [(4, .int q98.1), (3, .int 1), (2, .int (q19.1 + 1)), (0, .ref h), (1, .int 1)]) hx hb dX10_go_101 hl (by decide) rfl (fun ls hl => ?_)
              refine lv_aload_n hx hb dX10_go_103 rfl (lv_at hl 3 rfl) ?_
              refine va_get (D := D) (ci := 10) (v := .int q98.2.2) (C := RX10) (T := TX10) (N := 16) hx hb hts iX10_go1_X10 hown hK hP 0 rfl rfl 11 (by decide) (hts (.fieldLink RX10 128 "BarnPicturesModel" "isWrong" "Z") (by decide +kernel)) (fun _ h9 => h9) rfl dX10_go_104 ?_
              refine lv_if_ne (tgt := 114) hx hb dX10_go_107 (by decide) (fun c_17 => ?_) (fun c_17 => ?_)
              · refine lv_iconst (v := 0) hx hb dX10_go_114 (by decide) ?_
                refine lv_istore_n (lv' := [(3, .int 0), (4, .int q98.1), (2, .int (q19.1 + 1)), (0, .ref h), (1, .int 1)]) hx hb dX10_go_115 rfl hl (by decide) rfl (fun ls hl => ?_)
                refine lv_goto (tgt := 19) hx hb dX10_go_116 (by decide) ?_
                exact ih19 ((q19.1 + 1), 0, q98.2.1, q98.2.2, q24.2.2.1, q24.2.2.2.1, q24.2.2.2.2, q33.1, q33.2) (by rw [hq19, wl_X10_go1_19_s, (show st_X10_go1_19 v.1 v.2.2.2.2.2.2.1 v.2.2.2.2.2.2.2.1 v.2.2.2.2.2.2.2.2.2.2.2.2.1 v.2.2.2.2.2.2.2.2.2.2.2.2.2.1 v.2.2.2.2.2.2.2.2.2.2.2.2.2.2.1 q19 = Sum.inl ((q19.1 + 1), 0, q98.2.1, q98.2.2, q24.2.2.1, q24.2.2.2.1, q24.2.2.2.2, q33.1, q33.2) from by unfold st_X10_go1_19; rw [if_neg c_1, ← hq24]; unfold f_X10_go1_q24; rw [← hq33]; unfold f_X10_go1_q33; rw [if_pos c_5, if_pos c_10, if_neg c_13, ← hq98]; unfold f_X10_go1_q98; rw [if_neg c_17]; try rfl)]; try rfl) (adv_mg0 (adv_trans hx_2 hx_16) (by assumption) hm19) ⟨(adv_trans hx_2 hx_16).1, hx_4, Or.inl rfl⟩ _ _ _ hP hD hS (lv_sub hl [0, 2, 3, 4] rfl)
              · refine lv_iconst (v := 1) hx hb dX10_go_110 (by decide) ?_
                refine lv_goto (tgt := 115) hx hb dX10_go_111 (by decide) ?_
                refine lv_istore_n (lv' := [(3, .int 1), (4, .int q98.1), (2, .int (q19.1 + 1)), (0, .ref h), (1, .int 1)]) hx hb dX10_go_115 rfl hl (by decide) rfl (fun ls hl => ?_)
                refine lv_goto (tgt := 19) hx hb dX10_go_116 (by decide) ?_
                exact ih19 ((q19.1 + 1), 1, q98.2.1, q98.2.2, q24.2.2.1, q24.2.2.2.1, q24.2.2.2.2, q33.1, q33.2) (by rw [hq19, wl_X10_go1_19_s, (show st_X10_go1_19 v.1 v.2.2.2.2.2.2.1 v.2.2.2.2.2.2.2.1 v.2.2.2.2.2.2.2.2.2.2.2.2.1 v.2.2.2.2.2.2.2.2.2.2.2.2.2.1 v.2.2.2.2.2.2.2.2.2.2.2.2.2.2.1 q19 = Sum.inl ((q19.1 + 1), 1, q98.2.1, q98.2.2, q24.2.2.1, q24.2.2.2.1, q24.2.2.2.2, q33.1, q33.2) from by unfold st_X10_go1_19; rw [if_neg c_1, ← hq24]; unfold f_X10_go1_q24; rw [← hq33]; unfold f_X10_go1_q33; rw [if_pos c_5, if_pos c_10, if_neg c_13, ← hq98]; unfold f_X10_go1_q98; rw [if_pos c_17]; try rfl)]; try rfl) (adv_mg1 (adv_trans hx_2 hx_16) (by assumption) (by assumption) hm19) ⟨(adv_trans hx_2 hx_16).1, hx_4, Or.inr hpg2.2⟩ _ _ _ hP hD hS (lv_sub hl [0, 2, 3, 4] rfl)
  exact L19 163 (0, 1, 0, 0, v.2.2.2.2.2.2.2.2.2.2.2.2.1, v.2.2.2.2.2.2.2.2.2.2.2.2.2.1, v.2.2.2.2.2.2.2.2.2.2.2.2.2.2.1, 0, v.1) rfl mg_le ⟨⟨0, by decide, rfl⟩, hSI, Or.inr hPG⟩ _ _ _ hP hD hS (lv_sub hl [0, 1, 2, 3] rfl)

