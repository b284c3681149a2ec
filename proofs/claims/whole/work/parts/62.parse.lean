/-! the text read: the class's route against the reference's reading -/
def dg (c : Int32) : Int32 := if c < 48 then -1 else if 57 < c then -1 else c - 48
theorem dg_no {c Y : Int32} (m : Nat) (hm : m ≤ 9) (hY : Y = nI (48 + m)) (h : f_X10_in c 48 Y = 0) : dg c = -1 ∨ ¬ dg c < nI (m + 1) := by
  unfold dg
  by_cases c1 : c < 48
  · rw [if_pos c1]; exact Or.inl rfl
  · rw [if_neg c1]
    by_cases c2 : 57 < c
    · rw [if_pos c2]; exact Or.inl rfl
    · rw [if_neg c2]
      obtain ⟨a, ea, h1, h2⟩ := rg_lh 48 57 c1 c2 rfl rfl (by decide) (by decide)
      refine Or.inr ?_
      unfold f_X10_in at h
      rw [if_neg c1] at h
      by_cases c3 : Y < c
      · rw [hY, ea] at c3
        have k := (nlt_iff (nrf (48 + m)) (nrf a) (by omega) (by omega)).mp c3
        rw [show c - 48 = nI (a - 48) from nsub ea (nlit 48) h1]
        intro z
        have := (nlt_iff (nrf (a - 48)) (nrf (m + 1)) (by omega) (by omega)).mp z
        omega
      · rw [if_neg c3] at h; exact absurd h n10
theorem dg_yes {c Y : Int32} (m : Nat) (hm : m ≤ 9) (hY : Y = nI (48 + m)) (h : ¬ f_X10_in c 48 Y = 0) : ∃ n, n ≤ m ∧ c - 48 = nI n ∧ dg c = nI n ∧ c = nI (48 + n) := by
  unfold f_X10_in at h
  by_cases c1 : c < 48
  · rw [if_pos c1] at h; exact absurd rfl h
  · rw [if_neg c1] at h
    by_cases c3 : Y < c
    · rw [if_pos c3] at h; exact absurd rfl h
    · rw [hY] at c3
      obtain ⟨a, ea, h1, h2⟩ := rg_lh 48 (48 + m) c1 c3 rfl rfl (by decide) (by omega)
      have e1 : c - 48 = nI (a - 48) := nsub ea (nlit 48) h1
      refine ⟨a - 48, by omega, e1, ?_, by rw [ea]; congr 1; omega⟩
      unfold dg
      rw [if_neg c1, if_neg, e1]
      intro z
      rw [ea] at z
      have := (nlt_iff (nlit 57) (nrf a) (by omega) (by omega)).mp z
      omega
theorem dg_m1 {n : Nat} (h : n ≤ 9) : ¬ nI n = -1 := by
  rcases (show n = 0 ∨ n = 1 ∨ n = 2 ∨ n = 3 ∨ n = 4 ∨ n = 5 ∨ n = 6 ∨ n = 7 ∨ n = 8 ∨ n = 9 by omega) with rfl | rfl | rfl | rfl | rfl | rfl | rfl | rfl | rfl | rfl <;> decide
section PP
variable {v2 : TV} {tx : Nat → Int32} {L : Nat}
theorem sg_in (hL : L ≤ 80) (e : v2.2 = nI L) (ht : ∀ j, j < L → v2.1 j = tx j) {p : Nat} (hp : p < L) : f_X8_signAt v2 (nI p) = tx p := by
  unfold f_X8_signAt
  rw [if_neg (nI_pos (by omega)), e, if_neg (fun z => by have := (nle_iff (nrf L) (nrf p) (by omega) (by omega)).mp z; omega), nI_clm (by omega), ht p hp]
theorem sg_out (hL : L ≤ 80) (e : v2.2 = nI L) {p : Nat} (hp : L ≤ p) (h2 : p < 2 ^ 31) : f_X8_signAt v2 (nI p) = -1 := by
  unfold f_X8_signAt
  rw [if_neg (nI_pos h2), e, if_pos ((nle_iff (nrf L) (nrf p) (by omega) h2).mpr hp)]
theorem sign_in (hL : L ≤ 80) {p : Nat} (hp : p < L) (x y : Int32) : f_X10_sign tx (nI L) (nI p) 0 x y = if f_X10_in (tx p) x y = 0 then (tx p, nI p, 1) else (tx p, nI (p + 1), 0) := by
  unfold f_X10_sign
  have e1 : nI p + 1 = nI (p + 1) := nadd rfl (nlit 1)
  rw [if_neg (fun z => by have := (nle_iff (nrf L) (nrf p) (by omega) (by omega)).mp z; omega), if_pos rfl, nI_clm (by omega), Int32.add_zero, e1]
theorem sign_out (hL : L ≤ 80) {p : Nat} (hp : L ≤ p) (h2 : p < 2 ^ 31) {x : Int32} (hx : 0 < x) (y : Int32) : f_X10_sign tx (nI L) (nI p) 0 x y = (0, nI p, 1) := by
  unfold f_X10_sign
  rw [if_pos ((nle_iff (nrf L) (nrf p) (by omega) h2).mpr hp), if_pos rfl, if_pos (in_0 hx), Int32.add_zero]
theorem sign_bad (ty a x y : Int32) : (f_X10_sign tx ty a 1 x y).2 = (a, 1) := by
  unfold f_X10_sign
  rw [if_neg n10, if_neg n10, Int32.add_zero]
  split <;> rfl
theorem minutes_bad (ty a : Int32) : (f_X10_minutes tx ty a 1).2 = (a, 1) := by
  unfold f_X10_minutes f_X10_minutes_q5
  rw [sign_bad]
  show (Sum.elim _ id (st_X10_minutes_12 tx ty a 1 _ (_, a, 1))).2 = (a, 1)
  unfold st_X10_minutes_12
  rw [if_neg (show ¬ (1 : Int32) = 0 from n10)]
  rfl
theorem dig_in (hL : L ≤ 80) (e : v2.2 = nI L) (ht : ∀ j, j < L → v2.1 j = tx j) (A B C : Nat → Int32) (n : Int32) {p : Nat} (hp : p < L) : f_X5_digitAt (A, B, C, n, nI p) v2 = dg (tx p) := by
  unfold f_X5_digitAt dg
  dsimp only
  rw [sg_in hL e ht hp]
theorem dig_out (hL : L ≤ 80) (e : v2.2 = nI L) (A B C : Nat → Int32) (n : Int32) {p : Nat} (hp : L ≤ p) (h2 : p < 2 ^ 31) : f_X5_digitAt (A, B, C, n, nI p) v2 = -1 := by
  unfold f_X5_digitAt
  dsimp only
  rw [sg_out hL e hp h2, if_pos (by decide)]
theorem adds_eq (A B C : Nat → Int32) {n : Int32} (a : Int32) {c : Nat} (hc : c < 40) (hs : n = nI c) (x y w : Int32) : f_X5_adds (A, B, C, n, a) x y w = (1, (upd A c x, upd B c y, upd C c w, nI (c + 1))) := by
  have e1 : nI c + 1 = nI (c + 1) := nadd rfl (nlit 1)
  unfold f_X5_adds
  dsimp only
  rw [hs, if_pos (show nI c < 40 from (nlt_iff (nrf c) (nlit 40) (by omega) (by omega)).mpr hc), nI_clm (by omega), e1]
/-- a sign with a thing behind it -/
theorem rw_eq (hL : L ≤ 80) (e : v2.2 = nI L) (ht : ∀ j, j < L → v2.1 j = tx j) {v : OV} {p c : Nat} (hp : p < L) (hv : v.2.2.2.2 = nI p) (hc : c < 40) (hs : v.2.2.2.1 = nI c) (x : Int32) {y Y : Int32} (m : Nat) (hm : m ≤ 9) (hy : y = nI (m + 1)) (hY : Y = nI (48 + m)) {S : Int32 × Int32 × Int32} (hS : S = f_X10_sign tx (nI L) (nI p + 1) 0 48 Y) :
    ∃ p', p < p' ∧ p' ≤ L ∧ S.2.1 = nI p' ∧ (f_X5_readsWithThing v v2 x y).2.2.2.2.2 = nI p' ∧ ((S.2.2 = 1 ∧ (f_X5_readsWithThing v v2 x y).1 = 0) ∨ (S.2.2 = 0 ∧ f_X5_readsWithThing v v2 x y = (1, (upd v.1 c x, upd v.2.1 c (S.1 - 48), upd v.2.2.1 c 0, nI (c + 1), nI p')))) := by
  have e1 : nI p + 1 = nI (p + 1) := nadd rfl (nlit 1)
  have e2 : nI (p + 1) + 1 = nI (p + 2) := nI_1 (p + 1)
  rw [e1] at hS
  unfold f_X5_readsWithThing f_X5_readsWithThing_q46
  rw [hv, e1]
  rcases Nat.lt_or_ge (p + 1) L with h1 | h1
  · rw [dig_in hL e ht _ _ _ _ h1]
    rw [sign_in hL h1] at hS
    by_cases c1 : f_X10_in (tx (p + 1)) 48 Y = 0
    · rw [if_pos c1] at hS
      subst hS
      rcases dg_no m hm hY c1 with k | k
      · rw [if_pos k]
        exact ⟨p + 1, by omega, by omega, rfl, rfl, Or.inl ⟨rfl, rfl⟩⟩
      · by_cases c2 : dg (tx (p + 1)) = -1
        · rw [if_pos c2]
          exact ⟨p + 1, by omega, by omega, rfl, rfl, Or.inl ⟨rfl, rfl⟩⟩
        · rw [if_neg c2, if_neg (by rw [hy]; exact k)]
          exact ⟨p + 1, by omega, by omega, rfl, rfl, Or.inl ⟨rfl, rfl⟩⟩
    · rw [if_neg c1] at hS
      subst hS
      obtain ⟨n, hn, k1, k2, k3⟩ := dg_yes m hm hY c1
      rw [k2, if_neg (dg_m1 (by omega)), if_pos (by rw [hy]; exact (nlt_iff (nrf n) (nrf (m + 1)) (by omega) (by omega)).mpr (by omega)), adds_eq _ _ _ _ hc hs, e2]
      refine ⟨p + 2, by omega, by omega, rfl, rfl, Or.inr ⟨rfl, ?_⟩⟩
      show _ = (1, (upd v.1 c x, upd v.2.1 c (tx (p + 1) - 48), upd v.2.2.1 c 0, nI (c + 1), nI (p + 2)))
      rw [k1] <;> rfl
  · rw [dig_out hL e _ _ _ _ h1 (by omega), if_pos rfl]
    rw [sign_out hL h1 (by omega) (by decide)] at hS
    subst hS
    exact ⟨p + 1, by omega, by omega, rfl, rfl, Or.inl ⟨rfl, rfl⟩⟩
theorem sale_eq {a : Nat} (h1 : 1 ≤ a) (h2 : a ≤ 500) : (f_X9_isFuelOnSale (nI a) = 0 ↔ ¬ a % 5 = 0) ∧ (nI a - nI a / 5 * 5 = 0 ↔ a % 5 = 0) := by
  have e1 : nI a - nI a / 5 * 5 = nI (a % 5) := nrem (nrf a) (nlit 5) (by omega) (by decide) (by decide)
  have e2 : nI a - nI a / 5 * 5 = 0 ↔ a % 5 = 0 := by rw [e1]; exact neq_iff (nrf (a % 5)) (nlit 0) (by omega) (by omega)
  refine ⟨?_, e2⟩
  have k1 : nI a < 5 ↔ a < 5 := nlt_iff (nrf a) (nlit 5) (by omega) (by omega)
  have k2 : 500 < nI a ↔ 500 < a := nlt_iff (nlit 500) (nrf a) (by omega) (by omega)
  unfold f_X9_isFuelOnSale
  by_cases c1 : a < 5
  · rw [if_pos (k1.mpr c1)]; exact ⟨fun _ => by omega, fun _ => rfl⟩
  · rw [if_neg (fun z => c1 (k1.mp z)), if_neg (fun z => by have := k2.mp z; omega)]
    by_cases c3 : a % 5 = 0
    · rw [if_pos (e2.mpr c3)]; exact ⟨fun z => absurd z n10, fun z => absurd c3 z⟩
    · rw [if_neg (fun z => c3 (e2.mp z))]; exact ⟨fun _ => c3, fun _ => rfl⟩
def mOut (a : Nat) : Int32 := if a % 5 = 0 then 0 else 1
def mOutC (a : Nat) : Int32 := if a % 5 = 0 then nI a else -1
theorem exC {a : Nat} (h1 : 1 ≤ a) (h2 : a ≤ 500) (x : Int32) : (if f_X9_isFuelOnSale (nI a) = 0 then ((-1 : Int32), x) else (nI a, x)) = (mOutC a, x) := by
  have k := (sale_eq h1 h2).1
  unfold mOutC
  by_cases c : a % 5 = 0
  · rw [if_pos c, if_neg (fun z => k.mp z c)]
  · rw [if_neg c, if_pos (k.mpr c)]
theorem exC2 {α : Type} {a : Nat} (h1 : 1 ≤ a) (h2 : a ≤ 500) (x : Int32) : (if f_X9_isFuelOnSale (nI a) = 0 then (Sum.inr ((-1 : Int32), x) : α ⊕ (Int32 × Int32)) else Sum.inr (nI a, x)) = Sum.inr (mOutC a, x) := by
  have k := (sale_eq h1 h2).1
  unfold mOutC
  by_cases c : a % 5 = 0
  · rw [if_pos c, if_neg (fun z => k.mp z c)]
  · rw [if_neg c, if_pos (k.mpr c)]
theorem exM {α : Type} {a : Nat} (h1 : 1 ≤ a) (h2 : a ≤ 500) (x : Int32) : (if nI a - nI a / 5 * 5 = 0 then (Sum.inr (nI a, (x, 0)) : α ⊕ (Int32 × Int32 × Int32)) else Sum.inr (nI a, (x, 1))) = Sum.inr (nI a, x, mOut a) := by
  have k := (sale_eq h1 h2).2
  unfold mOut
  by_cases c : a % 5 = 0
  · rw [if_pos c, if_pos (k.mpr c)]
  · rw [if_neg c, if_neg (fun z => c (k.mp z))]
theorem min_loop (hL : L ≤ 80) (e : v2.2 = nI L) (ht : ∀ j, j < L → v2.1 j = tx j) (v : OV) (ap iw : Int32) (q5 : Int32 × Int32 × Int32) : ∀ n m p a, p ≤ L → L ≤ p + n → L < p + m → 1 ≤ a → a ≤ 500 → ∃ p' a', p ≤ p' ∧ p' ≤ L ∧ 1 ≤ a' ∧ a' ≤ 500 ∧ wl_X10_minutes_12 tx (nI L) ap iw q5 m (nI a, nI p, 0) = (nI a', nI p', mOut a') ∧ wl_X5_readMinutes_4 v v2 n (nI a, nI p) = (mOutC a', nI p') := by
  intro n
  induction n with
  | zero =>
    intro m p a hp hn hm h1 h5
    obtain ⟨m, rfl⟩ : ∃ k, m = k + 1 := ⟨m - 1, by omega⟩
    refine ⟨p, a, by omega, hp, h1, h5, ?_, ?_⟩
    · have eM : wl_X10_minutes_12 tx (nI L) ap iw q5 (m + 1) (nI a, nI p, 0) = Sum.elim (fun q9 => wl_X10_minutes_12 tx (nI L) ap iw q5 m q9) id (st_X10_minutes_12 tx (nI L) ap iw q5 (nI a, nI p, 0)) := rfl
      rw [eM]
      unfold st_X10_minutes_12
      dsimp only
      rw [if_pos (show (0 : Int32) = 0 from rfl), if_pos ((nle_iff (nrf L) (nrf p) (by omega) (by omega)).mpr (by omega)), exM h1 h5] <;> rfl
    · show (if f_X9_isFuelOnSale (nI a) = 0 then ((-1 : Int32), nI p) else (nI a, nI p)) = _
      exact exC h1 h5 _
  | succ n ih =>
    intro m p a hp hn hm h1 h5
    obtain ⟨m, rfl⟩ : ∃ k, m = k + 1 := ⟨m - 1, by omega⟩
    have eM : wl_X10_minutes_12 tx (nI L) ap iw q5 (m + 1) (nI a, nI p, 0) = Sum.elim (fun q9 => wl_X10_minutes_12 tx (nI L) ap iw q5 m q9) id (st_X10_minutes_12 tx (nI L) ap iw q5 (nI a, nI p, 0)) := rfl
    have eC : wl_X5_readMinutes_4 v v2 (n + 1) (nI a, nI p) = Sum.elim (fun q9 => wl_X5_readMinutes_4 v v2 n q9) id (st_X5_readMinutes_4 v v2 (nI a, nI p)) := rfl
    rw [eM, eC]
    unfold st_X10_minutes_12 st_X5_readMinutes_4
    dsimp only
    rw [if_pos (show (0 : Int32) = 0 from rfl)]
    rcases Nat.lt_or_ge p L with h | h
    · rw [if_neg (fun z => by have := (nle_iff (nrf L) (nrf p) (by omega) (by omega)).mp z; omega), dig_in hL e ht _ _ _ _ h, nI_clm (by omega)]
      by_cases c1 : f_X10_in (tx p) 48 57 = 0
      · rw [if_pos c1, exM h1 h5]
        have k : dg (tx p) = -1 := by
          unfold f_X10_in at c1
          unfold dg
          by_cases d1 : tx p < 48
          · rw [if_pos d1]
          · rw [if_neg d1] at c1 ⊢
            by_cases d2 : 57 < tx p
            · rw [if_pos d2]
            · rw [if_neg d2] at c1; exact absurd c1 n10
        rw [if_pos k, exC2 h1 h5]
        exact ⟨p, a, by omega, hp, h1, h5, rfl, rfl⟩
      · rw [if_neg c1]
        obtain ⟨d, hd, k1, k2, k3⟩ := dg_yes 9 (by omega) rfl c1
        have g1 : nI a * 10 + nI d = nI (a * 10 + d) := nadd (nmul rfl (nlit 10)) rfl
        have g2 : 10 * nI a + nI (48 + d) - 48 = nI (a * 10 + d) := by
          rw [show 10 * nI a + nI (48 + d) = nI (10 * a + (48 + d)) from nadd (nmul (nlit 10) rfl) rfl]
          rw [show nI (10 * a + (48 + d)) - 48 = nI (10 * a + (48 + d) - 48) from nsub rfl (nlit 48) (by omega)]
          congr 1; omega
        have g0 : ¬ nI (a * 10 + d) = 0 := fun z => by have := (neq_iff (nrf (a * 10 + d)) (nlit 0) (by omega) (by omega)).mp z; omega
        rw [k2, k3, g1, g2, if_neg (dg_m1 hd), if_neg g0]
        have k4 : 500 < nI (a * 10 + d) ↔ 500 < (a * 10 + d) := nlt_iff (nlit 500) (nrf (a * 10 + d)) (by omega) (by omega)
        by_cases c2 : 500 < a * 10 + d
        · rw [if_pos (k4.mpr c2), if_neg (Int32.not_le.mpr (k4.mpr c2)), exM h1 h5, exC2 h1 h5]
          exact ⟨p, a, by omega, hp, h1, h5, rfl, rfl⟩
        · rw [if_neg (fun z => c2 (k4.mp z)), if_pos (Int32.not_lt.mp (fun z => c2 (k4.mp z))), sign_in hL h, if_neg c1]
          unfold f_X10_minutes_q81
          dsimp only
          rw [k3, g2, show nI p + 1 = nI (p + 1) from nadd rfl (nlit 1)]
          obtain ⟨p', a', i1, i2, i3, i4, i5, i6⟩ := ih m (p + 1) (a * 10 + d) (by omega) (by omega) (by omega) (by omega) (by omega)
          exact ⟨p', a', by omega, i2, i3, i4, i5, i6⟩
    · rw [if_pos ((nle_iff (nrf L) (nrf p) (by omega) (by omega)).mpr h), dig_out hL e _ _ _ _ h (by omega), if_pos rfl, exM h1 h5, exC2 h1 h5]
      exact ⟨p, a, by omega, hp, h1, h5, rfl, rfl⟩
end PP
