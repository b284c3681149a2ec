/-! minutes, commands -/
section PP
variable {v2 : TV} {tx : Nat → Int32} {L : Nat}
theorem min_w1 (ty ap iw : Int32) (q5 : Int32 × Int32 × Int32) (n : Nat) (x a : Int32) : wl_X10_minutes_12 tx ty ap iw q5 (n + 1) (x, a, 1) = (x, a, 1) := by
  rw [wl_X10_minutes_12_s]
  unfold st_X10_minutes_12
  dsimp only
  rw [if_neg n10, Sum.elim_inr] <;> rfl
theorem in_4957 {c : Int32} (h : f_X10_in c 49 57 = 0) : dg c = -1 ∨ dg c = 0 := by
  unfold f_X10_in at h
  unfold dg
  by_cases d1 : c < 48
  · rw [if_pos d1]; exact Or.inl rfl
  · rw [if_neg d1]
    by_cases d2 : 57 < c
    · rw [if_pos d2]; exact Or.inl rfl
    · rw [if_neg d2]
      obtain ⟨a, ea, h1, h2⟩ := rg_lh 48 57 d1 d2 rfl rfl (by decide) (by decide)
      by_cases d3 : c < 49
      · rw [ea] at d3
        have := (nlt_iff (nrf a) (nlit 49) (by omega) (by omega)).mp d3
        have e48 : a = 48 := by omega
        rw [ea, e48]; exact Or.inr rfl
      · rw [if_neg d3, if_neg d2] at h; exact absurd h n10
theorem in_4857 {c : Int32} (h : ¬ f_X10_in c 49 57 = 0) : ∃ d, 1 ≤ d ∧ d ≤ 9 ∧ c - 48 = nI d ∧ dg c = nI d := by
  have c2 : ¬ f_X10_in c 48 57 = 0 := by
    unfold f_X10_in at h ⊢
    by_cases d1 : c < 49
    · rw [if_pos d1] at h; exact absurd rfl h
    · rw [if_neg d1] at h
      by_cases d2 : 57 < c
      · rw [if_pos d2] at h; exact absurd rfl h
      · rw [if_neg, if_neg d2]
        · exact n10
        · intro z
          obtain ⟨a, ea, h1, h2⟩ := rg_lh 49 57 d1 d2 rfl rfl (by decide) (by decide)
          rw [ea] at z
          have := (nlt_iff (nrf a) (nlit 48) (by omega) (by omega)).mp z
          omega
  obtain ⟨d, hd, k1, k2, k3⟩ := dg_yes 9 (by omega) rfl c2
  refine ⟨d, ?_, hd, k1, k2⟩
  rcases Nat.eq_zero_or_pos d with z | z
  · subst z
    unfold f_X10_in at h
    rw [k3, if_pos (show nI (48 + 0) < 49 by decide)] at h
    exact absurd rfl h
  · exact z
theorem minutes_eq (hL : L ≤ 80) (e : v2.2 = nI L) (ht : ∀ j, j < L → v2.1 j = tx j) {v : OV} {p : Nat} (hp : p ≤ L) (hv : v.2.2.2.2 = nI p) {M : Int32 × Int32 × Int32} (hM : M = f_X10_minutes tx (nI L) (nI p) 0) {C : Int32 × Int32} (hC : C = f_X5_readMinutes v v2) :
    ∃ p', p ≤ p' ∧ p' ≤ L ∧ M.2.1 = nI p' ∧ C.2 = nI p' ∧ ((M.2.2 = 1 ∧ C.1 = -1) ∨ (M.2.2 = 0 ∧ ¬ C.1 = -1 ∧ C.1 = M.1)) := by
  have s0 : f_X9_isFuelOnSale 0 = 0 := by decide
  unfold f_X5_readMinutes at hC
  rw [hv] at hC
  obtain ⟨n, hn⟩ : ∃ n, n = 79 := ⟨_, rfl⟩
  rw [show 80 = n + 1 by omega, wl_X5_readMinutes_4_s] at hC
  unfold st_X5_readMinutes_4 at hC
  dsimp only at hC
  unfold f_X10_minutes f_X10_minutes_q5 at hM
  obtain ⟨m, hm⟩ : ∃ m, m = 162 := ⟨_, rfl⟩
  rw [show 163 = m + 1 by omega] at hM
  rcases Nat.lt_or_ge p L with h | h
  · rw [dig_in hL e ht _ _ _ _ h] at hC
    rw [sign_in hL h] at hM
    by_cases c1 : f_X10_in (tx p) 49 57 = 0
    · rw [if_pos c1] at hM
      dsimp only at hM
      rw [min_w1] at hM
      have hC2 : C = (-1, nI p) := by
        by_cases c2 : dg (tx p) = -1
        · rw [if_pos c2, if_pos s0, Sum.elim_inr] at hC; exact hC
        · rw [if_neg c2] at hC
          have k : dg (tx p) = 0 := (in_4957 c1).resolve_left c2
          rw [if_pos (show (0 : Int32) * 10 + dg (tx p) = 0 by rw [k]; rfl), if_pos s0, Sum.elim_inr] at hC
          exact hC
      subst hM hC2
      exact ⟨p, by omega, hp, rfl, rfl, Or.inl ⟨rfl, rfl⟩⟩
    · rw [if_neg c1] at hM
      obtain ⟨d, hd1, hd, k1, k2⟩ := in_4857 c1
      dsimp only at hM
      rw [k1] at hM
      have g1 : (0 : Int32) * 10 + nI d = nI d := by rw [show (0 : Int32) * 10 + nI d = nI (0 * 10 + d) from nadd (nmul (nlit 0) (nlit 10)) rfl]; congr 1; omega
      have g0 : ¬ nI d = 0 := fun z => by have := (neq_iff (nrf d) (nlit 0) (by omega) (by omega)).mp z; omega
      rw [k2, if_neg (dg_m1 hd), g1, if_neg g0, if_pos (show nI d ≤ 500 from (nle_iff (nrf d) (nlit 500) (by omega) (by omega)).mpr (by omega)), show nI p + 1 = nI (p + 1) from nadd rfl (nlit 1), Sum.elim_inl] at hC
      obtain ⟨p', a', i1, i2, i3, i4, i5, i6⟩ := min_loop hL e ht v (nI p) 0 (tx p, nI (p + 1), 0) n (m + 1) (p + 1) d (by omega) (by omega) (by omega) hd1 (by omega)
      rw [i5] at hM
      rw [i6] at hC
      subst hM hC
      refine ⟨p', by omega, i2, rfl, rfl, ?_⟩
      unfold mOut mOutC
      by_cases c5 : a' % 5 = 0
      · rw [if_pos c5, if_pos c5]
        refine Or.inr ⟨rfl, ?_, rfl⟩
        intro z
        have k := nI_nn (n := a') (by omega)
        rw [show nI a' = -1 from z] at k
        exact absurd k (by decide)
      · rw [if_neg c5, if_neg c5]
        exact Or.inl ⟨rfl, rfl⟩
  · rw [dig_out hL e _ _ _ _ h (by omega), if_pos rfl, if_pos s0, Sum.elim_inr] at hC
    rw [sign_out hL h (by omega) (by decide)] at hM
    dsimp only at hM
    rw [min_w1] at hM
    subst hM
    have hC2 : C = (-1, nI p) := hC
    subst hC2
    exact ⟨p, by omega, hp, rfl, rfl, Or.inl ⟨rfl, rfl⟩⟩
/-- one command, whatever it is: where it ends, and what it is -/
def CMD (L p c : Nat) (v : OV) (R : Int32 × Int32 × Int32 × Int32 × Int32) (C : Int32 × OV) : Prop := ∃ p', p ≤ p' ∧ p' ≤ L ∧ R.1 = nI p' ∧ C.2.2.2.2.2 = nI p' ∧ ((R.2.1 = 1 ∧ C.1 = 0) ∨ (R.2.1 = 0 ∧ p < p' ∧ C = (1, (upd v.1 c R.2.2.1, upd v.2.1 c R.2.2.2.1, upd v.2.2.1 c R.2.2.2.2, nI (c + 1), nI p'))))
theorem sgn_eq (hL : L ≤ 80) (e : v2.2 = nI L) (ht : ∀ j, j < L → v2.1 j = tx j) {v : OV} {p : Nat} (hp : p ≤ L) (hv : v.2.2.2.2 = nI p) {x : Int32} (hx : 0 < x) {S : Int32 × Int32 × Int32} (hS : S = f_X10_sign tx (nI L) (nI p) 0 x x) :
    (S.2 = (nI p, 1) ∧ f_X5_readsSign v v2 x = (0, nI p)) ∨ (p < L ∧ S.2 = (nI (p + 1), 0) ∧ f_X5_readsSign v v2 x = (1, nI (p + 1))) := by
  unfold f_X5_readsSign
  rw [hv]
  rcases Nat.lt_or_ge p L with h | h
  · rw [sg_in hL e ht h]
    rw [sign_in hL h] at hS
    subst hS
    unfold f_X10_in
    by_cases c : tx p = x
    · rw [if_pos c, c, if_neg Int32.lt_irrefl, if_neg Int32.lt_irrefl, if_neg n10]
      exact Or.inr ⟨h, rfl, by rw [show nI p + 1 = nI (p + 1) from nadd rfl (nlit 1)]⟩
    · rw [if_neg c]
      refine Or.inl ⟨?_, rfl⟩
      by_cases c1 : tx p < x
      · rw [if_pos c1, if_pos rfl]
      · by_cases c2 : x < tx p
        · rw [if_neg c1, if_pos c2, if_pos rfl]
        · exact absurd (Int32.le_antisymm (Int32.not_lt.mp c2) (Int32.not_lt.mp c1)) c
  · rw [sg_out hL e h (by omega)]
    rw [sign_out hL h (by omega) hx] at hS
    subst hS
    refine Or.inl ⟨rfl, ?_⟩
    rw [if_neg]
    intro z
    rw [← z] at hx
    exact absurd hx (by decide)
theorem rf_eq (hL : L ≤ 80) (e : v2.2 = nI L) (ht : ∀ j, j < L → v2.1 j = tx j) {v : OV} {p c : Nat} (hp : p < L) (hv : v.2.2.2.2 = nI p) (hc : c < 40) (hs : v.2.2.2.1 = nI c) {ap iw : Int32} (h102 : tx ap.toNatClampNeg = 102) :
    CMD L p c v (f_X10_read_q159_12 tx (nI L) ap iw (f_X10_sign tx (nI L) (nI p + 1) 0 48 49)) (f_X5_readsFuel v v2) := by
  have e1 : nI p + 1 = nI (p + 1) := nadd rfl (nlit 1)
  have e2 : nI (p + 1) + 1 = nI (p + 2) := nI_1 (p + 1)
  unfold f_X10_read_q159_12 f_X10_read_q179_13 f_X10_read_q195_14 f_X5_readsFuel
  rw [hv, e1]
  -- the digit of the generator
  have hd : ((f_X10_sign tx (nI L) (nI (p + 1)) 0 48 49).2 = (nI (p + 1), 1) ∧ f_X9_isGenerator (f_X5_digitAt (v.1, v.2.1, v.2.2.1, v.2.2.2.1, nI (p + 1)) v2) = 0) ∨ (p + 1 < L ∧ (f_X10_sign tx (nI L) (nI (p + 1)) 0 48 49).2 = (nI (p + 2), 0) ∧ ¬ f_X9_isGenerator (f_X5_digitAt (v.1, v.2.1, v.2.2.1, v.2.2.2.1, nI (p + 1)) v2) = 0 ∧ f_X5_digitAt (v.1, v.2.1, v.2.2.1, v.2.2.2.1, nI (p + 1)) v2 = (f_X10_sign tx (nI L) (nI (p + 1)) 0 48 49).1 - 48) := by
    rcases Nat.lt_or_ge (p + 1) L with h1 | h1
    · rw [dig_in hL e ht _ _ _ _ h1, sign_in hL h1]
      by_cases c1 : f_X10_in (tx (p + 1)) 48 49 = 0
      · rw [if_pos c1]
        refine Or.inl ⟨rfl, ?_⟩
        unfold f_X9_isGenerator
        by_cases d1 : dg (tx (p + 1)) < 0
        · rw [if_pos d1]
        · rw [if_neg d1]
          rcases dg_no 1 (by omega) rfl c1 with k | k
          · rw [k] at d1; exact absurd (show (-1 : Int32) < 0 by decide) d1
          · rw [if_pos (show 2 ≤ dg (tx (p + 1)) from Int32.not_lt.mp k)]
      · rw [if_neg c1]
        obtain ⟨n, hn, k1, k2, k3⟩ := dg_yes 1 (by omega) rfl c1
        exact Or.inr ⟨h1, rfl, by rw [k2]; exact gen_of (by omega), by rw [k2]; exact k1.symm⟩
    · rw [dig_out hL e _ _ _ _ h1 (by omega), sign_out hL h1 (by omega) (by decide)]
      exact Or.inl ⟨rfl, by decide⟩
  generalize f_X10_sign tx (nI L) (nI (p + 1)) 0 48 49 = S at hd ⊢
  generalize hG : f_X5_digitAt (v.1, v.2.1, v.2.2.1, v.2.2.2.1, nI (p + 1)) v2 = G at hd ⊢
  rcases hd with ⟨a1, a2⟩ | ⟨h1, a1, a2, a3⟩
  · have q1 : S.2.1 = nI (p + 1) := by rw [a1]
    have q2 : S.2.2 = 1 := by rw [a1]
    unfold f_X5_readsFuel_q17
    rw [if_pos a2, q1, q2, hv, e1]
    rw [sign_bad]
    rw [minutes_bad]
    exact ⟨p + 1, by omega, by omega, rfl, rfl, Or.inl ⟨rfl, rfl⟩⟩
  · have q1 : S.2.1 = nI (p + 2) := by rw [a1]
    have q2 : S.2.2 = 0 := by rw [a1]
    unfold f_X5_readsFuel_q17
    rw [if_neg a2, q1, q2, hv, e1, e2]
    unfold f_X5_readsFuel_q39
    rcases sgn_eq hL e ht (v := (v.1, v.2.1, v.2.2.1, v.2.2.2.1, nI (p + 2))) (p := p + 2) (by omega) rfl (x := 58) (by decide) rfl with ⟨b1, b2⟩ | ⟨h2, b1, b2⟩
    · rw [b2, b1, if_pos (show ((0 : Int32), nI (p + 2)).1 = 0 from rfl)]
      rw [minutes_bad]
      exact ⟨p + 2, by omega, by omega, rfl, rfl, Or.inl ⟨rfl, rfl⟩⟩
    · rw [b2, b1, if_neg (show ¬ ((1 : Int32), nI (p + 2 + 1)).1 = 0 from n10)]
      unfold f_X5_readsFuel_q49
      obtain ⟨p', i1, i2, i3, i4, i5⟩ := minutes_eq hL e ht (v := (v.1, v.2.1, v.2.2.1, v.2.2.2.1, nI (p + 2 + 1))) (p := p + 2 + 1) (by omega) rfl rfl rfl
      dsimp only
      generalize f_X10_minutes tx (nI L) (nI (p + 2 + 1)) 0 = M at i3 i5 ⊢
      generalize f_X5_readMinutes (v.1, v.2.1, v.2.2.1, v.2.2.2.1, nI (p + 2 + 1)) v2 = K at i4 i5 ⊢
      rcases i5 with ⟨j1, j2⟩ | ⟨j1, j2, j3⟩
      · rw [if_pos j2]
        exact ⟨p', by omega, i2, i3, i4, Or.inl ⟨j1, rfl⟩⟩
      · rw [if_neg j2, hv, e1, hG, adds_eq _ _ _ _ hc hs]
        unfold f_X5_readsFuel_q63
        rw [if_neg (show ¬ (1 : Int32) = 0 from n10)]
        refine ⟨p', by omega, i2, i3, i4, Or.inr ⟨j1, by omega, ?_⟩⟩
        dsimp only
        rw [i4, a3, j3, h102]
theorem read_eq (hL : L ≤ 80) (e : v2.2 = nI L) (ht : ∀ j, j < L → v2.1 j = tx j) {v : OV} {p c : Nat} (hp : p ≤ L) (hv : v.2.2.2.2 = nI p) (hc : c < 40) (hs : v.2.2.2.1 = nI c) : CMD L p c v (f_X10_read tx (nI L) (nI p) 0) (f_X5_readsCommand v v2) := by
  have e1 : nI p + 1 = nI (p + 1) := nadd rfl (nlit 1)
  have bad : ∀ R : Int32 × Int32 × Int32 × Int32 × Int32, R.1 = nI p → R.2.1 = 1 → CMD L p c v R (0, v) := fun R h1 h2 => ⟨p, by omega, hp, h1, hv, Or.inl ⟨h2, rfl⟩⟩
  unfold f_X10_read f_X5_readsCommand
  rw [hv]
  rcases Nat.lt_or_ge p L with h | h
  · rw [if_neg (fun z => by have := (nle_iff (nrf L) (nrf p) (by omega) (by omega)).mp z; omega), if_pos (show (0 : Int32) = 0 from rfl), sg_in hL e ht h, nI_clm (by omega)]
    have thing : ∀ (m : Nat) (y Y : Int32), m ≤ 9 → y = nI (m + 1) → Y = nI (48 + m) → ∀ R : Int32 × Int32 × Int32 × Int32 × Int32, R = ((f_X10_sign tx (nI L) (nI p + 1) 0 48 Y).2.1, (f_X10_sign tx (nI L) (nI p + 1) 0 48 Y).2.2, tx p, (f_X10_sign tx (nI L) (nI p + 1) 0 48 Y).1 - 48, 0) → CMD L p c v R ((f_X5_readsWithThing v v2 (tx p) y).1, (f_X5_readsWithThing v v2 (tx p) y).2) := by
      intro m y Y hm hy hY R hR
      obtain ⟨p', i1, i2, i3, i4, i5⟩ := rw_eq hL e ht h hv hc hs (tx p) m hm hy hY rfl
      subst hR
      generalize f_X10_sign tx (nI L) (nI p + 1) 0 48 Y = S at i3 i5 ⊢
      generalize f_X5_readsWithThing v v2 (tx p) y = C at i4 i5 ⊢
      rcases i5 with ⟨j1, j2⟩ | ⟨j1, j2⟩
      · exact ⟨p', by omega, i2, i3, i4, Or.inl ⟨j1, j2⟩⟩
      · exact ⟨p', by omega, i2, i3, i4, Or.inr ⟨j1, i1, j2⟩⟩
    have alone : ∀ C : Int32 × (Nat → Int32) × (Nat → Int32) × (Nat → Int32) × Int32, C = f_X5_adds (v.1, v.2.1, v.2.2.1, v.2.2.2.1, nI p + 1) (tx p) 0 0 → CMD L p c v (nI p + 1, 0, tx p, 0, 0) (C.1, (C.2.1, C.2.2.1, C.2.2.2.1, C.2.2.2.2, v.2.2.2.2 + 1)) := by
      intro C hC
      rw [adds_eq _ _ _ _ hc hs] at hC
      subst hC
      rw [hv, e1]
      exact ⟨p + 1, by omega, by omega, rfl, rfl, Or.inr ⟨rfl, by omega, rfl⟩⟩
    have l1 : ∀ {a b : Int32}, tx p = a → ¬ a = b → ¬ tx p = b := fun h1 h2 h3 => h2 (h1.symm.trans h3)
    by_cases c1 : tx p = 43
    · rw [if_neg (l1 c1 (by decide)), if_pos c1, if_pos c1]
      exact thing 9 10 57 (by omega) rfl rfl _ (by unfold f_X10_read_q159_9; rw [nI_clm (by omega)])
    · by_cases c2 : tx p = 45
      · rw [if_neg (l1 c2 (by decide)), if_neg c1, if_pos c2, if_neg c1, if_pos c2]
        exact thing 9 10 57 (by omega) rfl rfl _ (by unfold f_X10_read_q159_10; rw [nI_clm (by omega)])
      · by_cases c3 : tx p = 118
        · rw [if_pos c3, if_neg c1, if_neg c2, if_neg (l1 c3 (by decide)), if_neg (l1 c3 (by decide)), if_neg (l1 c3 (by decide)), if_neg (l1 c3 (by decide)), if_pos c3]
          exact thing 4 5 52 (by omega) rfl rfl _ (by unfold f_X10_read_q159_8; rw [nI_clm (by omega)])
        · by_cases c4 : tx p = 103
          · rw [if_neg c3, if_neg c1, if_neg c2, if_pos c4, if_neg c1, if_neg c2, if_neg (l1 c4 (by decide)), if_neg (l1 c4 (by decide)), if_pos c4]
            exact thing 1 2 49 (by omega) rfl rfl _ (by unfold f_X10_read_q159_11; rw [nI_clm (by omega)])
          · by_cases c5 : tx p = 102
            · rw [if_neg c3, if_neg c1, if_neg c2, if_neg c4, if_pos c5, if_neg c1, if_neg c2, if_neg (l1 c5 (by decide)), if_pos c5]
              have key := rf_eq hL e ht h hv hc hs (ap := nI p) (iw := 0) (by rw [nI_clm (by omega)]; exact c5)
              generalize f_X5_readsFuel v v2 = K at key ⊢
              exact key
            · by_cases c6 : tx p = 115
              · rw [if_neg c3, if_neg c1, if_neg c2, if_neg c4, if_neg c5, if_pos c6, if_neg c1, if_neg c2, if_neg (l1 c6 (by decide)), if_neg c5, if_neg c4, if_pos c6]
                exact alone (f_X5_adds (v.1, v.2.1, v.2.2.1, v.2.2.2.1, nI p + 1) (tx p) 0 0) rfl
              · by_cases c7 : tx p = 100
                · rw [if_neg c3, if_neg c1, if_neg c2, if_neg c4, if_neg c5, if_neg c6, if_pos c7, if_neg c1, if_neg c2, if_pos c7]
                  exact alone (f_X5_adds (v.1, v.2.1, v.2.2.1, v.2.2.2.1, nI p + 1) (tx p) 0 0) rfl
                · rw [if_neg c3, if_neg c1, if_neg c2, if_neg c4, if_neg c5, if_neg c6, if_neg c7, if_neg c1, if_neg c2, if_neg c7, if_neg c5, if_neg c4, if_neg c6, if_neg c3]
                  unfold f_X10_read_q159_15
                  rw [sign_bad]
                  exact bad _ (by show nI p + 0 = nI p; exact Int32.add_zero _) rfl
  · rw [if_pos ((nle_iff (nrf L) (nrf p) (by omega) (by omega)).mpr h), if_pos (show (0 : Int32) = 0 from rfl), sg_out hL e h (by omega)]
    rw [if_neg (by decide), if_neg (by decide), if_neg (by decide), if_neg (by decide), if_neg (by decide), if_neg (by decide), if_neg (by decide)]
    unfold f_X10_read_q159_1
    rw [sign_bad]
    exact bad _ (by show nI p + 0 = nI p; exact Int32.add_zero _) rfl
end PP
