/-! perform -/
def OB (N : Nat) (q : Int32 × SV) (D : Int32 × (Nat → Int32)) : Prop := ((0 ≤ q.1 ∨ q.1 = -10000005) ∧ D.1 = 0 ∧ RS (N + 1) q.2 D.2) ∨ (¬ 0 ≤ q.1 ∧ ¬ q.1 = -10000005 ∧ D.1 = q.1 ∧ ¬ D.1 = 0)
theorem obey_of {N : Nat} {v : SV} {s : Nat → Int32} (h : RS N v s) {q : Int32 × SV} {f : Int32} {d : Int32 × (Nat → Int32)} (o : OPR N v q f d) {le on tw : Int32} (hw : f_X10_wrong s le on tw = f) (hd : f_X10_does_q6 s le on tw 0 = (0, d.2)) : OB N q (f_X10_does s le on tw) := by
  unfold f_X10_does
  rw [hw]
  rcases o with ⟨o1, o2, o3⟩ | ⟨o1, o2, o3, o4⟩
  · unfold f_X10_does_q6
    rw [if_neg o1]
    by_cases c : f = -10000005
    · rw [if_pos c]
      exact Or.inl ⟨Or.inr (by rw [o2, c]), rfl, by rw [o3]; exact rs_mono h (by omega)⟩
    · rw [if_neg c]
      refine Or.inr ⟨by rw [o2]; exact o1, by rw [o2]; exact c, o2.symm, fun z => ?_⟩
      have z2 : f = 0 := z
      rw [z2] at o1
      exact o1 y_0
  · rw [o1, hd]
    exact Or.inl ⟨Or.inl (by rw [o3]; exact o2), rfl, o4⟩
theorem obey_eq {N : Nat} {v : SV} {s : Nat → Int32} (h : RS N v s) (hN : N < 2 ^ 30) (o : OV) (kc : Int32) (i : Nat) (ok : ONEOK (o.1 i) (o.2.1 i)) : OB N (f_X5_obeyedBy o v kc i) (f_X10_does s (o.1 i) (o.2.1 i) (o.2.2.1 i)) := by
  unfold f_X5_obeyedBy
  generalize o.1 i = le at ok ⊢
  generalize o.2.1 i = on at ok ⊢
  generalize o.2.2.1 i = tw
  by_cases c1 : le = 43
  · subst c1
    rw [if_pos rfl]
    show OB N (f_X7_carryReel v on 1) _
    have hd : f_X10_does_q6 s 43 on tw 0 = (0, (f_X10_moves s (f_X10_of on 0) (5 * on.toNatClampNeg + 0) 1).2) := by
      unfold f_X10_does_q6 f_X10_does_q75
      rw [if_pos y_0, if_neg (by decide), if_pos rfl]
    by_cases c : f_X10_isReel s on = 0
    · have c9 : f_X4_isThere v.1 on = 0 := by rw [there_eq h.1]; exact c
      refine obey_of h (f := -10000001) (d := f_X10_moves s (f_X10_of on 0) (5 * on.toNatClampNeg + 0) 1) (Or.inl ⟨n_unk, ?_, ?_⟩) ?_ hd
      · unfold f_X7_carryReel; rw [if_pos c9]
      · unfold f_X7_carryReel; rw [if_pos c9]
      · unfold f_X10_wrong; rw [if_pos rfl, if_pos c]
    · obtain ⟨j, ej, hj, hg⟩ := isThere_nat (v := v.1) (x := on) (by rw [there_eq h.1]; exact c)
      subst ej
      rw [nI_clm (by omega)] at hd
      refine obey_of h (reel_eq h hj hg (f_X10_of (nI j) 0) 1) ?_ hd
      unfold f_X10_wrong f_X10_wrong_q119
      rw [if_pos rfl, if_neg c, nI_clm (by omega)]
  by_cases c2 : le = 45
  · subst c2
    rw [if_neg (by decide), if_pos rfl]
    show OB N (f_X7_carryReel v on 0) _
    have hd : f_X10_does_q6 s 45 on tw 0 = (0, (f_X10_moves s (f_X10_of on 0) (5 * on.toNatClampNeg + 0) 0).2) := by
      unfold f_X10_does_q6 f_X10_does_q75_7
      rw [if_pos y_0, if_neg (by decide), if_neg (by decide), if_pos rfl]
    by_cases c : f_X10_isReel s on = 0
    · have c9 : f_X4_isThere v.1 on = 0 := by rw [there_eq h.1]; exact c
      refine obey_of h (f := -10000001) (d := f_X10_moves s (f_X10_of on 0) (5 * on.toNatClampNeg + 0) 0) (Or.inl ⟨n_unk, ?_, ?_⟩) ?_ hd
      · unfold f_X7_carryReel; rw [if_pos c9]
      · unfold f_X7_carryReel; rw [if_pos c9]
      · unfold f_X10_wrong; rw [if_neg (by decide), if_pos rfl, if_pos c]
    · obtain ⟨j, ej, hj, hg⟩ := isThere_nat (v := v.1) (x := on) (by rw [there_eq h.1]; exact c)
      subst ej
      rw [nI_clm (by omega)] at hd
      refine obey_of h (reel_eq h hj hg (f_X10_of (nI j) 0) 0) ?_ hd
      unfold f_X10_wrong f_X10_wrong_q119_1
      rw [if_neg (by decide), if_pos rfl, if_neg c, nI_clm (by omega)]
  rw [if_neg c1, if_neg c2]
  by_cases c3 : le = 102
  · subst c3
    rw [if_pos rfl]
    show OB N (f_X7_buyFuel v on tw) _
    refine obey_of h (fuel_eq h on tw) ?_ ?_
    · unfold f_X10_wrong f_X10_wrong_q175
      rw [if_neg c1, if_neg c2, if_pos rfl]
    · unfold f_X10_does_q6 f_X10_does_q142
      rw [if_pos y_0, if_neg (by decide), if_neg c1, if_neg c2, if_neg (by decide), if_pos rfl]
  rw [if_neg c3]
  by_cases c4 : le = 103
  · subst c4
    rw [if_pos rfl]
    obtain ⟨n, hn, en⟩ := ok.2 rfl
    subst en
    have kp := pl_van (h.2.1.1 n hn).2.2
    rw [← (h.2.1.1 n hn).1] at kp
    by_cases c : v.2.1.1 n = -1
    · have e1 : f_X5_obeyedBy_q94 o v kc i (f_X7_carryGeneratorOver v (nI n)) = f_X7_carryGenerator v (nI n) 0 := by
        unfold f_X5_obeyedBy_q94 f_X7_carryGeneratorOver f_X7_carryGeneratorOver_q29 f_X2_placeOf
        rw [if_neg (gen_of hn), nI_clm (by omega), if_pos c]
      rw [e1]
      refine obey_of h (gen_eqv h hn (50 + 2 * nI n) 0) ?_ ?_
      · unfold f_X10_wrong f_X10_wrong_q162
        rw [if_neg c1, if_neg c2, if_neg c3, if_pos rfl, nI_clm (by omega), if_pos (kp.mpr c)]
      · unfold f_X10_does_q6 f_X10_does_q121
        rw [if_pos y_0, if_neg (by decide), if_neg c1, if_neg c2, if_pos rfl, nI_clm (by omega), if_pos (kp.mpr c)]
    · have e1 : f_X5_obeyedBy_q94 o v kc i (f_X7_carryGeneratorOver v (nI n)) = f_X7_carryGenerator v (nI n) 1 := by
        unfold f_X5_obeyedBy_q94 f_X7_carryGeneratorOver f_X7_carryGeneratorOver_q29_1 f_X2_placeOf
        rw [if_neg (gen_of hn), nI_clm (by omega), if_neg c]
      rw [e1]
      refine obey_of h (gen_eqv h hn (50 + 2 * nI n) 1) ?_ ?_
      · unfold f_X10_wrong f_X10_wrong_q162_4
        rw [if_neg c1, if_neg c2, if_neg c3, if_pos rfl, nI_clm (by omega), if_neg (fun z => c (kp.mp z))]
      · unfold f_X10_does_q6 f_X10_does_q121_6
        rw [if_pos y_0, if_neg (by decide), if_neg c1, if_neg c2, if_pos rfl, nI_clm (by omega), if_neg (fun z => c (kp.mp z))]
  rw [if_neg c4]
  by_cases c5 : le = 115
  · subst c5
    rw [if_pos rfl]
    obtain ⟨b, hb, e1, e2⟩ := h.2.2.2.2.2.1
    show OB N (f_X7_showIn v v.2.2.2.2.2.1) _
    rw [e1]
    refine obey_of h (show_eq h hN hb) ?_ ?_
    · unfold f_X10_wrong whF
      rw [if_neg c1, if_neg c2, if_neg c3, if_neg c4, if_pos rfl, e2, nI_clm (by omega)]
    · unfold f_X10_does_q6 f_X10_does_q162
      rw [if_pos y_0, if_neg (by decide), if_neg c1, if_neg c2, if_neg c4, if_neg c3, if_pos rfl, e2, nI_clm (by omega)]
  rw [if_neg c5]
  by_cases c6 : le = 118
  · subst c6
    rw [if_pos rfl]
    obtain ⟨n, hn, en⟩ := ok.1 rfl
    subst en
    show OB N (f_X7_driveTo v (nI n)) _
    refine obey_of h (drive_eq h hn) ?_ ?_
    · unfold f_X10_wrong
      rw [if_neg c1, if_neg c2, if_neg c3, if_neg c4, if_neg c5, if_pos rfl]
    · unfold f_X10_does_q6 f_X10_does_q37
      rw [if_pos y_0, if_pos rfl]
  rw [if_neg c6]
  show OB N (f_X7_beginNextDay v) _
  refine obey_of h (day_eq h) ?_ ?_
  · unfold f_X10_wrong
    rw [if_neg c1, if_neg c2, if_neg c3, if_neg c4, if_neg c5, if_neg c6]
  · unfold f_X10_does_q6 f_X10_does_q169
    rw [if_pos y_0, if_neg c6, if_neg c1, if_neg c2, if_neg c4, if_neg c3, if_neg c5]
section PQ
variable {tx : Nat → Int32} {L : Nat}
theorem go1_fin (s0 : Nat → Int32) (ty le on tw cnt a w l o t f : Int32) (s : Nat → Int32) (m : Nat) : wl_X10_go1_19 s0 tx ty le on tw (m + 1) (cnt, 0, a, w, l, o, t, f, s) = (cnt, s, a, w, l, o, t, f) := by
  rw [wl_X10_go1_19_s]
  unfold st_X10_go1_19
  dsimp only
  rw [if_pos (show (0 : Int32) = 0 from rfl)] <;> rfl
theorem go1_go (s0 : Nat → Int32) (ty le on tw cnt a w l o t f : Int32) (s : Nat → Int32) (m : Nat) : wl_X10_go1_19 s0 tx ty le on tw (m + 1) (cnt, 1, a, w, l, o, t, f, s) = Sum.elim (fun q9 => wl_X10_go1_19 s0 tx ty le on tw m q9) id (f_X10_go1_q24 s0 tx ty le on tw (cnt, 1, a, w, l, o, t, f, s) (f_X10_read tx ty a w)) := by
  rw [wl_X10_go1_19_s]
  unfold st_X10_go1_19
  dsimp only
  rw [if_neg n10]
theorem perf_loop (hL : L ≤ 80) (V : PV) (q8 : Int32 × OV) (q30 : SV) {K : Nat} (hK : f_X5_size q8.2 = nI K) (h40 : K ≤ 40) (s0 : Nat → Int32) (le on tw : Int32) : ∀ n i p N (v : SV) (s : Nat → Int32), i + n = K → RS N v s → N + n < 2 ^ 30 → PA tx L q8.2.1 q8.2.2.1 q8.2.2.2.1 n i p → ∀ (m : Nat) (l o t : Int32), n + 1 ≤ m → ∀ (G : Int32 × (Nat → Int32) × Int32 × Int32 × Int32 × Int32 × Int32 × Int32) (Z : Int32 × PV), G = wl_X10_go1_19 s0 tx (nI L) le on tw m (nI i, 1, nI p, 0, l, o, t, 0, s) → Z = wl_X9_perform_35 V q8 q30 n v →
    (∃ j a, G.1 = nI j ∧ G.2.2.2.2.2.2.2 = a ∧ ¬ 0 ≤ a ∧ Z = (-10000004, (q30, q30, V.2.2.1, V.2.2.2.1, V.2.2.2.2.1, q8.2, V.2.2.2.2.2.2.1, 1, nI j, a))) ∨ (∃ v', G.1 = nI K ∧ G.2.2.2.2.2.2.2 = 0 ∧ RS (N + n) v' G.2.1 ∧ Z = wl_X9_perform_35 V q8 q30 0 v') := by
  intro n
  induction n with
  | zero => intro i p N v s _ _ _ hPA; exact absurd hPA (by intro z; exact z)
  | succ n ih =>
    intro i p N v s hi h hN hPA m l o t hm G Z hG hZ
    obtain ⟨m, rfl⟩ : ∃ k, m = k + 1 + 1 := ⟨m - 2, by omega⟩
    obtain ⟨p', h1, h2, hR, h4⟩ := hPA
    have eK : (f_X5_size q8.2).toNatClampNeg = K := by rw [hK]; exact nI_clm (by omega)
    rw [wl_X9_perform_35_s] at hZ
    unfold st_X9_perform_35 f_X9_perform_q55 at hZ
    rw [eK, show K - (n + 1) = i by omega] at hZ
    have ok := read_ok (tx := tx) (ty := nI L) (ap := nI p) (iw := 0) (by rw [hR])
    rw [hR] at ok
    have ob := obey_eq h (by omega) q8.2 (nI i) i ok
    rw [go1_go, hR] at hG
    unfold f_X10_go1_q24 f_X10_go1_q33 at hG
    dsimp only at hG
    obtain ⟨D, hD⟩ : ∃ D, f_X10_does s (q8.2.1 i) (q8.2.2.1 i) (q8.2.2.2.1 i) = D := ⟨_, rfl⟩
    obtain ⟨O, hO⟩ : ∃ O, f_X5_obeyedBy q8.2 v (nI i) i = O := ⟨_, rfl⟩
    rw [hD] at hG ob
    rw [hO] at hZ ob
    have kl : nI L ≤ nI p' ↔ L ≤ p' := nle_iff (nrf L) (nrf p') (by omega) (by omega)
    rcases ob with ⟨b1, b2, b3⟩ | ⟨b1, b2, b3, b4⟩
    · have hZ2 : Z = wl_X9_perform_35 V q8 q30 n O.2 := by
        by_cases c : 0 ≤ O.1
        · rw [if_pos c] at hZ; exact hZ
        · rw [if_neg c, if_pos (by rcases b1 with b1 | b1; exact absurd b1 c; exact b1)] at hZ; exact hZ
      rw [if_pos b2, if_pos (show (0 : Int32) = 0 from rfl)] at hG
      rcases h4 with ⟨n0, pL⟩ | ⟨pl, hS, hPA⟩
      · rw [if_pos (kl.mpr (by omega))] at hG
        have hG2 : G = wl_X10_go1_19 s0 tx (nI L) le on tw (m + 1) (nI i + 1, 0, nI p', 0, q8.2.1 i, q8.2.2.1 i, q8.2.2.2.1 i, D.1, D.2) := hG
        rw [go1_fin] at hG2
        subst n0
        refine Or.inr ⟨O.2, ?_, ?_, ?_, hZ2⟩
        · rw [hG2]; show nI i + 1 = nI K; rw [show K = i + 1 by omega]; exact nadd rfl (nlit 1)
        · rw [hG2]; exact b2
        · rw [hG2]; exact b3
      · rw [if_neg (fun z => by have := kl.mp z; omega)] at hG
        unfold f_X10_go1_q98 at hG
        have g1 : (f_X10_sign tx (nI L) (nI p') 0 44 44).2.1 = nI (p' + 1) := by rw [hS]
        have g2 : (f_X10_sign tx (nI L) (nI p') 0 44 44).2.2 = 0 := by rw [hS]
        rw [g1, g2, if_pos (show (0 : Int32) = 0 from rfl)] at hG
        have hG2 : G = wl_X10_go1_19 s0 tx (nI L) le on tw (m + 1) (nI i + 1, 1, nI (p' + 1), 0, q8.2.1 i, q8.2.2.1 i, q8.2.2.2.1 i, D.1, D.2) := hG
        rw [b2, show nI i + 1 = nI (i + 1) from nadd rfl (nlit 1)] at hG2
        rcases ih (i + 1) (p' + 1) (N + 1) O.2 D.2 (by omega) b3 (by omega) hPA (m + 1) _ _ _ (by omega) G Z hG2 hZ2 with y | ⟨v', y1, y2, y3, y4⟩
        · exact Or.inl y
        · exact Or.inr ⟨v', y1, y2, rs_mono y3 (by omega), y4⟩
    · rw [if_neg b1, if_neg b2] at hZ
      unfold f_X9_perform_q77 f_X9_perform_q83 at hZ
      rw [eK, show K - (n + 1) = i by omega, copy_eq] at hZ
      rw [if_neg b4, if_pos (show (0 : Int32) = 0 from rfl)] at hG
      have hG2 : G = wl_X10_go1_19 s0 tx (nI L) le on tw (m + 1) (nI i + 0, 0, nI p', 0, q8.2.1 i, q8.2.2.1 i, q8.2.2.2.1 i, D.1, D.2) := hG
      rw [go1_fin] at hG2
      refine Or.inl ⟨i, O.1, ?_, ?_, b1, ?_⟩
      · rw [hG2]; exact Int32.add_zero _
      · rw [hG2]; exact b3
      · rw [hZ]; rfl
end PQ
def mvP (w : MV) (u : (Nat → Int32) × (Nat → Int32) × (Nat → Int32) × Int32 × Int32 × Int32 × Int32 × Int32 × Int32 × Int32 × Int32 × Int32) : MV := (u.1, u.2.1, u.2.2.1, u.2.2.2.1, w.2.2.2.2.1, w.2.2.2.2.2.1, w.2.2.2.2.2.2.1, w.2.2.2.2.2.2.2.1, u.2.2.2.2)
theorem perform_m {N : Nat} {v : PV} {w : MV} (R : REL N v w) (hN : N + 40 < 2 ^ 30) : (f_X9_perform v).1 = (f_X10_perform w).1 ∧ REL (N + 41) (f_X9_perform v).2 (mvP w (f_X10_perform w).2) := by
  obtain ⟨r1, r2, ⟨L, hL, e1, e2, e3⟩, r4, r5⟩ := R
  have R4 := kp_mono r4 (show N ≤ N + 41 by omega)
  have R2 := hr_mono r2 (show N ≤ N + 41 by omega)
  have R3 : TX v.2.2.2.2.1 w.2.2.2.2.2.2.1 w.2.2.2.2.2.2.2.1 := ⟨L, hL, e1, e2, e3⟩
  unfold f_X9_perform f_X10_perform
  obtain ⟨Z, hZ⟩ : ∃ Z, Z = f_X5_faultOf v.2.2.2.2.2.1 v.2.2.2.2.1 := ⟨_, rfl⟩
  obtain ⟨G, hG⟩ : ∃ G, G = f_X10_go0 w.2.2.2.2.2.2.1 w.2.2.2.2.2.2.2.1 w.2.2.2.2.2.2.2.2.2.2.2.2.1 w.2.2.2.2.2.2.2.2.2.2.2.2.2.1 w.2.2.2.2.2.2.2.2.2.2.2.2.2.2.1 := ⟨_, rfl⟩
  rw [← hZ, ← hG]
  have hZ2 : Z = wl_X5_faultOf_12 v.2.2.2.2.2.1 v.2.2.2.2.1 40 (v.2.2.2.2.2.1.1, v.2.2.2.2.2.1.2.1, v.2.2.2.2.2.1.2.2.1, nI 0, nI 0) := hZ
  rw [e2] at hG
  have hG2 : G = wl_X10_go0_19 w.2.2.2.2.2.2.1 (nI L) w.2.2.2.2.2.2.2.2.2.2.2.2.1 w.2.2.2.2.2.2.2.2.2.2.2.2.2.1 w.2.2.2.2.2.2.2.2.2.2.2.2.2.2.1 163 (0, 1, nI 0, 0, w.2.2.2.2.2.2.2.2.2.2.2.2.1, w.2.2.2.2.2.2.2.2.2.2.2.2.2.1, w.2.2.2.2.2.2.2.2.2.2.2.2.2.2.1) := hG
  obtain ⟨p2, hp2, g1, k⟩ := parse_loop hL e1 e3 _ _ _ _ 40 0 0 _ (by omega) (by omega) (by omega) rfl rfl 163 _ _ _ _ (by omega) Z G hZ2 hG2
  unfold f_X9_perform_q8 f_X10_perform_q2
  rcases k with ⟨k1, k2⟩ | ⟨k1, k2, K, k3, k4, k5, -⟩
  · have nm : ¬ Z.1 = -1 := by
      rw [k1]; intro z
      have q := nI_nn (n := p2) (by omega)
      rw [z] at q
      exact absurd q (by decide)
    rw [if_neg nm, if_neg (by rw [k2]; exact n10)]
    refine ⟨?_, rs_mono r1 (by omega), R2, R3, R4, r5⟩
    show (-10000200 : Int32) - Z.1 = -10000200 - G.2.1
    rw [k1, g1]
  · rw [if_pos k1, if_pos k2]
    rw [Nat.zero_add] at k4
    unfold f_X9_perform_q30 f_X10_perform_q22 f_X10_perform_q27
    have eK : (f_X5_size Z.2).toNatClampNeg = K := by rw [show f_X5_size Z.2 = nI K from k4]; exact nI_clm (by omega)
    rw [copy_eq, eK, e2]
    have hA := putAside_at (w.1, w.2.1, w.2.2.1, w.2.2.2.1, w.2.2.2.2.1, w.2.2.2.2.2.1, w.2.2.2.2.2.2.1, nI L, w.2.2.2.2.2.2.2.2.1, w.2.2.2.2.2.2.2.2.2.1, G.2.1, G.2.2.1, G.2.2.2.1, G.2.2.2.2.1, G.2.2.2.2.2.1, G.2.2.2.2.2.2)
    generalize f_X10_putAside (w.1, w.2.1, w.2.2.1, w.2.2.2.1, w.2.2.2.2.1, w.2.2.2.2.2.1, w.2.2.2.2.2.2.1, nI L, w.2.2.2.2.2.2.2.2.1, w.2.2.2.2.2.2.2.2.2.1, G.2.1, G.2.2.1, G.2.2.2.1, G.2.2.2.2.1, G.2.2.2.2.2.1, G.2.2.2.2.2.2) = q22 at hA ⊢
    obtain ⟨G1, hG1⟩ : ∃ G1, G1 = f_X10_go1 w.1 w.2.2.2.2.2.2.1 (nI L) G.2.2.2.1 G.2.2.2.2.1 G.2.2.2.2.2.1 := ⟨_, rfl⟩
    rw [← hG1]
    have hB := putBack_at (G1.2.1, q22, w.2.2.1, w.2.2.2.1, w.2.2.2.2.1, w.2.2.2.2.2.1, w.2.2.2.2.2.2.1, nI L, w.2.2.2.2.2.2.2.2.1, w.2.2.2.2.2.2.2.2.2.1, G1.2.2.1, G1.2.2.2.1, G1.2.2.2.2.1, G1.2.2.2.2.2.1, G1.2.2.2.2.2.2.1, G1.2.2.2.2.2.2.2)
    generalize f_X10_putBack (G1.2.1, q22, w.2.2.1, w.2.2.2.1, w.2.2.2.2.1, w.2.2.2.2.2.1, w.2.2.2.2.2.2.1, nI L, w.2.2.2.2.2.2.2.2.1, w.2.2.2.2.2.2.2.2.2.1, G1.2.2.1, G1.2.2.2.1, G1.2.2.2.2.1, G1.2.2.2.2.2.1, G1.2.2.2.2.2.2.1, G1.2.2.2.2.2.2.2) = q32 at hB ⊢
    have hC : ∀ j, j < 108 → q32 j = w.1 j := fun j hj => (hB j hj).trans (hA j hj)
    have rB := rs_agree r1 hC
    obtain ⟨Y, hY⟩ : ∃ Y, Y = wl_X9_perform_35 v Z v.1 K v.1 := ⟨_, rfl⟩
    rw [← hY]
    have l1 := perf_loop (tx := w.2.2.2.2.2.2.1) hL v Z v.1 (K := K) k4 (by omega) w.1 G.2.2.2.1 G.2.2.2.2.1 G.2.2.2.2.2.1 K 0 0 N v.1 w.1 (by omega) r1 (by omega) k5 163 _ _ _ (by omega) G1 Y hG1 hY
    unfold f_X10_perform_q32
    rcases l1 with ⟨j, a, m1, m2, m3, m4⟩ | ⟨v', m1, m2, m3, m4⟩
    · rw [if_neg (by rw [m2]; exact m3), m4]
      exact ⟨rfl, rs_mono rB (by omega), R2, R3, R4, Or.inr ⟨rfl, m1, m2⟩⟩
    · rw [if_pos (by rw [m2]; exact y_0)]
      unfold f_X10_perform_q59 f_X10_perform_q64
      rw [e2]
      obtain ⟨G3, hG3⟩ : ∃ G3, G3 = f_X10_go1 q32 w.2.2.2.2.2.2.1 (nI L) G1.2.2.2.2.1 G1.2.2.2.2.2.1 G1.2.2.2.2.2.2.1 := ⟨_, rfl⟩
      rw [← hG3]
      have l2 := perf_loop (tx := w.2.2.2.2.2.2.1) hL v Z v.1 (K := K) k4 (by omega) q32 G1.2.2.2.2.1 G1.2.2.2.2.2.1 G1.2.2.2.2.2.2.1 K 0 0 N v.1 q32 (by omega) rB (by omega) k5 163 _ _ _ (by omega) G3 Y hG3 hY
      have eY : ∀ v'' : SV, wl_X9_perform_35 v Z v.1 0 v'' = (nI K, (v'', v.1, v.2.2.1, f_X3_add v.2.2.2.1 v.1, v.2.2.2.2.1, Z.2, v.2.2.2.2.2.2)) := by
        intro v''
        rw [wl_X9_perform_35_0]
        unfold f_X9_perform_q103 f_X9_recorded f_X9_recorded_q12
        rw [show f_X5_size Z.2 = nI K from k4, if_neg (nI_pos (by omega))]
      rcases l2 with ⟨j, a, -, -, -, n4⟩ | ⟨v'', n1, n2, n3, n4⟩
      · exfalso
        rw [m4, eY] at n4
        have z := congrArg Prod.fst n4
        have z2 : nI K = -10000004 := z
        have q := nI_nn (n := K) (by omega)
        rw [z2] at q
        exact absurd q (by decide)
      · rw [n4, eY]
        refine ⟨n1.symm, rs_mono n3 (by omega), ?_, R3, R4, r5⟩
        exact hr_mono (hist_add (w := (q32, q22, w.2.2.1, w.2.2.2.1, w.2.2.2.2.1, w.2.2.2.2.2.1, w.2.2.2.2.2.2.1, nI L, w.2.2.2.2.2.2.2.2.1, w.2.2.2.2.2.2.2.2.2.1, G1.2.2.1, G1.2.2.2.1, G1.2.2.2.2.1, G1.2.2.2.2.2.1, G1.2.2.2.2.2.2.1, G1.2.2.2.2.2.2.2)) r2 rB) (by omega)
