/-! what is asked of a State -/
section ASK
variable {N : Nat} {v : PV}
theorem there_k (r : RV) {k : Nat} (hk : k < 10) : f_X4_isThere r (nI k) = if r.1 k = -2 then 0 else 1 := by
  unfold f_X4_isThere
  rw [if_neg (nI_pos (by omega)), if_neg (fun z => by have := (nle_iff (nlit 10) (nrf k) (by omega) (by omega)).mp z; omega), nI_clm (by omega)]
theorem reel_0 {k : Nat} (hk : k < 10) : f_X9_reel v (nI k) 0 = if v.1.1.1 k = -2 then -10000001 else if v.1.1.1 k = -1 then -10000005 else v.1.1.1 k := by
  unfold f_X9_reel f_X7_toldOfReel
  rw [there_k _ hk, nI_clm (by omega)]
  by_cases c : v.1.1.1 k = -2
  · rw [if_pos c, if_pos c, if_pos rfl]
  · rw [if_neg c, if_neg c, if_neg (show ¬ (1 : Int32) = 0 by decide), if_pos rfl]; rfl
theorem reel_1 {k : Nat} (hk : k < 10) (c : ¬ v.1.1.1 k = -2) : f_X9_reel v (nI k) 1 = v.1.1.2.1 k := by
  unfold f_X9_reel f_X7_toldOfReel
  rw [there_k _ hk, nI_clm (by omega), if_neg c, if_neg (show ¬ (1 : Int32) = 0 by decide), if_neg (show ¬ (1 : Int32) = 0 by decide), if_pos rfl]; rfl
theorem reel_2 {k : Nat} (hk : k < 10) (c : ¬ v.1.1.1 k = -2) : f_X9_reel v (nI k) 2 = v.1.1.2.2.1 k := by
  unfold f_X9_reel f_X7_toldOfReel
  rw [there_k _ hk, nI_clm (by omega), if_neg c, if_neg (show ¬ (1 : Int32) = 0 by decide), if_neg (show ¬ (2 : Int32) = 0 by decide), if_neg (show ¬ (2 : Int32) = 1 by decide), if_pos rfl]; rfl
theorem reel_3 {k : Nat} (hk : k < 10) (c : ¬ v.1.1.1 k = -2) : f_X9_reel v (nI k) 3 = v.1.1.2.2.2.1 k := by
  unfold f_X9_reel f_X7_toldOfReel
  rw [there_k _ hk, nI_clm (by omega), if_neg c, if_neg (show ¬ (1 : Int32) = 0 by decide), if_neg (show ¬ (3 : Int32) = 0 by decide), if_neg (show ¬ (3 : Int32) = 1 by decide), if_neg (show ¬ (3 : Int32) = 2 by decide), if_pos rfl]; rfl
theorem reel_4 {k : Nat} (hk : k < 10) (c : ¬ v.1.1.1 k = -2) : f_X9_reel v (nI k) 4 = v.1.1.2.2.2.2 k := by
  unfold f_X9_reel f_X7_toldOfReel
  rw [there_k _ hk, nI_clm (by omega), if_neg c, if_neg (show ¬ (1 : Int32) = 0 by decide), if_neg (show ¬ (4 : Int32) = 0 by decide), if_neg (show ¬ (4 : Int32) = 1 by decide), if_neg (show ¬ (4 : Int32) = 2 by decide), if_neg (show ¬ (4 : Int32) = 3 by decide), if_pos rfl]; rfl
/-- how many shows a print bears: the class's count -/
def slS (q : Nat × Nat) : Nat × Nat := (q.1 + 5 * ((44 - q.1) / 5) - 20, q.2 + (44 - q.1) / 5)
def slL : Nat → Nat × Nat → Nat × Nat
  | 0, q => q
  | k + 1, q => slS (slL k q)
theorem sl_in (v : RV) (r : Int32) (rn w mn k : Nat) (q : Nat × Int32) (c : Nat) : ∀ n, lp_X4_showsLeft_23 v r rn w mn k q (nI c) n = nI (c + n) := by
  intro n
  induction n with
  | zero => rfl
  | succ n ih => rw [lp_X4_showsLeft_23_s, ih]; unfold st_X4_showsLeft_23; have q : nI (c + n) + 1 = nI (c + n + 1) := nadd rfl rfl; exact q
theorem sl_out (v : RV) (r : Int32) (rn w mn c : Nat) : ∀ k, lp_X4_showsLeft_17 v r rn w mn (w, nI c) k = ((slL k (w, c)).1, nI (slL k (w, c)).2) := by
  intro k
  induction k with
  | zero => rfl
  | succ k ih =>
    rw [lp_X4_showsLeft_17_s, ih]
    unfold st_X4_showsLeft_17 f_X4_showsLeft_23_x
    dsimp only
    rw [sl_in]
    rfl
theorem left_eq (v : RV) (r : Int32) (rn w mn : Nat) : f_X4_showsLeft v r rn w mn = nI (slL (mn - 2) (w, 0)).2 := by
  unfold f_X4_showsLeft f_X4_showsLeft_17_x
  have a := sl_out v r rn w mn 0 (mn - 2)
  have z : (nI 0 : Int32) = 0 := rfl
  rw [z] at a
  rw [a]
theorem reel_5 {k : Nat} (hk : k < 10) (c : ¬ v.1.1.1 k = -2) {w m : Nat} (hw : w < 40) (hm : m < 18) (ew : v.1.1.2.2.1 k = nI w) (em : v.1.1.2.1 k = nI m) : f_X9_reel v (nI k) 5 = nI (slL (m - 2) (w, 0)).2 := by
  unfold f_X9_reel f_X7_toldOfReel
  rw [there_k _ hk, nI_clm (by omega), if_neg c, if_neg (show ¬ (1 : Int32) = 0 by decide), if_neg (show ¬ (5 : Int32) = 0 by decide), if_neg (show ¬ (5 : Int32) = 1 by decide), if_neg (show ¬ (5 : Int32) = 2 by decide), if_neg (show ¬ (5 : Int32) = 3 by decide), if_neg (show ¬ (5 : Int32) = 4 by decide), if_pos rfl]
  unfold f_X7_toldOfReel_q105
  rw [left_eq, ew, em, nI_clm (by omega), nI_clm (by omega)]
theorem gen_0 {k : Nat} (hk : k < 2) : f_X9_generator v (nI k) 0 = if v.1.2.1.1 k = -1 then -10000005 else v.1.2.1.1 k := by
  unfold f_X9_generator f_X7_toldOfGenerator
  rw [if_neg (gen_of hk), if_pos rfl, nI_clm (by omega)]; rfl
theorem gen_1 {k : Nat} (hk : k < 2) : f_X9_generator v (nI k) 1 = v.1.2.1.2 k := by
  unfold f_X9_generator f_X7_toldOfGenerator
  rw [if_neg (gen_of hk), if_neg (show ¬ (1 : Int32) = 0 by decide), if_pos rfl, nI_clm (by omega)]; rfl
theorem barn_1 {b : Nat} (hb : b < 5) : f_X9_barn v (nI b) 1 = SEATSF b := by
  unfold f_X9_barn f_X7_toldOfBarn
  rw [if_neg (barn_of hb), if_neg (show ¬ (1 : Int32) = 0 by decide), if_pos rfl, nI_clm (by omega)]
theorem barn_3 {b : Nat} (hb : b < 5) : f_X9_barn v (nI b) 3 = f_X4_numberAt v.1.1 (nI b) := by
  unfold f_X9_barn f_X7_toldOfBarn
  rw [if_neg (barn_of hb), if_neg (show ¬ (3 : Int32) = 0 by decide), if_neg (show ¬ (3 : Int32) = 1 by decide), if_neg (show ¬ (3 : Int32) = 2 by decide), if_pos rfl]
theorem barn_4 {b : Nat} (hb : b < 5) : f_X9_barn v (nI b) 4 = f_X4_minutesIn v.1.1 (nI b) := by
  unfold f_X9_barn f_X7_toldOfBarn
  rw [if_neg (barn_of hb), if_neg (show ¬ (4 : Int32) = 0 by decide), if_neg (show ¬ (4 : Int32) = 1 by decide), if_neg (show ¬ (4 : Int32) = 2 by decide), if_neg (show ¬ (4 : Int32) = 3 by decide), if_pos rfl]
theorem barn_5 {b : Nat} (hb : b < 5) : f_X9_barn v (nI b) 5 = f_X7_peopleIn v.1 (nI b) b := by
  unfold f_X9_barn f_X7_toldOfBarn
  rw [if_neg (barn_of hb), if_neg (show ¬ (5 : Int32) = 0 by decide), if_neg (show ¬ (5 : Int32) = 1 by decide), if_neg (show ¬ (5 : Int32) = 2 by decide), if_neg (show ¬ (5 : Int32) = 3 by decide), if_neg (show ¬ (5 : Int32) = 4 by decide), if_pos rfl, nI_clm (by omega)]
theorem barn_6 {b : Nat} (hb : b < 5) : f_X9_barn v (nI b) 6 = f_X7_reasonAgainst v.1 (nI b) b := by
  unfold f_X9_barn f_X7_toldOfBarn
  rw [if_neg (barn_of hb), if_neg (show ¬ (6 : Int32) = 0 by decide), if_neg (show ¬ (6 : Int32) = 1 by decide), if_neg (show ¬ (6 : Int32) = 2 by decide), if_neg (show ¬ (6 : Int32) = 3 by decide), if_neg (show ¬ (6 : Int32) = 4 by decide), if_neg (show ¬ (6 : Int32) = 5 by decide), if_pos rfl, nI_clm (by omega)]
theorem barn_7 {b : Nat} (hb : b < 5) : f_X9_barn v (nI b) 7 = v.1.2.2.1.2.1 b := by
  unfold f_X9_barn f_X7_toldOfBarn
  rw [if_neg (barn_of hb), if_neg (show ¬ (7 : Int32) = 0 by decide), if_neg (show ¬ (7 : Int32) = 1 by decide), if_neg (show ¬ (7 : Int32) = 2 by decide), if_neg (show ¬ (7 : Int32) = 3 by decide), if_neg (show ¬ (7 : Int32) = 4 by decide), if_neg (show ¬ (7 : Int32) = 5 by decide), if_neg (show ¬ (7 : Int32) = 6 by decide), if_pos rfl, nI_clm (by omega)]; rfl
theorem barn_8 {b : Nat} (hb : b < 5) : f_X9_barn v (nI b) 8 = v.1.2.2.1.2.2 b := by
  unfold f_X9_barn f_X7_toldOfBarn
  rw [if_neg (barn_of hb), if_neg (show ¬ (8 : Int32) = 0 by decide), if_neg (show ¬ (8 : Int32) = 1 by decide), if_neg (show ¬ (8 : Int32) = 2 by decide), if_neg (show ¬ (8 : Int32) = 3 by decide), if_neg (show ¬ (8 : Int32) = 4 by decide), if_neg (show ¬ (8 : Int32) = 5 by decide), if_neg (show ¬ (8 : Int32) = 6 by decide), if_neg (show ¬ (8 : Int32) = 7 by decide), if_pos rfl, nI_clm (by omega)]; rfl
theorem price_of {b : Nat} (hb : b < 5) {y : Int32} (hy : ¬ f_X9_isPrice y = 0) : f_X9_ifPrice v (nI b) y = f_X7_peopleIn v.1 (nI b) b * y := by
  unfold f_X9_ifPrice
  rw [if_neg (barn_of hb), if_neg hy, nI_clm (by omega)]
theorem past_k {s k y : Nat} {x z : Int32} (e : v.1.2.2.2.1.2 = nI s) (hs : s ≤ 6) (ex : x = nI k) (hk : k ≤ 6) (ez : z = nI y) (hy : y < 5) : f_X9_showOf v x z = if s ≤ k then -10000005 else v.1.2.2.2.1.1 (k * 5 + y) := by
  subst ex ez
  unfold f_X9_showOf f_X7_toldOfPastShow f_X6_size f_X6_told
  rw [if_neg (nI_pos (by omega)), if_neg (nI_pos (by omega)), if_pos (show nI y < 5 from (nlt_iff (nrf y) (nlit 5) (by omega) (by omega)).mpr hy), e, nI_clm (by omega), nI_clm (by omega)]
  have q := nle_iff (nrf s) (nrf k) (by omega) (by omega)
  by_cases c : s ≤ k
  · rw [if_pos c, if_pos (q.mpr c)]
  · rw [if_neg c, if_neg (fun z => c (q.mp z))]
theorem count_0 : f_X9_count v 0 = v.1.2.2.2.2.2.2.1 := rfl
theorem count_2 : f_X9_count v 2 = f_X7_thingsInVan v.1 := rfl
theorem count_3 : f_X9_count v 3 = f_X4_numberAt v.1.1 (-2) := rfl
theorem count_4 : f_X9_count v 4 = v.1.2.2.2.2.1.1 := rfl
theorem count_5 : f_X9_count v 5 = v.1.2.2.2.2.1.2.1 := rfl
theorem count_6 : f_X9_count v 6 = v.1.2.2.2.2.1.2.2.1 := rfl
theorem count_7 : f_X9_count v 7 = v.1.2.2.2.2.1.2.2.2.1 := rfl
theorem count_8 : f_X9_count v 8 = v.1.2.2.2.2.1.1 - v.1.2.2.2.2.1.2.1 - v.1.2.2.2.2.1.2.2.1 - v.1.2.2.2.2.1.2.2.2.1 := rfl
theorem count_9 : f_X9_count v 9 = v.1.2.2.2.2.1.2.2.2.2.1 := rfl
theorem count_10 : f_X9_count v 10 = v.1.2.2.2.2.1.2.2.2.2.2.1 := rfl
theorem count_11 : f_X9_count v 11 = v.1.2.2.2.2.2.2.2 := rfl
end ASK
/-- the barn that brings the most -/
theorem best_spec {N : Nat} {v : SV} (h : SI N v) : ∃ pf : Nat → Nat, (∀ b, b < 5 → pf b ≤ 80 ∧ f_X7_peopleIn v (nI b) b = nI (pf b)) ∧ ((f_X7_barnThatBringsMost v = -10000005 ∧ ∀ b, b < 5 → ¬ f_X7_reasonAgainst v (nI b) b = 0) ∨ ∃ c, c < 5 ∧ f_X7_barnThatBringsMost v = nI c ∧ f_X7_reasonAgainst v (nI c) c = 0 ∧ ∀ b, b < 5 → f_X7_reasonAgainst v (nI b) b = 0 → pf b < pf c ∨ (pf b = pf c ∧ c ≤ b)) := by
  have hp : ∀ b, b < 5 → (f_X7_peopleIn v (nI b) b).toNatClampNeg ≤ 80 ∧ f_X7_peopleIn v (nI b) b = nI (f_X7_peopleIn v (nI b) b).toNatClampNeg := by
    intro b hb
    obtain ⟨n, s, h1, h2, _, e⟩ := people_sm h.1 hb
    rw [e, nI_clm (by omega)]
    exact ⟨by omega, rfl⟩
  refine ⟨fun b => (f_X7_peopleIn v (nI b) b).toNatClampNeg, hp, ?_⟩
  generalize hpf : (fun b : Nat => (f_X7_peopleIn v (nI b) b).toNatClampNeg) = pf
  have hp : ∀ b, b < 5 → pf b ≤ 80 ∧ f_X7_peopleIn v (nI b) b = nI (pf b) := by rw [← hpf]; exact hp
  have key : ∀ k, k ≤ 5 → (lp_X7_barnThatBringsMost_7 v (-10000005, -1) k = (-10000005, -1) ∧ ∀ b, b < k → ¬ f_X7_reasonAgainst v (nI b) b = 0) ∨ ∃ c, c < k ∧ lp_X7_barnThatBringsMost_7 v (-10000005, -1) k = (nI c, nI (pf c)) ∧ f_X7_reasonAgainst v (nI c) c = 0 ∧ ∀ b, b < k → f_X7_reasonAgainst v (nI b) b = 0 → pf b < pf c ∨ (pf b = pf c ∧ c ≤ b) := by
    intro k
    induction k with
    | zero => intro _; exact Or.inl ⟨rfl, fun b hb => absurd hb (by omega)⟩
    | succ k ih =>
      intro hk
      obtain ⟨p1, p2⟩ := hp k (by omega)
      rw [lp_X7_barnThatBringsMost_7_s]
      unfold st_X7_barnThatBringsMost_7
      rw [p2]
      by_cases c : f_X7_reasonAgainst v (nI k) k = 0
      · rw [if_pos c]
        rcases ih (by omega) with ⟨a1, a2⟩ | ⟨d, hd, a1, a2, a3⟩
        · rw [a1, if_neg (show ¬ nI (pf k) ≤ -1 by
            intro z
            have q := nI_nn (n := pf k) (by omega)
            rw [Int32.le_iff_toInt_le] at z q
            have e1 : (-1 : Int32).toInt = -1 := by decide
            have e0 : (0 : Int32).toInt = 0 := by decide
            omega)]
          refine Or.inr ⟨k, by omega, rfl, c, fun b hb hr => ?_⟩
          by_cases z : b = k
          · subst z; exact Or.inr ⟨rfl, Nat.le_refl _⟩
          · exact absurd hr (a2 b (by omega))
        · have hdp := (hp d (by omega)).1
          rw [a1]
          have q := nle_iff (nrf (pf k)) (nrf (pf d)) (by omega) (by omega)
          by_cases z : pf k ≤ pf d
          · rw [if_pos (q.mpr z)]
            refine Or.inr ⟨d, by omega, rfl, a2, fun b hb hr => ?_⟩
            by_cases z2 : b = k
            · subst z2; omega
            · exact a3 b (by omega) hr
          · rw [if_neg (fun y => z (q.mp y))]
            refine Or.inr ⟨k, by omega, rfl, c, fun b hb hr => ?_⟩
            by_cases z2 : b = k
            · subst z2; exact Or.inr ⟨rfl, Nat.le_refl _⟩
            · rcases a3 b (by omega) hr with g | g <;> omega
      · rw [if_neg c]
        rcases ih (by omega) with ⟨a1, a2⟩ | ⟨d, hd, a1, a2, a3⟩
        · refine Or.inl ⟨a1, fun b hb => ?_⟩
          by_cases z : b = k
          · subst z; exact c
          · exact a2 b (by omega)
        · refine Or.inr ⟨d, by omega, a1, a2, fun b hb hr => ?_⟩
          by_cases z : b = k
          · subst z; exact absurd hr c
          · exact a3 b (by omega) hr
  unfold f_X7_barnThatBringsMost f_X7_barnThatBringsMost_7_x
  rcases key 5 (Nat.le_refl _) with ⟨a1, a2⟩ | ⟨d, hd, a1, a2, a3⟩
  · rw [a1]; exact Or.inl ⟨rfl, a2⟩
  · rw [a1]; exact Or.inr ⟨d, hd, rfl, a2, a3⟩
