/-! the whole text -/
section PP
variable {v2 : TV} {tx : Nat → Int32} {L : Nat}
theorem read_end (hL : L ≤ 80) {p : Nat} (hp : L ≤ p) (h2 : p < 2 ^ 31) : (f_X10_read tx (nI L) (nI p) 0).1 = nI p ∧ (f_X10_read tx (nI L) (nI p) 0).2.1 = 1 := by
  unfold f_X10_read
  rw [if_pos ((nle_iff (nrf L) (nrf p) (by omega) (by omega)).mpr hp), if_pos (show (0 : Int32) = 0 from rfl)]
  unfold f_X10_read_q159_1
  rw [sign_bad]
  exact ⟨Int32.add_zero _, rfl⟩
theorem go0_fin (ty le on tw cnt a w l o t : Int32) (m : Nat) : wl_X10_go0_19 tx ty le on tw (m + 1) (cnt, 0, a, w, l, o, t) = (cnt, a, w, l, o, t, 0) := by
  rw [wl_X10_go0_19_s]
  unfold st_X10_go0_19
  dsimp only
  rw [if_pos (show (0 : Int32) = 0 from rfl)] <;> rfl
theorem go0_go (ty le on tw cnt a w l o t : Int32) (m : Nat) : wl_X10_go0_19 tx ty le on tw (m + 1) (cnt, 1, a, w, l, o, t) = Sum.elim (fun q9 => wl_X10_go0_19 tx ty le on tw m q9) id (f_X10_go0_q24 tx ty le on tw (cnt, 1, a, w, l, o, t) (f_X10_read tx ty a w)) := by
  rw [wl_X10_go0_19_s]
  unfold st_X10_go0_19
  dsimp only
  rw [if_neg n10]
/-- from the command i at the place p on, n commands -/
def PA (tx : Nat → Int32) (L : Nat) (A B C : Nat → Int32) : Nat → Nat → Nat → Prop
  | 0, _, _ => False
  | n + 1, i, p => ∃ p', p < p' ∧ p' ≤ L ∧ f_X10_read tx (nI L) (nI p) 0 = (nI p', 0, A i, B i, C i) ∧ ((n = 0 ∧ p' = L) ∨ (p' < L ∧ (f_X10_sign tx (nI L) (nI p') 0 44 44).2 = (nI (p' + 1), 0) ∧ PA tx L A B C n (i + 1) (p' + 1)))
theorem parse_loop (hL : L ≤ 80) (e : v2.2 = nI L) (ht : ∀ j, j < L → v2.1 j = tx j) (v : OV) (le on tw : Int32) : ∀ n c p (q : OV), c + n = 40 → 2 * c ≤ p → p ≤ L → q.2.2.2.1 = nI c → q.2.2.2.2 = nI p → ∀ (m : Nat) (cnt l o t : Int32), 2 * (L - p) + 2 ≤ m → ∀ (Z : Int32 × OV) (G : Int32 × Int32 × Int32 × Int32 × Int32 × Int32 × Int32), Z = wl_X5_faultOf_12 v v2 n q → G = wl_X10_go0_19 tx (nI L) le on tw m (cnt, 1, nI p, 0, l, o, t) → ∃ p2, p2 ≤ L ∧ G.2.1 = nI p2 ∧ ((Z.1 = nI p2 ∧ G.2.2.1 = 1) ∨ (Z.1 = -1 ∧ G.2.2.1 = 0 ∧ ∃ K, c + K ≤ 40 ∧ Z.2.2.2.2.1 = nI (c + K) ∧ PA tx L Z.2.1 Z.2.2.1 Z.2.2.2.1 K c p ∧ ∀ i, i < c → Z.2.1 i = q.1 i ∧ Z.2.2.1 i = q.2.1 i ∧ Z.2.2.2.1 i = q.2.2.1 i)) := by
  intro n
  induction n with
  | zero =>
    intro c p q hc h2 hp hs hv m cnt l o t hm Z G hZ hG
    obtain ⟨m, rfl⟩ : ∃ k, m = k + 1 + 1 := ⟨m - 2, by omega⟩
    obtain ⟨r1, r2⟩ := read_end (tx := tx) hL (p := p) (show L ≤ p by omega) (by omega)
    rw [go0_go] at hG
    unfold f_X10_go0_q24 at hG
    rw [if_neg (by rw [r2]; exact n10)] at hG
    have hG2 : G = wl_X10_go0_19 tx (nI L) le on tw (m + 1) (cnt + 1, 0, (f_X10_read tx (nI L) (nI p) 0).1, (f_X10_read tx (nI L) (nI p) 0).2.1, (f_X10_read tx (nI L) (nI p) 0).2.2.1, (f_X10_read tx (nI L) (nI p) 0).2.2.2.1, (f_X10_read tx (nI L) (nI p) 0).2.2.2.2) := hG
    rw [go0_fin, r1, r2] at hG2
    subst hG2 hZ
    exact ⟨p, hp, rfl, Or.inl ⟨hv, rfl⟩⟩
  | succ n ih =>
    intro c p q hc h2 hp hs hv m cnt l o t hm Z G hZ hG
    obtain ⟨m, rfl⟩ : ∃ k, m = k + 1 + 1 := ⟨m - 2, by omega⟩
    obtain ⟨⟨R1, R2, R3, R4, R5⟩, hR⟩ : ∃ R, f_X10_read tx (nI L) (nI p) 0 = R := ⟨_, rfl⟩
    obtain ⟨C, hC⟩ : ∃ C, f_X5_readsCommand q v2 = C := ⟨_, rfl⟩
    have hcmd := read_eq hL e ht (v := q) (c := c) hp hv (by omega) hs
    rw [hR, hC] at hcmd
    obtain ⟨p', i1, i2, i3, i4, i5⟩ := hcmd
    dsimp only at i3 i5
    subst i3
    rw [go0_go, hR] at hG
    unfold f_X10_go0_q24 at hG
    rw [wl_X5_faultOf_12_s] at hZ
    unfold st_X5_faultOf_12 f_X5_faultOf_q20 at hZ
    rw [hC] at hZ
    rcases i5 with ⟨j1, j2⟩ | ⟨j1, j2, j3⟩
    · subst j1
      rw [if_neg (show ¬ (nI p', (1 : Int32), R3, R4, R5).2.1 = 0 from n10)] at hG
      rw [if_pos j2] at hZ
      have hG2 : G = wl_X10_go0_19 tx (nI L) le on tw (m + 1) (cnt + 1, 0, nI p', 1, R3, R4, R5) := hG
      rw [go0_fin] at hG2
      subst hG2 hZ
      exact ⟨p', i2, rfl, Or.inl ⟨i4, rfl⟩⟩
    · subst j1 j3
      rw [if_pos (show (nI p', (0 : Int32), R3, R4, R5).2.1 = 0 from rfl)] at hG
      dsimp only at hG hZ
      rw [if_neg n10] at hZ
      unfold f_X8_length at hZ
      rw [e] at hZ
      have kL : nI p' = nI L ↔ p' = L := neq_iff (nrf p') (nrf L) (by omega) (by omega)
      have kl : nI L ≤ nI p' ↔ L ≤ p' := nle_iff (nrf L) (nrf p') (by omega) (by omega)
      by_cases cL : p' = L
      · rw [if_pos (kl.mpr (by omega))] at hG
        rw [if_pos (kL.mpr cL)] at hZ
        have hG2 : G = wl_X10_go0_19 tx (nI L) le on tw (m + 1) (cnt + 1, 0, nI p', 0, R3, R4, R5) := hG
        rw [go0_fin] at hG2
        have hZ2 : Z = (-1, (upd q.1 c R3, upd q.2.1 c R4, upd q.2.2.1 c R5, nI (c + 1), nI p')) := hZ
        subst hG2 hZ2
        refine ⟨p', i2, rfl, Or.inr ⟨rfl, rfl, 1, by omega, rfl, ⟨p', j2, i2, ?_, Or.inl ⟨rfl, cL⟩⟩, fun i hi => ?_⟩⟩
        · show _ = (nI p', 0, upd q.1 c R3 c, upd q.2.1 c R4 c, upd q.2.2.1 c R5 c)
          rw [hR, upd_s, upd_s, upd_s]
        · show upd q.1 c R3 i = q.1 i ∧ upd q.2.1 c R4 i = q.2.1 i ∧ upd q.2.2.1 c R5 i = q.2.2.1 i
          rw [upd_n (by omega), upd_n (by omega), upd_n (by omega)]
          exact ⟨rfl, rfl, rfl⟩
      · rw [if_neg (fun z => by have := kl.mp z; omega)] at hG
        rw [if_neg (fun z => cL (kL.mp z))] at hZ
        unfold f_X10_go0_q98 at hG
        unfold f_X5_faultOf_q48 at hZ
        have hsg := sgn_eq hL e ht (v := (upd q.1 c R3, upd q.2.1 c R4, upd q.2.2.1 c R5, nI (c + 1), nI p')) (p := p') i2 rfl (x := 44) (by decide) rfl
        obtain ⟨S, hS⟩ : ∃ S, f_X10_sign tx (nI L) (nI p') 0 44 44 = S := ⟨_, rfl⟩
        rw [hS] at hG hsg
        rcases hsg with ⟨b1, b2⟩ | ⟨h3, b1, b2⟩
        · rw [b2] at hZ
          have g1 : S.2.1 = nI p' := by rw [b1]
          have g2 : S.2.2 = 1 := by rw [b1]
          rw [g1, g2, if_neg n10] at hG
          rw [if_pos (show ((0 : Int32), nI p').1 = 0 from rfl)] at hZ
          have hG2 : G = wl_X10_go0_19 tx (nI L) le on tw (m + 1) (cnt + 1, 0, nI p', 1, R3, R4, R5) := hG
          rw [go0_fin] at hG2
          subst hG2 hZ
          exact ⟨p', i2, rfl, Or.inl ⟨rfl, rfl⟩⟩
        · rw [b2] at hZ
          have g1 : S.2.1 = nI (p' + 1) := by rw [b1]
          have g2 : S.2.2 = 0 := by rw [b1]
          rw [g1, g2, if_pos rfl] at hG
          rw [if_neg (show ¬ ((1 : Int32), nI (p' + 1)).1 = 0 from n10)] at hZ
          have hG2 : G = wl_X10_go0_19 tx (nI L) le on tw (m + 1) (cnt + 1, 1, nI (p' + 1), 0, R3, R4, R5) := hG
          have hZ2 : Z = wl_X5_faultOf_12 v v2 n (upd q.1 c R3, upd q.2.1 c R4, upd q.2.2.1 c R5, nI (c + 1), nI (p' + 1)) := hZ
          obtain ⟨p2, y1, y2, y3⟩ := ih (c + 1) (p' + 1) (upd q.1 c R3, upd q.2.1 c R4, upd q.2.2.1 c R5, nI (c + 1), nI (p' + 1)) (by omega) (by omega) (by omega) rfl rfl (m + 1) (cnt + 1) R3 R4 R5 (by omega) Z G hZ2 hG2
          refine ⟨p2, y1, y2, ?_⟩
          rcases y3 with y3 | ⟨y3, y4, K, y5, y6, y7, y8⟩
          · exact Or.inl y3
          · refine Or.inr ⟨y3, y4, K + 1, by omega, by rw [y6]; congr 1; omega, ⟨p', j2, i2, ?_, Or.inr ⟨h3, by rw [hS]; exact b1, y7⟩⟩, fun i hi => ?_⟩
            · obtain ⟨z1, z2, z3⟩ := y8 c (by omega)
              rw [hR, z1, z2, z3]
              show _ = (nI p', (0 : Int32), upd q.1 c R3 c, upd q.2.1 c R4 c, upd q.2.2.1 c R5 c)
              rw [upd_s, upd_s, upd_s]
            · obtain ⟨z1, z2, z3⟩ := y8 i (by omega)
              rw [z1, z2, z3]
              show upd q.1 c R3 i = q.1 i ∧ upd q.2.1 c R4 i = q.2.1 i ∧ upd q.2.2.1 c R5 i = q.2.2.1 i
              rw [upd_n (by omega), upd_n (by omega), upd_n (by omega)]
              exact ⟨rfl, rfl, rfl⟩
end PP
