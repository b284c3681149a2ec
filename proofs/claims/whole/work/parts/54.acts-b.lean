/-! acts on a State and on the reference's row: carrying, fuel, price -/
theorem van_le (s : Nat → Int32) : ∃ n, n ≤ 12 ∧ f_X10_inVan s = nI n := by
  have key : ∀ k, k ≤ 10 → ∃ n, n ≤ k ∧ lp_X10_inVan_4 s 0 k = nI n := by
    intro k
    induction k with
    | zero => intro _; exact ⟨0, Nat.le_refl _, rfl⟩
    | succ k ih =>
      intro hk
      obtain ⟨n, hn, e⟩ := ih (by omega)
      rw [lp_X10_inVan_4_s, e]
      unfold st_X10_inVan_4
      split
      · exact ⟨n + 1, by omega, nadd rfl rfl⟩
      · exact ⟨n + 0, by omega, nadd rfl rfl⟩
  obtain ⟨n, hn, e⟩ := key 10 (Nat.le_refl _)
  unfold f_X10_inVan
  rw [e]
  unfold f_X10_inVan_4_x
  split <;> split
  · exact ⟨n + 1 + 1, by omega, nadd (nadd rfl rfl) rfl⟩
  · exact ⟨n + 1 + 0, by omega, nadd (nadd rfl rfl) rfl⟩
  · exact ⟨n + 0 + 1, by omega, nadd (nadd rfl rfl) rfl⟩
  · exact ⟨n + 0 + 0, by omega, nadd (nadd rfl rfl) rfl⟩
theorem nI_nn {n : Nat} (h : n < 2 ^ 31) : 0 ≤ nI n := Int32.not_lt.mp (nI_pos h)
theorem van_nn (s : Nat → Int32) : 0 ≤ f_X10_inVan s := by
  obtain ⟨n, hn, e⟩ := van_le s
  rw [e]; exact nI_nn (by omega)
theorem fault_cases (s : Nat → Int32) (i : Int32) (k : Nat) (y : Int32) : f_X10_moveFault s i k y = 0 ∨ ¬ 0 ≤ f_X10_moveFault s i k y := by
  unfold f_X10_moveFault
  by_cases c1 : s k = -10000005
  · rw [if_pos c1]
    split
    · exact Or.inr (by decide)
    · split
      · exact Or.inl rfl
      · split
        · exact Or.inl rfl
        · exact Or.inr (by decide)
  · rw [if_neg c1]
    split
    · split
      · exact Or.inr (by decide)
      · split
        · exact Or.inl rfl
        · split
          · exact Or.inl rfl
          · exact Or.inr (by decide)
    · exact Or.inr (by decide)
theorem refuse_eq {N : Nat} {v : SV} {s : Nat → Int32} (h : RS N v s) {x : Int32} (hx : PR x) {k : Nat} (hk : s k = pl x) (i y : Int32) : f_X7_refusalToCarry v x y = f_X10_moveFault s i k y := by
  obtain ⟨b, hb, e1, e2⟩ := h.2.2.2.2.2.1
  have ht : f_X7_thingsInVan v = f_X10_inVan s := things h.1 h.2.1.1
  unfold f_X7_refusalToCarry f_X10_moveFault
  rw [ht, e1, e2, hk]
  have k1 := pl_van hx
  have k2 := pl_barn hx hb
  by_cases c1 : x = -1
  · rw [if_pos c1, if_pos c1, if_pos (k1.mpr c1)]
    by_cases c2 : y = 1
    · rw [if_pos c2, if_pos (show (1 : Int32) = y from c2.symm)]
    · rw [if_neg c2, if_neg (show ¬ (1 : Int32) = y from fun z => c2 z.symm)]
  · rw [if_neg c1, if_neg (fun z => c1 (k1.mp z))]
    by_cases c2 : x = nI b
    · rw [if_pos c2, if_neg c1, if_pos (k2.mpr c2)]
      by_cases c3 : y = 0
      · rw [if_pos c3, if_pos (show (0 : Int32) = y from c3.symm)]
      · rw [if_neg c3, if_neg (show ¬ (0 : Int32) = y from fun z => c3 z.symm)]
    · rw [if_neg c2, if_neg (fun z => c2 (k2.mp z))]
theorem pr_barn {b : Nat} (h : b < 5) : PR (nI b) := Or.inr (Or.inr ⟨b, h, rfl⟩)
theorem pr_van : PR (-1) := Or.inr (Or.inl rfl)
theorem pl_nI {b : Nat} (h : b < 5) : pl (nI b) = nI b := (pl_barn (pr_barn h) h).mpr rfl
theorem put_rr {r : RV} {s : Nat → Int32} (h : RRel r s) {j : Nat} (hj : j < 10) (hg : ¬ r.1 j = -2) {x : Int32} (hx : PR x) (i : Int32) : RRel (f_X4_put r i j x) (upd s (5 * j + 0) (pl x)) := by
  intro a ha
  obtain ⟨⟨r0, r1, r2, r3, r4⟩, p0, p1, p2, p3⟩ := h a ha
  unfold f_X4_put
  refine ⟨⟨?_, by rw [upd_n (by omega)]; exact r1, by rw [upd_n (by omega)]; exact r2, by rw [upd_n (by omega)]; exact r3, by rw [upd_n (by omega)]; exact r4⟩, ?_, p1, ?_, p3⟩
  · by_cases c : a = j
    · subst c; rw [upd_s]; show _ = pl (upd r.1 a x a); rw [upd_s]
    · rw [upd_n (by omega)]; show _ = pl (upd r.1 j x a); rw [upd_n c]; exact r0
  · show PR (upd r.1 j x a)
    by_cases c : a = j
    · subst c; rw [upd_s]; exact hx
    · rw [upd_n c]; exact p0
  · show ¬ upd r.1 j x a = -2 → _
    by_cases c : a = j
    · subst c; intro _; exact p2 hg
    · rw [upd_n c]; exact p2
theorem put_gr {g : GV} {s : Nat → Int32} (h : GRel g s) {j : Nat} (hj : j < 2) {x : Int32} (hx : PR x) (i : Int32) : GRel (f_X2_put g i j x) (upd s (50 + 2 * j) (pl x)) := by
  intro a ha
  obtain ⟨g0, g1, g2⟩ := h a ha
  unfold f_X2_put
  refine ⟨?_, by rw [upd_n (by omega)]; exact g1, ?_⟩
  · by_cases c : a = j
    · subst c; rw [upd_s]; show _ = pl (upd g.1 a x a); rw [upd_s]
    · rw [upd_n (by omega)]; show _ = pl (upd g.1 j x a); rw [upd_n c]; exact g0
  · show PR (upd g.1 j x a)
    by_cases c : a = j
    · subst c; rw [upd_s]; exact hx
    · rw [upd_n c]; exact g2
theorem reel_rs {N : Nat} {v : SV} {s : Nat → Int32} (h : RS N v s) {j : Nat} (hj : j < 10) (hg : ¬ v.1.1 j = -2) {x : Int32} (hx : PR x) (i : Int32) : RS (N + 1) (f_X4_put v.1 i j x, v.2) (upd s (5 * j + 0) (pl x)) := by
  have e : ∀ a, 50 ≤ a → upd s (5 * j + 0) (pl x) a = s a := fun a h1 => upd_n (by omega)
  obtain ⟨h1, ⟨h2, h2b⟩, ⟨dd, d1, d2, d3, h3⟩, h4, h5, ⟨b, hb, v1, v2⟩, hp, hq⟩ := h
  exact rs_mk (put_rr h1 hj hg hx i) (gr_agree h2 (fun a q _ => e a q)) h2b d1 d2 (by rw [e 55 (by omega)]; exact d3) (br_mono (br_agree h3 (fun a q _ => e a (by omega))) (by omega)) (lr_agree h4 (fun a q _ => e a (by omega))) (ar_agree h5 (fun a q _ => e a (by omega))) hb v1 (by rw [e 54 (by omega)]; exact v2) (by rw [e 56 (by omega)]; exact hp) hq
theorem gen_rs {N : Nat} {v : SV} {s : Nat → Int32} (h : RS N v s) {j : Nat} (hj : j < 2) {x : Int32} (hx : PR x) (i : Int32) : RS (N + 1) (v.1, f_X2_put v.2.1 i j x, v.2.2) (upd s (50 + 2 * j) (pl x)) := by
  have e : ∀ a, 54 ≤ a ∨ a < 50 → upd s (50 + 2 * j) (pl x) a = s a := fun a h1 => upd_n (by omega)
  obtain ⟨h1, ⟨h2, h2b⟩, ⟨dd, d1, d2, d3, h3⟩, h4, h5, ⟨b, hb, v1, v2⟩, hp, hq⟩ := h
  exact rs_mk (rr_agree h1 (fun a q => e a (by omega))) (put_gr h2 hj hx i) h2b d1 d2 (by rw [e 55 (by omega)]; exact d3) (br_mono (br_agree h3 (fun a q _ => e a (by omega))) (by omega)) (lr_agree h4 (fun a q _ => e a (by omega))) (ar_agree h5 (fun a q _ => e a (by omega))) hb v1 (by rw [e 54 (by omega)]; exact v2) (by rw [e 56 (by omega)]; exact hp) hq
theorem reel_eq {N : Nat} {v : SV} {s : Nat → Int32} (h : RS N v s) {j : Nat} (hj : j < 10) (hg : ¬ v.1.1 j = -2) (i y : Int32) : OPR N v (f_X7_carryReel v (nI j) y) (f_X10_moveFault s i (5 * j + 0) y) (f_X10_moves s i (5 * j + 0) y) := by
  have ej : (nI j).toNatClampNeg = j := nI_clm (by omega)
  have ht : ¬ f_X4_isThere v.1 (nI j) = 0 := by
    unfold f_X4_isThere
    rw [if_neg (nI_pos (by omega)), if_neg (fun z => by have := (nle_iff (nlit 10) (nrf j) (by omega) (by omega)).mp z; omega), ej, if_neg hg]; decide
  obtain ⟨b, hb, v1, v2⟩ := h.2.2.2.2.2.1
  unfold f_X7_carryReel
  rw [if_neg ht, ej]
  unfold f_X4_placeOf
  rw [refuse_eq h (h.1 j hj).2.1 (h.1 j hj).1.1 i y]
  rcases fault_cases s i (5 * j + 0) y with c | c
  · rw [if_pos c, c]
    refine Or.inr ⟨rfl, ?_⟩
    unfold f_X10_moves
    by_cases d : y = 0
    · rw [if_pos d, if_pos d, v1, v2]
      have k := reel_rs h hj hg (pr_barn hb) (nI j)
      rw [pl_nI hb] at k
      refine ⟨van_nn _, ?_, ?_⟩
      · unfold f_X7_carryReel_q51 f_X7_carryReel_q55 f_X7_thingsInVan
        exact things k.1 k.2.1.1
      · unfold f_X7_carryReel_q51 f_X7_carryReel_q55
        exact k
    · rw [if_neg d, if_neg d]
      have k := reel_rs h hj hg pr_van (nI j)
      refine ⟨van_nn _, ?_, ?_⟩
      · unfold f_X7_carryReel_q51_2 f_X7_carryReel_q55_3 f_X7_thingsInVan
        exact things k.1 k.2.1.1
      · unfold f_X7_carryReel_q51_2 f_X7_carryReel_q55_3
        exact k
  · rw [if_neg (fun z => c (by rw [z]; decide))]
    exact Or.inl ⟨c, rfl, rfl⟩
theorem gen_eqv {N : Nat} {v : SV} {s : Nat → Int32} (h : RS N v s) {j : Nat} (hj : j < 2) (i y : Int32) : OPR N v (f_X7_carryGenerator v (nI j) y) (f_X10_moveFault s i (50 + 2 * j) y) (f_X10_moves s i (50 + 2 * j) y) := by
  have ej : (nI j).toNatClampNeg = j := nI_clm (by omega)
  obtain ⟨b, hb, v1, v2⟩ := h.2.2.2.2.2.1
  unfold f_X7_carryGenerator
  rw [if_neg (gen_of hj), ej]
  unfold f_X2_placeOf
  rw [refuse_eq h (h.2.1.1 j hj).2.2 (h.2.1.1 j hj).1 i y]
  rcases fault_cases s i (50 + 2 * j) y with c | c
  · rw [if_pos c, c]
    refine Or.inr ⟨rfl, ?_⟩
    unfold f_X10_moves
    by_cases d : y = 0
    · rw [if_pos d, if_pos d, v1, v2]
      have k := gen_rs h hj (pr_barn hb) (nI j)
      rw [pl_nI hb] at k
      refine ⟨van_nn _, ?_, ?_⟩
      · unfold f_X7_carryGenerator_q47 f_X7_carryGenerator_q51 f_X7_thingsInVan
        exact things k.1 k.2.1.1
      · unfold f_X7_carryGenerator_q47 f_X7_carryGenerator_q51
        exact k
    · rw [if_neg d, if_neg d]
      have k := gen_rs h hj pr_van (nI j)
      refine ⟨van_nn _, ?_, ?_⟩
      · unfold f_X7_carryGenerator_q47_2 f_X7_carryGenerator_q51_3 f_X7_thingsInVan
        exact things k.1 k.2.1.1
      · unfold f_X7_carryGenerator_q47_2 f_X7_carryGenerator_q51_3
        exact k
  · rw [if_neg (fun z => c (by rw [z]; decide))]
    exact Or.inl ⟨c, rfl, rfl⟩
