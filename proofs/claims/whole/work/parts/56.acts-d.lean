/-! a show: the prints that are played -/
theorem rr_set {r r2 : RV} {q t : Nat → Int32} (h : RRel r q) {k : Nat} {p m w sp pz : Int32} (a0 : r2.1 k = p) (a1 : r2.2.1 k = m) (a2 : r2.2.2.1 k = w) (a3 : r2.2.2.2.1 k = sp) (a4 : r2.2.2.2.2 k = pz)
    (b : ∀ a, a ≠ k → r2.1 a = r.1 a ∧ r2.2.1 a = r.2.1 a ∧ r2.2.2.1 a = r.2.2.1 a ∧ r2.2.2.2.1 a = r.2.2.2.1 a ∧ r2.2.2.2.2 a = r.2.2.2.2 a)
    (t0 : t (5 * k + 0) = pl p) (t1 : t (5 * k + 1) = m) (t2 : t (5 * k + 2) = w) (t3 : t (5 * k + 3) = sp) (t4 : t (5 * k + 4) = pz) (u : ∀ a, a < 50 → a / 5 ≠ k → t a = q a)
    (c0 : PR p) (c1 : ∃ n, n < 40 ∧ w = nI n) (c2 : ¬ p = -2 → ∃ n, n < 18 ∧ m = nI n) (c3 : ∃ n, n < 32 ∧ pz = nI n) : RRel r2 t := by
  intro a ha
  by_cases c : a = k
  · subst c
    exact ⟨⟨by rw [t0, a0], by rw [t1, a1], by rw [t2, a2], by rw [t3, a3], by rw [t4, a4]⟩, by rw [a0]; exact c0, by rw [a2]; exact c1, by rw [a0, a1]; exact c2, by rw [a4]; exact c3⟩
  · obtain ⟨⟨r0, r1, r2, r3, r4⟩, p0, p1, p2, p3⟩ := h a ha
    obtain ⟨b0, b1, b2, b3, b4⟩ := b a c
    exact ⟨⟨by rw [u _ (by omega) (by omega), b0]; exact r0, by rw [u _ (by omega) (by omega), b1]; exact r1, by rw [u _ (by omega) (by omega), b2]; exact r2, by rw [u _ (by omega) (by omega), b3]; exact r3, by rw [u _ (by omega) (by omega), b4]; exact r4⟩, by rw [b0]; exact p0, by rw [b2]; exact p1, by rw [b0, b1]; exact p2, by rw [b4]; exact p3⟩
theorem pr_gone : PR (-2) := Or.inl rfl
theorem play_one {r : RV} {q : Nat → Int32} (h : RRel r q) {k b : Nat} (hk : k < 10) (hb : b < 5) (hp : r.1 k = nI b) : ∀ (t : Nat → Int32) (P : Int32 × RV), t = f_X10_wear (upd q (5 * k + 4) (q (5 * k + 4) ||| (1 <<< (nI b &&& 31)))) (nI k) k (5 + (nI b - nI b / 3 * 3)) (5 + b % 3) → P = f_X4_playOne r (nI k) k (nI b) b →
    RRel P.2 t ∧ t 76 = q 76 + P.1 ∧ (∀ a, 50 ≤ a → a ≠ 76 → t a = q a) ∧ (∀ a, a ≠ k → P.2.1 a = r.1 a) := by
  intro t P ht hP
  obtain ⟨⟨r0, r1, r2, r3, r4⟩, p0, ⟨w, hw, ew⟩, p2, ⟨p, hpl, ep⟩⟩ := h k hk
  have hng : ¬ nI b = -2 := by
    rcases (show b = 0 ∨ b = 1 ∨ b = 2 ∨ b = 3 ∨ b = 4 by omega) with rfl | rfl | rfl | rfl | rfl <;> decide
  obtain ⟨m, hm, em⟩ := p2 (by rw [hp]; exact hng)
  obtain ⟨p', hp', ep'⟩ := bit_or b hb p hpl
  have ey : (5 + (nI b - nI b / 3 * 3) : Int32) = nI (5 + b % 3) := nadd rfl (nrem_any rfl (by omega))
  have ez : q (5 * k + 4) ||| (1 <<< (nI b &&& 31)) = nI p' := by rw [r4, ep]; exact ep'
  have ez2 : r.2.2.2.2 k ||| (1 <<< (nI b &&& 31)) = nI p' := by rw [ep]; exact ep'
  unfold f_X10_wear at ht
  rw [ey, ez] at ht
  have g2 : upd q (5 * k + 4) (nI p') (5 * k + 2) = nI w := by rw [upd_n (by omega), r2, ew]
  have g1 : upd q (5 * k + 4) (nI p') (5 * k + 1) = nI m := by rw [upd_n (by omega), r1, em]
  have g0 : upd q (5 * k + 4) (nI p') (5 * k + 0) = nI b := by rw [upd_n (by omega), r0, hp, pl_nI hb]
  have g3 : upd q (5 * k + 4) (nI p') (5 * k + 3) = r.2.2.2.1 k := by rw [upd_n (by omega), r3]
  have g6 : upd q (5 * k + 4) (nI p') 76 = q 76 := upd_n (by omega)
  have ewy : nI w + nI (5 + b % 3) = nI (w + (5 + b % 3)) := nadd rfl rfl
  rw [g2, g1, g0, g3, g6, ewy] at ht
  unfold f_X4_playOne at hP
  rw [ez2, ey, ew, em, ewy, Int32.sub_zero, Int32.add_zero] at hP
  have kc : nI (w + (5 + b % 3)) < 40 ↔ w + (5 + b % 3) < 40 := nlt_iff rfl (nlit 40) (by omega) (by omega)
  have kd : 3 ≤ nI m ↔ 3 ≤ m := nle_iff (nlit 3) rfl (by omega) (by omega)
  by_cases c : nI (w + (5 + b % 3)) < 40
  · rw [if_pos c] at ht hP
    have c9 := kc.mp c
    by_cases d : 3 ≤ nI m
    · rw [if_pos d] at ht hP
      subst ht hP
      refine ⟨rr_set h hp (upd_s _ _ _) (upd_s _ _ _) (upd_s _ _ _) (upd_s _ _ _) (fun a c => ⟨rfl, upd_n c, upd_n c, upd_n c, upd_n c⟩) (by rw [upd_s, pl_nI hb]) (by rw [upd_n (by omega), upd_n (by omega), upd_n (by omega), r1, em]) (by rw [upd_n (by omega), upd_s]) (by rw [upd_n (by omega), upd_n (by omega), upd_n (by omega), r3]) (by rw [upd_n (by omega), upd_n (by omega), upd_s]) (fun a h1 h2 => by rw [upd_n (by omega), upd_n (by omega), upd_n (by omega)]) (pr_barn hb) ⟨w + (5 + b % 3), by omega, rfl⟩ (fun _ => ⟨m, hm, rfl⟩) ⟨p', hp', rfl⟩, ?_, ?_, ?_⟩
      · rw [upd_n (by omega), upd_n (by omega), upd_n (by omega)]; exact (Int32.add_zero _).symm
      · intro a h1 h2; rw [upd_n (by omega), upd_n (by omega), upd_n (by omega)]
      · intro a c; exact rfl
    · rw [if_neg d] at ht hP
      subst ht hP
      refine ⟨rr_set h (upd_s _ _ _) (upd_s _ _ _) (upd_s _ _ _) (upd_s _ _ _) (upd_s _ _ _) (fun a c => ⟨upd_n c, upd_n c, upd_n c, upd_n c, upd_n c⟩) (by rw [upd_s]; rfl) (by rw [upd_n (by omega), upd_n (by omega), upd_n (by omega), r1, em]) (by rw [upd_n (by omega), upd_s]) (by rw [upd_n (by omega), upd_n (by omega), upd_n (by omega), r3]) (by rw [upd_n (by omega), upd_n (by omega), upd_s]) (fun a h1 h2 => by rw [upd_n (by omega), upd_n (by omega), upd_n (by omega)]) pr_gone ⟨w + (5 + b % 3), by omega, rfl⟩ (fun z => absurd rfl z) ⟨p', hp', rfl⟩, ?_, ?_, ?_⟩
      · rw [upd_n (by omega), upd_n (by omega), upd_n (by omega)]; exact (Int32.add_zero _).symm
      · intro a h1 h2; rw [upd_n (by omega), upd_n (by omega), upd_n (by omega)]
      · intro a c; exact upd_n c
  · rw [if_neg c] at ht hP
    have c9 : ¬ w + (5 + b % 3) < 40 := fun z => c (kc.mpr z)
    by_cases d : 3 ≤ nI m - 1
    · rw [if_pos d] at ht hP
      have hm1 : 1 ≤ m := by
        rcases Nat.eq_zero_or_pos m with z | z
        · rw [z] at d; exact absurd d (by decide)
        · exact z
      subst ht hP
      refine ⟨rr_set h hp (upd_s _ _ _) (upd_s _ _ _) (upd_s _ _ _) (upd_s _ _ _) (fun a c => ⟨rfl, upd_n c, (upd_n c).trans (upd_n c), upd_n c, upd_n c⟩) (by rw [upd_s, pl_nI hb]) (by rw [upd_n (by omega), upd_n (by omega), upd_n (by omega), upd_s]) (by rw [upd_n (by omega), upd_n (by omega), upd_n (by omega), upd_n (by omega), upd_s]) (by rw [upd_n (by omega), upd_n (by omega), upd_s]) (by rw [upd_n (by omega), upd_n (by omega), upd_n (by omega), upd_n (by omega), upd_n (by omega), upd_n (by omega), upd_s]) (fun a h1 h2 => by rw [upd_n (by omega), upd_n (by omega), upd_n (by omega), upd_n (by omega), upd_n (by omega), upd_n (by omega), upd_n (by omega)]) (pr_barn hb) ⟨w + (5 + b % 3) - 20, by omega, nsub rfl (nlit 20) (by omega)⟩ (fun _ => ⟨m - 1, by omega, nsub rfl (nlit 1) (by omega)⟩) ⟨p', hp', rfl⟩, ?_, ?_, ?_⟩
      · rw [upd_n (by omega), upd_s]
      · intro a h1 h2; rw [upd_n (by omega), upd_n (by omega), upd_n (by omega), upd_n (by omega), upd_n (by omega), upd_n (by omega), upd_n (by omega)]
      · intro a c; exact rfl
    · rw [if_neg d] at ht hP
      subst ht hP
      refine ⟨rr_set h (upd_s _ _ _) (upd_s _ _ _) (upd_s _ _ _) (upd_s _ _ _) (upd_s _ _ _) (fun a c => ⟨upd_n c, upd_n c, (upd_n c).trans (upd_n c), upd_n c, upd_n c⟩) (by rw [upd_s]; rfl) (by rw [upd_n (by omega), upd_n (by omega), upd_n (by omega), upd_s]) (by rw [upd_n (by omega), upd_n (by omega), upd_n (by omega), upd_n (by omega), upd_s]) (by rw [upd_n (by omega), upd_n (by omega), upd_s]) (by rw [upd_n (by omega), upd_n (by omega), upd_n (by omega), upd_n (by omega), upd_n (by omega), upd_n (by omega), upd_s]) (fun a h1 h2 => by rw [upd_n (by omega), upd_n (by omega), upd_n (by omega), upd_n (by omega), upd_n (by omega), upd_n (by omega), upd_n (by omega)]) pr_gone ⟨w + (5 + b % 3) - 20, by omega, nsub rfl (nlit 20) (by omega)⟩ (fun z => absurd rfl z) ⟨p', hp', rfl⟩, ?_, ?_, ?_⟩
      · rw [upd_n (by omega), upd_s]
      · intro a h1 h2; rw [upd_n (by omega), upd_n (by omega), upd_n (by omega), upd_n (by omega), upd_n (by omega), upd_n (by omega), upd_n (by omega)]
      · intro a c; exact upd_n c
