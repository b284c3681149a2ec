theorem of_n {x y : Int32} {a b : Nat} (hx : x = nI a) (hy : y = nI b) : f_X10_of x y = nI (5 * a + b) := by
  rw [hx, hy]; unfold f_X10_of
  have e := nadd (nadd (nlit 0) (nmul (nlit 5) (nrf a))) (nrf b)
  exact Eq.trans e (by congr 1; omega)
theorem in_n {x : Int32} {N : Int32} (n : Nat) (h : ¬ f_X10_in x 0 N = 0) (hN : N = nI n) (hn : n < 2 ^ 30) : x = nI x.toNatClampNeg ∧ x.toNatClampNeg ≤ n := by
  unfold f_X10_in at h
  by_cases h1 : x < 0
  · rw [if_pos h1] at h; exact absurd rfl h
  · by_cases h2 : N < x
    · rw [if_neg h1, if_pos h2] at h; exact absurd rfl h
    · have h3 : ¬ nI (n + 1) ≤ x := by
        intro h4; apply h2; subst hN
        have h5 := Int32.not_lt.mp h1
        rw [Int32.le_iff_toInt_le] at h4
        rw [Int32.lt_iff_toInt_lt, nI_toInt (by omega)]
        rw [nI_toInt (by omega)] at h4
        omega
      obtain ⟨j, rfl, hj⟩ := rg_nat (n + 1) h1 h3 rfl (by omega)
      rw [nI_clamp (by omega)]
      exact ⟨rfl, by omega⟩
theorem mBarn_n {x : Int32} (h : ¬ f_X10_isBarn x = 0) : x = nI x.toNatClampNeg ∧ x.toNatClampNeg < 5 := by
  obtain ⟨a, b⟩ := in_n (N := 4) 4 h rfl (by decide)
  exact ⟨a, by omega⟩
theorem mGen_n {x : Int32} (h : ¬ f_X10_isGenerator x = 0) : x = nI x.toNatClampNeg ∧ x.toNatClampNeg < 2 := by
  obtain ⟨a, b⟩ := in_n (N := 1) 1 h rfl (by decide)
  exact ⟨a, by omega⟩
theorem iX10_isReel_X10 : ∀ w ∈ wsX100, w ∈ wsX10_isReel := by decide +kernel
def f_X10_isReel (s : (Nat → Int32)) (x : Int32) : Int32 := if (f_X10_in x 0 9) = 0 then 0 else if (s (5 * x.toNatClampNeg + 0)) = (-2) then 0 else 1
set_option maxRecDepth 100000 in
set_option maxHeartbeats 1000000 in
theorem c_X10_isReel (l : Launch) (D : va_G) (z : ClassId × ClassId × ClassId) (h h1 h2 h3 h4 h5 : Nat) (v : MV) (x : Int32) (sz : Nat) : CI l yX10_isReel wsX10_isReel 1 22 0 0 [.ref h, .int x] D z (wX10 z h h1 h2 h3 h4 h5 v) sz (E0) (fun (zr : Int32) (_ : Unit) => zr = f_X10_isReel v.1 x ∧ (zr = 0 ∨ zr = 1)) (fun _ => wX10 z h h1 h2 h3 h4 h5 v) := by
  refine met_i cX10_isReel 2 (some .boolean) (by decide) rfl (Nat.le_of_ble_eq_true rfl) ?_
  intro p e s m args below meth c R Q hx hb hr hml hts hown hlocks hin hRf hRl hRc hRs hc0 hs0 A H hA hP hK hD hS hE hQ ls hl
  have hl : lv_has ls 2 [(0, .ref h), (1, .int x)] := hl
  have hP : va_P D vwCl [(h, .inr (10, [.ref h1, .ref h2, .ref h3, .int v.2.2.2.1, .ref h4, .int v.2.2.2.2.2.1, .ref h5, .int v.2.2.2.2.2.2.2.1, .int v.2.2.2.2.2.2.2.2.1, .int v.2.2.2.2.2.2.2.2.2.1, .int v.2.2.2.2.2.2.2.2.2.2.1, .int v.2.2.2.2.2.2.2.2.2.2.2.1, .int v.2.2.2.2.2.2.2.2.2.2.2.2.1, .int v.2.2.2.2.2.2.2.2.2.2.2.2.2.1, .int v.2.2.2.2.2.2.2.2.2.2.2.2.2.2.1, .int v.2.2.2.2.2.2.2.2.2.2.2.2.2.2.2])), (h1, .inl (z.1, 108, .inl v.1)), (h2, .inl (z.1, 108, .inl v.2.1)), (h3, .inl (z.1, 432, .inl v.2.2.1)), (h4, .inl (z.1, 108, .inl v.2.2.2.2.1)), (h5, .inl (z.1, 80, .inl v.2.2.2.2.2.2.1))] H := hP
  have hD : va_D A [(h, .inr (10, [.ref h1, .ref h2, .ref h3, .int v.2.2.2.1, .ref h4, .int v.2.2.2.2.2.1, .ref h5, .int v.2.2.2.2.2.2.2.1, .int v.2.2.2.2.2.2.2.2.1, .int v.2.2.2.2.2.2.2.2.2.1, .int v.2.2.2.2.2.2.2.2.2.2.1, .int v.2.2.2.2.2.2.2.2.2.2.2.1, .int v.2.2.2.2.2.2.2.2.2.2.2.2.1, .int v.2.2.2.2.2.2.2.2.2.2.2.2.2.1, .int v.2.2.2.2.2.2.2.2.2.2.2.2.2.2.1, .int v.2.2.2.2.2.2.2.2.2.2.2.2.2.2.2])), (h1, .inl (z.1, 108, .inl v.1)), (h2, .inl (z.1, 108, .inl v.2.1)), (h3, .inl (z.1, 432, .inl v.2.2.1)), (h4, .inl (z.1, 108, .inl v.2.2.2.2.1)), (h5, .inl (z.1, 80, .inl v.2.2.2.2.2.2.1))] := hD
  have hown : s.vm.findClass RX10 = some m.cls := hown
  refine lv_iload_n hx hb dX10_isReel_0 rfl (lv_at hl 1 rfl) ?_
  refine lv_iconst (v := 0) hx hb dX10_isReel_1 (by decide) ?_
  refine lv_bipush (v := 9) hx hb dX10_isReel_2 (by decide) ?_
  refine call_i [(h, .inr (10, [.ref h1, .ref h2, .ref h3, .int v.2.2.2.1, .ref h4, .int v.2.2.2.2.2.1, .ref h5, .int v.2.2.2.2.2.2.2.1, .int v.2.2.2.2.2.2.2.2.1, .int v.2.2.2.2.2.2.2.2.2.1, .int v.2.2.2.2.2.2.2.2.2.2.1, .int v.2.2.2.2.2.2.2.2.2.2.2.1, .int v.2.2.2.2.2.2.2.2.2.2.2.2.1, .int v.2.2.2.2.2.2.2.2.2.2.2.2.2.1, .int v.2.2.2.2.2.2.2.2.2.2.2.2.2.2.1, .int v.2.2.2.2.2.2.2.2.2.2.2.2.2.2.2])), (h1, .inl (z.1, 108, .inl v.1)), (h2, .inl (z.1, 108, .inl v.2.1)), (h3, .inl (z.1, 432, .inl v.2.2.1)), (h4, .inl (z.1, 108, .inl v.2.2.2.2.1)), (h5, .inl (z.1, 80, .inl v.2.2.2.2.2.2.1))] (fun _ => [(h, .inr (10, [.ref h1, .ref h2, .ref h3, .int v.2.2.2.1, .ref h4, .int v.2.2.2.2.2.1, .ref h5, .int v.2.2.2.2.2.2.2.1, .int v.2.2.2.2.2.2.2.2.1, .int v.2.2.2.2.2.2.2.2.2.1, .int v.2.2.2.2.2.2.2.2.2.2.1, .int v.2.2.2.2.2.2.2.2.2.2.2.1, .int v.2.2.2.2.2.2.2.2.2.2.2.2.1, .int v.2.2.2.2.2.2.2.2.2.2.2.2.2.1, .int v.2.2.2.2.2.2.2.2.2.2.2.2.2.2.1, .int v.2.2.2.2.2.2.2.2.2.2.2.2.2.2.2])), (h1, .inl (z.1, 108, .inl v.1)), (h2, .inl (z.1, 108, .inl v.2.1)), (h3, .inl (z.1, 432, .inl v.2.2.1)), (h4, .inl (z.1, 108, .inl v.2.2.2.2.1)), (h5, .inl (z.1, 80, .inl v.2.2.2.2.2.2.1))]) (rS (As := [.int x, .int 0, .int 9]) (rest := []) ⟨hx, hb, hml, hown, hts⟩ (c_X10_in l D z x 0 9 H.size) (va_cwS 3 hts gX10_isReel_X10_in rfl rfl rfl (by decide +kernel) ⟨Nat.le_trans (by decide) hRf, Nat.le_trans (by decide) hRl⟩) e0_ok e_0 hK hP hD [] (by decide) rfl rfl hl.1 rfl (Nat.le_of_ble_eq_true rfl) dX10_isReel_4 ⟨Nat.zero_le _, Nat.zero_le _⟩) hK hP hD hS hA [] [0, 1, 2, 3, 4, 5] [0, 1, 2, 3, 4, 5] rfl rfl (by decide) (by decide) (by decide) (fun _ => rfl) (fun zr zu H locs hw hP hD hS => ?_)
  obtain ⟨hw, hz_1⟩ := hw
  subst hw
  have hP : va_P D vwCl [(h, .inr (10, [.ref h1, .ref h2, .ref h3, .int v.2.2.2.1, .ref h4, .int v.2.2.2.2.2.1, .ref h5, .int v.2.2.2.2.2.2.2.1, .int v.2.2.2.2.2.2.2.2.1, .int v.2.2.2.2.2.2.2.2.2.1, .int v.2.2.2.2.2.2.2.2.2.2.1, .int v.2.2.2.2.2.2.2.2.2.2.2.1, .int v.2.2.2.2.2.2.2.2.2.2.2.2.1, .int v.2.2.2.2.2.2.2.2.2.2.2.2.2.1, .int v.2.2.2.2.2.2.2.2.2.2.2.2.2.2.1, .int v.2.2.2.2.2.2.2.2.2.2.2.2.2.2.2])), (h1, .inl (z.1, 108, .inl v.1)), (h2, .inl (z.1, 108, .inl v.2.1)), (h3, .inl (z.1, 432, .inl v.2.2.1)), (h4, .inl (z.1, 108, .inl v.2.2.2.2.1)), (h5, .inl (z.1, 80, .inl v.2.2.2.2.2.2.1))] H := hP
  have hD : va_D A [(h, .inr (10, [.ref h1, .ref h2, .ref h3, .int v.2.2.2.1, .ref h4, .int v.2.2.2.2.2.1, .ref h5, .int v.2.2.2.2.2.2.2.1, .int v.2.2.2.2.2.2.2.2.1, .int v.2.2.2.2.2.2.2.2.2.1, .int v.2.2.2.2.2.2.2.2.2.2.1, .int v.2.2.2.2.2.2.2.2.2.2.2.1, .int v.2.2.2.2.2.2.2.2.2.2.2.2.1, .int v.2.2.2.2.2.2.2.2.2.2.2.2.2.1, .int v.2.2.2.2.2.2.2.2.2.2.2.2.2.2.1, .int v.2.2.2.2.2.2.2.2.2.2.2.2.2.2.2])), (h1, .inl (z.1, 108, .inl v.1)), (h2, .inl (z.1, 108, .inl v.2.1)), (h3, .inl (z.1, 432, .inl v.2.2.1)), (h4, .inl (z.1, 108, .inl v.2.2.2.2.1)), (h5, .inl (z.1, 80, .inl v.2.2.2.2.2.2.1))] := hD
  refine lv_if_eq (tgt := 29) hx hb dX10_isReel_7 (by decide) (fun c_2 => ?_) (fun c_2 => ?_)
  · refine lv_iconst (v := 0) hx hb dX10_isReel_29 (by decide) ?_
    subst hQ
    exact ret_z () hx hb hr rfl hK hP hD hS rfl ⟨(by unfold f_X10_isReel; rw [if_pos c_2]; try rfl), (Or.inl rfl)⟩ dX10_isReel_30 hlocks
  · obtain ⟨en_k_3, bn_k_3⟩ := in_n (N := 9) 9 c_2 rfl (by decide)
    refine lv_aload_n hx hb dX10_isReel_10 rfl (lv_at hl 0 rfl) ?_
    refine va_get (D := D) (ci := 10) (v := .ref h1) (C := RX10) (T := TX10) (N := 16) hx hb hts iX10_isReel_X10 hown hK hP 0 rfl rfl 0 (by decide) (hts (.fieldLink RX10 7 "BarnPicturesModel" "s" "[I") (by decide +kernel)) (fun _ h9 => h9) rfl dX10_isReel_11 ?_
    refine lv_iload_n hx hb dX10_isReel_14 rfl (lv_at hl 1 rfl) ?_
    refine lv_iconst (v := 0) hx hb dX10_isReel_15 (by decide) ?_
    refine call_i [(h, .inr (10, [.ref h1, .ref h2, .ref h3, .int v.2.2.2.1, .ref h4, .int v.2.2.2.2.2.1, .ref h5, .int v.2.2.2.2.2.2.2.1, .int v.2.2.2.2.2.2.2.2.1, .int v.2.2.2.2.2.2.2.2.2.1, .int v.2.2.2.2.2.2.2.2.2.2.1, .int v.2.2.2.2.2.2.2.2.2.2.2.1, .int v.2.2.2.2.2.2.2.2.2.2.2.2.1, .int v.2.2.2.2.2.2.2.2.2.2.2.2.2.1, .int v.2.2.2.2.2.2.2.2.2.2.2.2.2.2.1, .int v.2.2.2.2.2.2.2.2.2.2.2.2.2.2.2])), (h1, .inl (z.1, 108, .inl v.1)), (h2, .inl (z.1, 108, .inl v.2.1)), (h3, .inl (z.1, 432, .inl v.2.2.1)), (h4, .inl (z.1, 108, .inl v.2.2.2.2.1)), (h5, .inl (z.1, 80, .inl v.2.2.2.2.2.2.1))] (fun _ => [(h, .inr (10, [.ref h1, .ref h2, .ref h3, .int v.2.2.2.1, .ref h4, .int v.2.2.2.2.2.1, .ref h5, .int v.2.2.2.2.2.2.2.1, .int v.2.2.2.2.2.2.2.2.1, .int v.2.2.2.2.2.2.2.2.2.1, .int v.2.2.2.2.2.2.2.2.2.2.1, .int v.2.2.2.2.2.2.2.2.2.2.2.1, .int v.2.2.2.2.2.2.2.2.2.2.2.2.1, .int v.2.2.2.2.2.2.2.2.2.2.2.2.2.1, .int v.2.2.2.2.2.2.2.2.2.2.2.2.2.2.1, .int v.2.2.2.2.2.2.2.2.2.2.2.2.2.2.2])), (h1, .inl (z.1, 108, .inl v.1)), (h2, .inl (z.1, 108, .inl v.2.1)), (h3, .inl (z.1, 432, .inl v.2.2.1)), (h4, .inl (z.1, 108, .inl v.2.2.2.2.1)), (h5, .inl (z.1, 80, .inl v.2.2.2.2.2.2.1))]) (rS (As := [.int x, .int 0]) (rest := [.ref h1]) ⟨hx, hb, hml, hown, hts⟩ (c_X10_of l D z x 0 H.size) (va_cwS 2 hts gX10_isReel_X10_of rfl rfl rfl (by decide +kernel) ⟨Nat.le_trans (by decide) hRf, Nat.le_trans (by decide) hRl⟩) e0_ok e_0 hK hP hD [] (by decide) rfl rfl hl.1 rfl (Nat.le_of_ble_eq_true rfl) dX10_isReel_16 ⟨Nat.zero_le _, Nat.zero_le _⟩) hK hP hD hS hA [] [0, 1, 2, 3, 4, 5] [0, 1, 2, 3, 4, 5] rfl rfl (by decide) (by decide) (by decide) (fun _ => rfl) (fun zr zu H locs hw hP hD hS => ?_)
    subst hw
    have hP : va_P D vwCl [(h, .inr (10, [.ref h1, .ref h2, .ref h3, .int v.2.2.2.1, .ref h4, .int v.2.2.2.2.2.1, .ref h5, .int v.2.2.2.2.2.2.2.1, .int v.2.2.2.2.2.2.2.2.1, .int v.2.2.2.2.2.2.2.2.2.1, .int v.2.2.2.2.2.2.2.2.2.2.1, .int v.2.2.2.2.2.2.2.2.2.2.2.1, .int v.2.2.2.2.2.2.2.2.2.2.2.2.1, .int v.2.2.2.2.2.2.2.2.2.2.2.2.2.1, .int v.2.2.2.2.2.2.2.2.2.2.2.2.2.2.1, .int v.2.2.2.2.2.2.2.2.2.2.2.2.2.2.2])), (h1, .inl (z.1, 108, .inl v.1)), (h2, .inl (z.1, 108, .inl v.2.1)), (h3, .inl (z.1, 432, .inl v.2.2.1)), (h4, .inl (z.1, 108, .inl v.2.2.2.2.1)), (h5, .inl (z.1, 80, .inl v.2.2.2.2.2.2.1))] H := hP
    have hD : va_D A [(h, .inr (10, [.ref h1, .ref h2, .ref h3, .int v.2.2.2.1, .ref h4, .int v.2.2.2.2.2.1, .ref h5, .int v.2.2.2.2.2.2.2.1, .int v.2.2.2.2.2.2.2.2.1, .int v.2.2.2.2.2.2.2.2.2.1, .int v.2.2.2.2.2.2.2.2.2.2.1, .int v.2.2.2.2.2.2.2.2.2.2.2.1, .int v.2.2.2.2.2.2.2.2.2.2.2.2.1, .int v.2.2.2.2.2.2.2.2.2.2.2.2.2.1, .int v.2.2.2.2.2.2.2.2.2.2.2.2.2.2.1, .int v.2.2.2.2.2.2.2.2.2.2.2.2.2.2.2])), (h1, .inl (z.1, 108, .inl v.1)), (h2, .inl (z.1, 108, .inl v.2.1)), (h3, .inl (z.1, 432, .inl v.2.2.1)), (h4, .inl (z.1, 108, .inl v.2.2.2.2.1)), (h5, .inl (z.1, 80, .inl v.2.2.2.2.2.2.1))] := hD
    refine iald_k hx hb hK hP 1 rfl (5 * x.toNatClampNeg + 0) (ix_of (of_n en_k_3 (nlit 0)) (by omega) (by decide)) dX10_isReel_19 ?_
    refine lv_bipush (v := (-2)) hx hb dX10_isReel_20 (by decide) ?_
    refine lv_icmp_eq (tgt := 29) hx hb dX10_isReel_22 (by decide) (fun c_4 => ?_) (fun c_4 => ?_)
    · refine lv_iconst (v := 0) hx hb dX10_isReel_29 (by decide) ?_
      subst hQ
      exact ret_z () hx hb hr rfl hK hP hD hS rfl ⟨(by unfold f_X10_isReel; rw [if_neg c_2, if_pos c_4]; try rfl), (Or.inl rfl)⟩ dX10_isReel_30 hlocks
    · refine lv_iconst (v := 1) hx hb dX10_isReel_25 (by decide) ?_
      refine lv_goto (tgt := 30) hx hb dX10_isReel_26 (by decide) ?_
      subst hQ
      exact ret_z () hx hb hr rfl hK hP hD hS rfl ⟨(by unfold f_X10_isReel; rw [if_neg c_2, if_neg c_4]; try rfl), (Or.inr rfl)⟩ dX10_isReel_30 hlocks

