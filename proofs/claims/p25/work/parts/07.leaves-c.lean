theorem isGen_nat {x : Int32} (h : ¬ f_X9_isGenerator x = 0) : ∃ j, x = nI j ∧ j < 2 := by
  unfold f_X9_isGenerator at h
  by_cases h1 : x < 0
  · rw [if_pos h1] at h; exact absurd rfl h
  · by_cases h2 : (2 : Int32) ≤ x
    · rw [if_neg h1, if_pos h2] at h; exact absurd rfl h
    · exact rg_nat 2 h1 h2 rfl (by decide)
theorem isGen_in {x : Int32} (h : ¬ f_X9_isGenerator x = 0) : vp_in x 2 := by
  obtain ⟨j, e, hj⟩ := isGen_nat h
  exact (ix_of e hj (by decide)).1
theorem isBarn_nat {x : Int32} (h : ¬ f_X9_isBarn x = 0) : ∃ j, x = nI j ∧ j < 5 := by
  unfold f_X9_isBarn at h
  by_cases h1 : x < 0
  · rw [if_pos h1] at h; exact absurd rfl h
  · by_cases h2 : (5 : Int32) ≤ x
    · rw [if_neg h1, if_pos h2] at h; exact absurd rfl h
    · exact rg_nat 5 h1 h2 rfl (by decide)
theorem isThere_nat {v : RV} {x : Int32} (h : ¬ f_X4_isThere v x = 0) : ∃ j, x = nI j ∧ j < 10 ∧ ¬ v.1 j = -2 := by
  unfold f_X4_isThere at h
  by_cases h1 : x < 0
  · rw [if_pos h1] at h; exact absurd rfl h
  · by_cases h2 : (10 : Int32) ≤ x
    · rw [if_neg h1, if_pos h2] at h; exact absurd rfl h
    · obtain ⟨j, e, hj⟩ := rg_nat 10 h1 h2 rfl (by decide)
      subst e
      by_cases h3 : v.1 (nI j).toNatClampNeg = -2
      · rw [if_neg h1, if_neg h2, if_pos h3] at h; exact absurd rfl h
      · rw [nI_clamp (by omega)] at h3; exact ⟨j, rfl, hj, h3⟩
theorem isThere_n {v : RV} {x : Int32} (h : ¬ f_X4_isThere v x = 0) : x = nI x.toNatClampNeg ∧ x.toNatClampNeg < 10 ∧ ¬ v.1 x.toNatClampNeg = -2 := by
  obtain ⟨j, rfl, hj, h2⟩ := isThere_nat h
  rw [nI_clamp (by omega)]
  exact ⟨rfl, hj, h2⟩
theorem isGen_n {x : Int32} (h : ¬ f_X9_isGenerator x = 0) : x = nI x.toNatClampNeg ∧ x.toNatClampNeg < 2 := by
  obtain ⟨j, rfl, hj⟩ := isGen_nat h
  rw [nI_clamp (by omega)]
  exact ⟨rfl, hj⟩
theorem isBarn_n {x : Int32} (h : ¬ f_X9_isBarn x = 0) : x = nI x.toNatClampNeg ∧ x.toNatClampNeg < 5 := by
  obtain ⟨j, rfl, hj⟩ := isBarn_nat h
  rw [nI_clamp (by omega)]
  exact ⟨rfl, hj⟩
/-- the wear of each reel is below 40 -/
def WOK (v : RV) : Prop := ∀ j, j < 10 → ∃ w, w < 40 ∧ v.2.2.1 j = nI w
theorem vp_lt {x y : Int32} {n : Nat} (h1 : ¬ x < 0) (h2 : ¬ y ≤ x) (h3 : y.toInt ≤ n) : vp_in x n := by
  rw [vp_in_iff]
  have h4 := Int32.not_lt.mp h1
  have h5 := Int32.not_le.mp h2
  rw [Int32.le_iff_toInt_le] at h4
  rw [Int32.lt_iff_toInt_lt] at h5
  exact ⟨h4, by omega⟩
theorem iX2_burn_X2 : ∀ w ∈ wsX20, w ∈ wsX2_burn := by decide +kernel
def f_X2_burn (v : GV) (x : Int32) (y : Int32) : GV := if (f_X9_isGenerator x) = 0 then v else (v.1, (upd v.2 x.toNatClampNeg ((v.2 x.toNatClampNeg) - y)))
set_option maxRecDepth 100000 in
set_option maxHeartbeats 1000000 in
theorem c_X2_burn (l : Launch) (D : va_G) (z : ClassId × ClassId × ClassId) (tM tS : Nat) (h h1 h2 : Nat) (v : GV) (x : Int32) (y : Int32) (sz : Nat) : CV l yX2_burn wsX2_burn 1 20 0 0 [.ref h, .int x, .int y] D z (wX2 z h h1 h2 v) sz (EV tM tS) (fun (zu : GV) => zu = f_X2_burn v x y) (fun zu => wX2 z h h1 h2 zu) := by
  refine met_v cX2_burn 3 (by decide) rfl (Nat.le_of_ble_eq_true rfl) ?_
  intro p e s m args below meth c R Q hx hb hr hml hts hown hlocks hin hRf hRl hRc hRs hc0 hs0 A H hA hP hK hD hS hE hQ ls hl
  have hl : lv_has ls 3 [(0, .ref h), (1, .int x), (2, .int y)] := hl
  have hP : va_P D vwCl [(h, .inr (2, [.ref h1, .ref h2])), (h1, .inl (z.1, 2, .inl v.1)), (h2, .inl (z.1, 2, .inl v.2))] H := hP
  have hD : va_D A [(h, .inr (2, [.ref h1, .ref h2])), (h1, .inl (z.1, 2, .inl v.1)), (h2, .inl (z.1, 2, .inl v.2))] := hD
  have hown : s.vm.findClass RX2 = some m.cls := hown
  refine lv_iload_n hx hb dX2_burn_0 rfl (lv_at hl 1 rfl) ?_
  refine call_i [(h, .inr (2, [.ref h1, .ref h2])), (h1, .inl (z.1, 2, .inl v.1)), (h2, .inl (z.1, 2, .inl v.2))] (fun _ => [(h, .inr (2, [.ref h1, .ref h2])), (h1, .inl (z.1, 2, .inl v.1)), (h2, .inl (z.1, 2, .inl v.2))]) (rSN (As := [.int x]) (rest := []) ⟨hx, hb, hml, hown, hts⟩ (c_X9_isGenerator l D z x H.size) ⟨va_cnB 1 hts gX2_burn_X9_isGenerator_n24 rfl rfl rfl hE.1.2.2.2.2.2.2.2.2.2.2.2.2.2 (hts (.initialized RX9) (by decide +kernel)) (by decide +kernel) ⟨Nat.le_trans (by decide) hRf, Nat.le_trans (by decide) hRl⟩, hts (.static yX9_isGenerator) (by decide +kernel), trivial⟩ e0_ok e_0 hK hP hD [] (by decide) rfl rfl hl.1 rfl (Nat.le_of_ble_eq_true rfl) dX2_burn_1 ⟨Nat.zero_le _, Nat.zero_le _⟩) hK hP hD hS hA [] [0, 1, 2] [0, 1, 2] rfl rfl (by decide) (by decide) (by decide) (fun _ => rfl) (fun zr zu H locs hw hP hD hS => ?_)
  obtain ⟨hw, hz_1⟩ := hw
  subst hw
  have hP : va_P D vwCl [(h, .inr (2, [.ref h1, .ref h2])), (h1, .inl (z.1, 2, .inl v.1)), (h2, .inl (z.1, 2, .inl v.2))] H := hP
  have hD : va_D A [(h, .inr (2, [.ref h1, .ref h2])), (h1, .inl (z.1, 2, .inl v.1)), (h2, .inl (z.1, 2, .inl v.2))] := hD
  refine lv_if_eq (tgt := 17) hx hb dX2_burn_4 (by decide) (fun c_2 => ?_) (fun c_2 => ?_)
  · subst hQ
    exact ret_v v hx hb hr hK hP hD hS rfl (by unfold f_X2_burn; rw [if_pos c_2]; try rfl) dX2_burn_17 hlocks
  · obtain ⟨en_k_3, bn_k_3⟩ := isGen_n c_2
    refine lv_aload_n hx hb dX2_burn_7 rfl (lv_at hl 0 rfl) ?_
    refine va_get (D := D) (ci := 2) (v := .ref h2) (C := RX2) (T := TX2) (N := 2) hx hb hts iX2_burn_X2 hown hK hP 0 rfl rfl 1 (by decide) (hts (.fieldLink RX2 15 "BarnPictures$Generators" "minutes" "[I") (by decide +kernel)) (fun _ h9 => h9) rfl dX2_burn_8 ?_
    refine lv_iload_n hx hb dX2_burn_11 rfl (lv_at hl 1 rfl) ?_
    refine lv_dup2_11 hx hb dX2_burn_12 rfl rfl ?_
    refine iald_k hx hb hK hP 2 rfl x.toNatClampNeg (ix_of en_k_3 (by omega) (by decide)) dX2_burn_13 ?_
    refine lv_iload_n hx hb dX2_burn_14 rfl (lv_at hl 2 rfl) ?_
    refine lv_isub hx hb dX2_burn_15 ?_
    refine iast_k hx hb hK hP hD hS 2 rfl x.toNatClampNeg (ix_of en_k_3 (by omega) (by decide)) dX2_burn_16 (fun H locs hP hD hS => ?_)
    have hP : va_P D vwCl [(h, .inr (2, [.ref h1, .ref h2])), (h1, .inl (z.1, 2, .inl v.1)), (h2, .inl (z.1, 2, .inl (upd v.2 x.toNatClampNeg ((v.2 x.toNatClampNeg) - y))))] H := hP
    have hD : va_D A [(h, .inr (2, [.ref h1, .ref h2])), (h1, .inl (z.1, 2, .inl v.1)), (h2, .inl (z.1, 2, .inl (upd v.2 x.toNatClampNeg ((v.2 x.toNatClampNeg) - y))))] := hD
    subst hQ
    exact ret_v (v.1, (upd v.2 x.toNatClampNeg ((v.2 x.toNatClampNeg) - y))) hx hb hr hK hP hD hS rfl (by unfold f_X2_burn; rw [if_neg c_2]; try rfl) dX2_burn_17 hlocks

theorem iX2_lowestWith_X2 : ∀ w ∈ wsX20, w ∈ wsX2_lowestWith := by decide +kernel
def f_X2_lowestWith (v : GV) (x : Int32) (y : Int32) : Int32 := if (v.1 0) = x then if (v.2 0) < y then if (v.1 1) = x then if (v.2 1) < y then (-1) else 1 else (-1) else 0 else if (v.1 1) = x then if (v.2 1) < y then (-1) else 1 else (-1)
set_option maxRecDepth 100000 in
set_option maxHeartbeats 1000000 in
theorem c_X2_lowestWith (l : Launch) (D : va_G) (z : ClassId × ClassId × ClassId) (h h1 h2 : Nat) (v : GV) (x : Int32) (y : Int32) (sz : Nat) : CI l yX2_lowestWith wsX2_lowestWith 0 0 0 0 [.ref h, .int x, .int y] D z (wX2 z h h1 h2 v) sz (E0) (fun (zr : Int32) (_ : Unit) => zr = f_X2_lowestWith v x y) (fun _ => wX2 z h h1 h2 v) := by
  refine met_i cX2_lowestWith 4 (some .int) (by decide) rfl (Nat.le_of_ble_eq_true rfl) ?_
  intro p e s m args below meth c R Q hx hb hr hml hts hown hlocks hin hRf hRl hRc hRs hc0 hs0 A H hA hP hK hD hS hE hQ ls hl
  have hl : lv_has ls 4 [(0, .ref h), (1, .int x), (2, .int y)] := hl
  have hP : va_P D vwCl [(h, .inr (2, [.ref h1, .ref h2])), (h1, .inl (z.1, 2, .inl v.1)), (h2, .inl (z.1, 2, .inl v.2))] H := hP
  have hD : va_D A [(h, .inr (2, [.ref h1, .ref h2])), (h1, .inl (z.1, 2, .inl v.1)), (h2, .inl (z.1, 2, .inl v.2))] := hD
  have hown : s.vm.findClass RX2 = some m.cls := hown
  refine lv_iconst (v := 0) hx hb dX2_lowestWith_0 (by decide) ?_
  refine lv_istore_n (lv' := [(3, .int 0), (0, .ref h), (1, .int x), (2, .int y)]) hx hb dX2_lowestWith_1 rfl hl (by decide) rfl (fun ls hl => ?_)
  refine lv_iload_n hx hb dX2_lowestWith_2 rfl (lv_at hl 0 rfl) ?_
  refine lv_iconst (v := 2) hx hb dX2_lowestWith_3 (by decide) ?_
  refine lv_icmp_ge (tgt := 35) hx hb dX2_lowestWith_4 (by decide) (fun c_1 => absurd c_1 (by decide)) (fun c_1 => ?_)
  refine lv_aload_n hx hb dX2_lowestWith_7 rfl (lv_at hl 1 rfl) ?_
  refine va_get (D := D) (ci := 2) (v := .ref h1) (C := RX2) (T := TX2) (N := 2) hx hb hts iX2_lowestWith_X2 hown hK hP 0 rfl rfl 0 (by decide) (hts (.fieldLink RX2 9 "BarnPictures$Generators" "place" "[I") (by decide +kernel)) (fun _ h9 => h9) rfl dX2_lowestWith_8 ?_
  refine lv_iload_n hx hb dX2_lowestWith_11 rfl (lv_at hl 0 rfl) ?_
  refine iald_k hx hb hK hP 1 rfl 0 (ix_of (nlit 0) (by omega) (by decide)) dX2_lowestWith_12 ?_
  refine lv_iload_n hx hb dX2_lowestWith_13 rfl (lv_at hl 2 rfl) ?_
  refine lv_icmp_ne (tgt := 29) hx hb dX2_lowestWith_14 (by decide) (fun c_2 => ?_) (fun c_2 => ?_)
  · refine lv_iinc (v := 1) (lv' := [(3, .int 1), (0, .ref h), (1, .int x), (2, .int y)]) hx hb dX2_lowestWith_29 hl (k := 0) rfl (by decide) (by decide) rfl (fun ls hl => ?_)
    refine lv_goto (tgt := 2) hx hb dX2_lowestWith_32 (by decide) ?_
    refine lv_iload_n hx hb dX2_lowestWith_2 rfl (lv_at hl 0 rfl) ?_
    refine lv_iconst (v := 2) hx hb dX2_lowestWith_3 (by decide) ?_
    refine lv_icmp_ge (tgt := 35) hx hb dX2_lowestWith_4 (by decide) (fun c_3 => absurd c_3 (by decide)) (fun c_3 => ?_)
    refine lv_aload_n hx hb dX2_lowestWith_7 rfl (lv_at hl 1 rfl) ?_
    refine va_get (D := D) (ci := 2) (v := .ref h1) (C := RX2) (T := TX2) (N := 2) hx hb hts iX2_lowestWith_X2 hown hK hP 0 rfl rfl 0 (by decide) (hts (.fieldLink RX2 9 "BarnPictures$Generators" "place" "[I") (by decide +kernel)) (fun _ h9 => h9) rfl dX2_lowestWith_8 ?_
    refine lv_iload_n hx hb dX2_lowestWith_11 rfl (lv_at hl 0 rfl) ?_
    refine iald_k hx hb hK hP 1 rfl 1 (ix_of (nlit 1) (by omega) (by decide)) dX2_lowestWith_12 ?_
    refine lv_iload_n hx hb dX2_lowestWith_13 rfl (lv_at hl 2 rfl) ?_
    refine lv_icmp_ne (tgt := 29) hx hb dX2_lowestWith_14 (by decide) (fun c_4 => ?_) (fun c_4 => ?_)
    · refine lv_iinc (v := 2) (lv' := [(3, .int 2), (0, .ref h), (1, .int x), (2, .int y)]) hx hb dX2_lowestWith_29 hl (k := 0) rfl (by decide) (by decide) rfl (fun ls hl => ?_)
      refine lv_goto (tgt := 2) hx hb dX2_lowestWith_32 (by decide) ?_
      refine lv_iload_n hx hb dX2_lowestWith_2 rfl (lv_at hl 0 rfl) ?_
      refine lv_iconst (v := 2) hx hb dX2_lowestWith_3 (by decide) ?_
      refine lv_icmp_ge (tgt := 35) hx hb dX2_lowestWith_4 (by decide) (fun c_5 => ?_) (fun c_5 => absurd c_5 (by decide))
      refine lv_iconst (v := (-1)) hx hb dX2_lowestWith_35 (by decide) ?_
      subst hQ
      exact ret_i () hx hb hr hK hP hD hS rfl (by unfold f_X2_lowestWith; rw [if_neg c_2, if_neg c_4]; try rfl) dX2_lowestWith_36 hlocks
    · refine lv_aload_n hx hb dX2_lowestWith_17 rfl (lv_at hl 1 rfl) ?_
      refine va_get (D := D) (ci := 2) (v := .ref h2) (C := RX2) (T := TX2) (N := 2) hx hb hts iX2_lowestWith_X2 hown hK hP 0 rfl rfl 1 (by decide) (hts (.fieldLink RX2 15 "BarnPictures$Generators" "minutes" "[I") (by decide +kernel)) (fun _ h9 => h9) rfl dX2_lowestWith_18 ?_
      refine lv_iload_n hx hb dX2_lowestWith_21 rfl (lv_at hl 0 rfl) ?_
      refine iald_k hx hb hK hP 2 rfl 1 (ix_of (nlit 1) (by omega) (by decide)) dX2_lowestWith_22 ?_
      refine lv_iload_n hx hb dX2_lowestWith_23 rfl (lv_at hl 3 rfl) ?_
      refine lv_icmp_lt (tgt := 29) hx hb dX2_lowestWith_24 (by decide) (fun c_6 => ?_) (fun c_6 => ?_)
      · refine lv_iinc (v := 2) (lv' := [(3, .int 2), (0, .ref h), (1, .int x), (2, .int y)]) hx hb dX2_lowestWith_29 hl (k := 0) rfl (by decide) (by decide) rfl (fun ls hl => ?_)
        refine lv_goto (tgt := 2) hx hb dX2_lowestWith_32 (by decide) ?_
        refine lv_iload_n hx hb dX2_lowestWith_2 rfl (lv_at hl 0 rfl) ?_
        refine lv_iconst (v := 2) hx hb dX2_lowestWith_3 (by decide) ?_
        refine lv_icmp_ge (tgt := 35) hx hb dX2_lowestWith_4 (by decide) (fun c_7 => ?_) (fun c_7 => absurd c_7 (by decide))
        refine lv_iconst (v := (-1)) hx hb dX2_lowestWith_35 (by decide) ?_
        subst hQ
        exact ret_i () hx hb hr hK hP hD hS rfl (by unfold f_X2_lowestWith; rw [if_neg c_2, if_pos c_4, if_pos c_6]; try rfl) dX2_lowestWith_36 hlocks
      · refine lv_iload_n hx hb dX2_lowestWith_27 rfl (lv_at hl 0 rfl) ?_
        subst hQ
        exact ret_i () hx hb hr hK hP hD hS rfl (by unfold f_X2_lowestWith; rw [if_neg c_2, if_pos c_4, if_neg c_6]; try rfl) dX2_lowestWith_28 hlocks
  · refine lv_aload_n hx hb dX2_lowestWith_17 rfl (lv_at hl 1 rfl) ?_
    refine va_get (D := D) (ci := 2) (v := .ref h2) (C := RX2) (T := TX2) (N := 2) hx hb hts iX2_lowestWith_X2 hown hK hP 0 rfl rfl 1 (by decide) (hts (.fieldLink RX2 15 "BarnPictures$Generators" "minutes" "[I") (by decide +kernel)) (fun _ h9 => h9) rfl dX2_lowestWith_18 ?_
    refine lv_iload_n hx hb dX2_lowestWith_21 rfl (lv_at hl 0 rfl) ?_
    refine iald_k hx hb hK hP 2 rfl 0 (ix_of (nlit 0) (by omega) (by decide)) dX2_lowestWith_22 ?_
    refine lv_iload_n hx hb dX2_lowestWith_23 rfl (lv_at hl 3 rfl) ?_
    refine lv_icmp_lt (tgt := 29) hx hb dX2_lowestWith_24 (by decide) (fun c_8 => ?_) (fun c_8 => ?_)
    · refine lv_iinc (v := 1) (lv' := [(3, .int 1), (0, .ref h), (1, .int x), (2, .int y)]) hx hb dX2_lowestWith_29 hl (k := 0) rfl (by decide) (by decide) rfl (fun ls hl => ?_)
      refine lv_goto (tgt := 2) hx hb dX2_lowestWith_32 (by decide) ?_
      refine lv_iload_n hx hb dX2_lowestWith_2 rfl (lv_at hl 0 rfl) ?_
      refine lv_iconst (v := 2) hx hb dX2_lowestWith_3 (by decide) ?_
      refine lv_icmp_ge (tgt := 35) hx hb dX2_lowestWith_4 (by decide) (fun c_9 => absurd c_9 (by decide)) (fun c_9 => ?_)
      refine lv_aload_n hx hb dX2_lowestWith_7 rfl (lv_at hl 1 rfl) ?_
      refine va_get (D := D) (ci := 2) (v := .ref h1) (C := RX2) (T := TX2) (N := 2) hx hb hts iX2_lowestWith_X2 hown hK hP 0 rfl rfl 0 (by decide) (hts (.fieldLink RX2 9 "BarnPictures$Generators" "place" "[I") (by decide +kernel)) (fun _ h9 => h9) rfl dX2_lowestWith_8 ?_
      refine lv_iload_n hx hb dX2_lowestWith_11 rfl (lv_at hl 0 rfl) ?_
      refine iald_k hx hb hK hP 1 rfl 1 (ix_of (nlit 1) (by omega) (by decide)) dX2_lowestWith_12 ?_
      refine lv_iload_n hx hb dX2_lowestWith_13 rfl (lv_at hl 2 rfl) ?_
      refine lv_icmp_ne (tgt := 29) hx hb dX2_lowestWith_14 (by decide) (fun c_10 => ?_) (fun c_10 => ?_)
      · refine lv_iinc (v := 2) (lv' := [(3, .int 2), (0, .ref h), (1, .int x), (2, .int y)]) hx hb dX2_lowestWith_29 hl (k := 0) rfl (by decide) (by decide) rfl (fun ls hl => ?_)
        refine lv_goto (tgt := 2) hx hb dX2_lowestWith_32 (by decide) ?_
        refine lv_iload_n hx hb dX2_lowestWith_2 rfl (lv_at hl 0 rfl) ?_
        refine lv_iconst (v := 2) hx hb dX2_lowestWith_3 (by decide) ?_
        refine lv_icmp_ge (tgt := 35) hx hb dX2_lowestWith_4 (by decide) (fun c_11 => ?_) (fun c_11 => absurd c_11 (by decide))
        refine lv_iconst (v := (-1)) hx hb dX2_lowestWith_35 (by decide) ?_
        subst hQ
        exact ret_i () hx hb hr hK hP hD hS rfl (by unfold f_X2_lowestWith; rw [if_pos c_2, if_pos c_8, if_neg c_10]; try rfl) dX2_lowestWith_36 hlocks
      · refine lv_aload_n hx hb dX2_lowestWith_17 rfl (lv_at hl 1 rfl) ?_
        refine va_get (D := D) (ci := 2) (v := .ref h2) (C := RX2) (T := TX2) (N := 2) hx hb hts iX2_lowestWith_X2 hown hK hP 0 rfl rfl 1 (by decide) (hts (.fieldLink RX2 15 "BarnPictures$Generators" "minutes" "[I") (by decide +kernel)) (fun _ h9 => h9) rfl dX2_lowestWith_18 ?_
        refine lv_iload_n hx hb dX2_lowestWith_21 rfl (lv_at hl 0 rfl) ?_
        refine iald_k hx hb hK hP 2 rfl 1 (ix_of (nlit 1) (by omega) (by decide)) dX2_lowestWith_22 ?_
        refine lv_iload_n hx hb dX2_lowestWith_23 rfl (lv_at hl 3 rfl) ?_
        refine lv_icmp_lt (tgt := 29) hx hb dX2_lowestWith_24 (by decide) (fun c_12 => ?_) (fun c_12 => ?_)
        · refine lv_iinc (v := 2) (lv' := [(3, .int 2), (0, .ref h), (1, .int x), (2, .int y)]) hx hb dX2_lowestWith_29 hl (k := 0) rfl (by decide) (by decide) rfl (fun ls hl => ?_)
          refine lv_goto (tgt := 2) hx hb dX2_lowestWith_32 (by decide) ?_
          refine lv_iload_n hx hb dX2_lowestWith_2 rfl (lv_at hl 0 rfl) ?_
          refine lv_iconst (v := 2) hx hb dX2_lowestWith_3 (by decide) ?_
          refine lv_icmp_ge (tgt := 35) hx hb dX2_lowestWith_4 (by decide) (fun c_13 => ?_) (fun c_13 => absurd c_13 (by decide))
          refine lv_iconst (v := (-1)) hx hb dX2_lowestWith_35 (by decide) ?_
          subst hQ
          exact ret_i () hx hb hr hK hP hD hS rfl (by unfold f_X2_lowestWith; rw [if_pos c_2, if_pos c_8, if_pos c_10, if_pos c_12]; try rfl) dX2_lowestWith_36 hlocks
        · refine lv_iload_n hx hb dX2_lowestWith_27 rfl (lv_at hl 0 rfl) ?_
          subst hQ
          exact ret_i () hx hb hr hK hP hD hS rfl (by unfold f_X2_lowestWith; rw [if_pos c_2, if_pos c_8, if_pos c_10, if_neg c_12]; try rfl) dX2_lowestWith_28 hlocks
    · refine lv_iload_n hx hb dX2_lowestWith_27 rfl (lv_at hl 0 rfl) ?_
      subst hQ
      exact ret_i () hx hb hr hK hP hD hS rfl (by unfold f_X2_lowestWith; rw [if_pos c_2, if_neg c_8]; try rfl) dX2_lowestWith_28 hlocks

theorem iX6_told_X6 : ∀ w ∈ wsX60, w ∈ wsX6_told := by decide +kernel
def f_X6_told (v : LV) (b : Int32) (bn : Nat) (w : Int32) (wn : Nat) : Int32 := (v.1 ((bn * 5) + wn))
set_option maxRecDepth 100000 in
set_option maxHeartbeats 1000000 in
theorem c_X6_told (l : Launch) (D : va_G) (z : ClassId × ClassId × ClassId) (h h1 : Nat) (v : LV) (b : Int32) (bn : Nat) (ee_b : b = nI bn) (bb_b : bn < 6) (w : Int32) (wn : Nat) (ee_w : w = nI wn) (bb_w : wn < 5) (sz : Nat) : CI l yX6_told wsX6_told 0 0 0 0 [.ref h, .int b, .int w] D z (wX6 z h h1 v) sz (E0) (fun (zr : Int32) (_ : Unit) => zr = f_X6_told v b bn w wn) (fun _ => wX6 z h h1 v) := by
  refine met_i cX6_told 3 (some .int) (by decide) rfl (Nat.le_of_ble_eq_true rfl) ?_
  intro p e s m args below meth c R Q hx hb hr hml hts hown hlocks hin hRf hRl hRc hRs hc0 hs0 A H hA hP hK hD hS hE hQ ls hl
  have hl : lv_has ls 3 [(0, .ref h), (1, .int b), (2, .int w)] := hl
  have hP : va_P D vwCl [(h, .inr (6, [.ref h1, .int v.2])), (h1, .inl (z.1, 30, .inl v.1))] H := hP
  have hD : va_D A [(h, .inr (6, [.ref h1, .int v.2])), (h1, .inl (z.1, 30, .inl v.1))] := hD
  have hown : s.vm.findClass RX6 = some m.cls := hown
  refine lv_aload_n hx hb dX6_told_0 rfl (lv_at hl 0 rfl) ?_
  refine va_get (D := D) (ci := 6) (v := .ref h1) (C := RX6) (T := TX6) (N := 2) hx hb hts iX6_told_X6 hown hK hP 0 rfl rfl 0 (by decide) (hts (.fieldLink RX6 9 "BarnPictures$ShowLog" "numbers" "[I") (by decide +kernel)) (fun _ h9 => h9) rfl dX6_told_1 ?_
  refine lv_iload_n hx hb dX6_told_4 rfl (lv_at hl 1 rfl) ?_
  refine lv_iconst (v := 5) hx hb dX6_told_5 (by decide) ?_
  refine lv_imul hx hb dX6_told_6 ?_
  refine lv_iload_n hx hb dX6_told_7 rfl (lv_at hl 2 rfl) ?_
  refine lv_iadd hx hb dX6_told_8 ?_
  refine iald_k hx hb hK hP 1 rfl ((bn * 5) + wn) (ix_of (nadd (nmul ee_b (nlit 5)) ee_w) (by omega) (by decide)) dX6_told_9 ?_
  subst hQ
  exact ret_i () hx hb hr hK hP hD hS rfl rfl dX6_told_10 hlocks

theorem iX6_add_X6 : ∀ w ∈ wsX60, w ∈ wsX6_add := by decide +kernel
def f_X6_add_4_x (v : LV) (x1 : Int32) (x2 : Int32) (x3 : Int32) (x4 : Int32) (x5 : Int32) (q4 : (Nat → Int32)) : LV := ((upd (upd (upd (upd (upd q4 0 x1) 1 x2) 2 x3) 3 x4) 4 x5), (if 6 < (v.2 + 1) then 6 else (v.2 + 1)))
def st_X6_add_4 (v : LV) (x1 : Int32) (x2 : Int32) (x3 : Int32) (x4 : Int32) (x5 : Int32) (k4 : Nat) (q4 : (Nat → Int32)) : (Nat → Int32) := (upd q4 (29 - k4) (q4 ((29 - k4) - 5)))
def lp_X6_add_4 (v : LV) (x1 : Int32) (x2 : Int32) (x3 : Int32) (x4 : Int32) (x5 : Int32) (i0 : (Nat → Int32)) : Nat → (Nat → Int32)
  | 0 => i0
  | k + 1 => st_X6_add_4 v x1 x2 x3 x4 x5 k (lp_X6_add_4 v x1 x2 x3 x4 x5 i0 k)
theorem lp_X6_add_4_0 (v : LV) (x1 : Int32) (x2 : Int32) (x3 : Int32) (x4 : Int32) (x5 : Int32) (i0 : (Nat → Int32)) : lp_X6_add_4 v x1 x2 x3 x4 x5 i0 0 = i0 := rfl
theorem lp_X6_add_4_s (v : LV) (x1 : Int32) (x2 : Int32) (x3 : Int32) (x4 : Int32) (x5 : Int32) (i0 : (Nat → Int32)) (k : Nat) : lp_X6_add_4 v x1 x2 x3 x4 x5 i0 (k + 1) = st_X6_add_4 v x1 x2 x3 x4 x5 k (lp_X6_add_4 v x1 x2 x3 x4 x5 i0 k) := rfl
def f_X6_add (v : LV) (x1 : Int32) (x2 : Int32) (x3 : Int32) (x4 : Int32) (x5 : Int32) : LV := f_X6_add_4_x v x1 x2 x3 x4 x5 (lp_X6_add_4 v x1 x2 x3 x4 x5 v.1 25)
set_option maxRecDepth 100000 in
set_option maxHeartbeats 1000000 in
theorem c_X6_add (l : Launch) (D : va_G) (z : ClassId × ClassId × ClassId) (h h1 : Nat) (v : LV) (x1 : Int32) (x2 : Int32) (x3 : Int32) (x4 : Int32) (x5 : Int32) (sz : Nat) : CV l yX6_add wsX6_add 1 21 0 0 [.ref h, .int x1, .int x2, .int x3, .int x4, .int x5] D z (wX6 z h h1 v) sz (E0) (fun (zu : LV) => zu = f_X6_add v x1 x2 x3 x4 x5) (fun zu => wX6 z h h1 zu) := by
  refine met_v cX6_add 7 (by decide) rfl (Nat.le_of_ble_eq_true rfl) ?_
  intro p e s m args below meth c R Q hx hb hr hml hts hown hlocks hin hRf hRl hRc hRs hc0 hs0 A H hA hP hK hD hS hE hQ ls hl
  have hl : lv_has ls 7 [(0, .ref h), (1, .int x1), (2, .int x2), (3, .int x3), (4, .int x4), (5, .int x5)] := hl
  have hP : va_P D vwCl [(h, .inr (6, [.ref h1, .int v.2])), (h1, .inl (z.1, 30, .inl v.1))] H := hP
  have hD : va_D A [(h, .inr (6, [.ref h1, .int v.2])), (h1, .inl (z.1, 30, .inl v.1))] := hD
  have hown : s.vm.findClass RX6 = some m.cls := hown
  refine lv_bipush (v := 29) hx hb dX6_add_0 (by decide) ?_
  refine lv_istore (lv' := [(6, .int 29), (0, .ref h), (1, .int x1), (2, .int x2), (3, .int x3), (4, .int x4), (5, .int x5)]) hx hb dX6_add_2 hl (by decide) rfl (fun ls hl => ?_)
  have L4 : ∀ (n4 k4 : Nat) (q4 : (Nat → Int32)), q4 = lp_X6_add_4 v x1 x2 x3 x4 x5 v.1 k4 → k4 ≤ 25 → 25 + 1 ≤ k4 + n4 → ∀ (H : Heap) (locs : List Loc) (ls : Array Slot), va_P D vwCl [(h, .inr (6, [.ref h1, .int v.2])), (h1, .inl (z.1, 30, .inl q4))] H → va_D A [(h, .inr (6, [.ref h1, .int v.2])), (h1, .inl (z.1, 30, .inl q4))] → va_S A s.heap H locs → lv_has ls 7 [(6, .int (nI (29 - k4))), (0, .ref h), (1, .int x1), (2, .int x2), (3, .int x3), (4, .int x4), (5, .int x5)] → W p l e R s m args below meth c H locs 0 0 Q (F0 m 4 ls []) := by
    intro n4
    induction n4 with
    | zero => intro k4 q4 hq4 h1 h2; exact absurd h2 (by omega)
    | succ n4 ih4 =>
      intro k4 q4 hq4 hk4 hn4 H locs ls hP hD hS hl
      refine lv_iload hx hb dX6_add_4 (lv_at hl 0 rfl) ?_
      refine lv_iconst (v := 5) hx hb dX6_add_6 (by decide) ?_
      rcases Nat.lt_or_ge k4 25 with hlt | hge
      · refine lv_icmp_lt (tgt := 32) hx hb dX6_add_7 (by decide) (fun c_2 => absurd c_2 (nI_nlt (a := (29 - k4)) (b := 5) (by omega) (by omega))) (fun c_2 => ?_)
        refine lv_aload_n hx hb dX6_add_10 rfl (lv_at hl 1 rfl) ?_
        refine va_get (D := D) (ci := 6) (v := .ref h1) (C := RX6) (T := TX6) (N := 2) hx hb hts iX6_add_X6 hown hK hP 0 rfl rfl 0 (by decide) (hts (.fieldLink RX6 9 "BarnPictures$ShowLog" "numbers" "[I") (by decide +kernel)) (fun _ h9 => h9) rfl dX6_add_11 ?_
        refine lv_iload hx hb dX6_add_14 (lv_at hl 0 rfl) ?_
        refine lv_aload_n hx hb dX6_add_16 rfl (lv_at hl 1 rfl) ?_
        refine va_get (D := D) (ci := 6) (v := .ref h1) (C := RX6) (T := TX6) (N := 2) hx hb hts iX6_add_X6 hown hK hP 0 rfl rfl 0 (by decide) (hts (.fieldLink RX6 9 "BarnPictures$ShowLog" "numbers" "[I") (by decide +kernel)) (fun _ h9 => h9) rfl dX6_add_17 ?_
        refine lv_iload hx hb dX6_add_20 (lv_at hl 0 rfl) ?_
        refine lv_iconst (v := 5) hx hb dX6_add_22 (by decide) ?_
        refine lv_isub hx hb dX6_add_23 ?_
        refine iald_k hx hb hK hP 1 rfl ((29 - k4) - 5) (ix_of (nsub (nrf (29 - k4)) (nlit 5) (by omega)) (by omega) (by decide)) dX6_add_24 ?_
        refine iast_k hx hb hK hP hD hS 1 rfl (29 - k4) (ix_of (nrf (29 - k4)) (by omega) (by decide)) dX6_add_25 (fun H locs hP hD hS => ?_)
        have hP : va_P D vwCl [(h, .inr (6, [.ref h1, .int v.2])), (h1, .inl (z.1, 30, .inl (upd q4 (29 - k4) (q4 ((29 - k4) - 5)))))] H := hP
        have hD : va_D A [(h, .inr (6, [.ref h1, .int v.2])), (h1, .inl (z.1, 30, .inl (upd q4 (29 - k4) (q4 ((29 - k4) - 5)))))] := hD
        refine lv_iinc (v := nI ((29 - k4) - 1)) (lv' := [(6, .int (nI ((29 - k4) - 1))), (0, .ref h), (1, .int x1), (2, .int x2), (3, .int x3), (4, .int x4), (5, .int x5)]) hx hb dX6_add_26 hl (k := 0) rfl (nI_dc (c := 1) (by omega)) (by decide) rfl (fun ls hl => ?_)
        refine lv_goto (tgt := 4) hx hb dX6_add_29 (by decide) ?_
        rw [show ((29 - k4) - 1) = (29 - (k4 + 1)) from by omega] at hl
        exact ih4 (k4 + 1) (upd q4 (29 - k4) (q4 ((29 - k4) - 5))) (by rw [lp_X6_add_4_s, ← hq4]; unfold st_X6_add_4; try rfl) (by omega) (by omega) _ _ _ hP hD hS (lv_sub hl [0, 1, 2, 3, 4, 5, 6] rfl)
      · obtain rfl : 25 = k4 := by omega
        refine lv_icmp_lt (tgt := 32) hx hb dX6_add_7 (by decide) (fun c_2 => ?_) (fun c_2 => absurd (nI_lt (a := (29 - 25)) (b := 5) (by omega) (by decide)) c_2)
        have hP : va_P D vwCl [(h, .inr (6, [.ref h1, .int v.2])), (h1, .inl (z.1, 30, .inl q4))] H := hP
        have hD : va_D A [(h, .inr (6, [.ref h1, .int v.2])), (h1, .inl (z.1, 30, .inl q4))] := hD
        refine lv_aload_n hx hb dX6_add_32 rfl (lv_at hl 1 rfl) ?_
        refine va_get (D := D) (ci := 6) (v := .ref h1) (C := RX6) (T := TX6) (N := 2) hx hb hts iX6_add_X6 hown hK hP 0 rfl rfl 0 (by decide) (hts (.fieldLink RX6 9 "BarnPictures$ShowLog" "numbers" "[I") (by decide +kernel)) (fun _ h9 => h9) rfl dX6_add_33 ?_
        refine lv_iconst (v := 0) hx hb dX6_add_36 (by decide) ?_
        refine lv_iload_n hx hb dX6_add_37 rfl (lv_at hl 2 rfl) ?_
        refine iast_k hx hb hK hP hD hS 1 rfl 0 (ix_of (nlit 0) (by omega) (by decide)) dX6_add_38 (fun H locs hP hD hS => ?_)
        have hP : va_P D vwCl [(h, .inr (6, [.ref h1, .int v.2])), (h1, .inl (z.1, 30, .inl (upd q4 0 x1)))] H := hP
        have hD : va_D A [(h, .inr (6, [.ref h1, .int v.2])), (h1, .inl (z.1, 30, .inl (upd q4 0 x1)))] := hD
        refine lv_aload_n hx hb dX6_add_39 rfl (lv_at hl 1 rfl) ?_
        refine va_get (D := D) (ci := 6) (v := .ref h1) (C := RX6) (T := TX6) (N := 2) hx hb hts iX6_add_X6 hown hK hP 0 rfl rfl 0 (by decide) (hts (.fieldLink RX6 9 "BarnPictures$ShowLog" "numbers" "[I") (by decide +kernel)) (fun _ h9 => h9) rfl dX6_add_40 ?_
        refine lv_iconst (v := 1) hx hb dX6_add_43 (by decide) ?_
        refine lv_iload_n hx hb dX6_add_44 rfl (lv_at hl 3 rfl) ?_
        refine iast_k hx hb hK hP hD hS 1 rfl 1 (ix_of (nlit 1) (by omega) (by decide)) dX6_add_45 (fun H locs hP hD hS => ?_)
        have hP : va_P D vwCl [(h, .inr (6, [.ref h1, .int v.2])), (h1, .inl (z.1, 30, .inl (upd (upd q4 0 x1) 1 x2)))] H := hP
        have hD : va_D A [(h, .inr (6, [.ref h1, .int v.2])), (h1, .inl (z.1, 30, .inl (upd (upd q4 0 x1) 1 x2)))] := hD
        refine lv_aload_n hx hb dX6_add_46 rfl (lv_at hl 1 rfl) ?_
        refine va_get (D := D) (ci := 6) (v := .ref h1) (C := RX6) (T := TX6) (N := 2) hx hb hts iX6_add_X6 hown hK hP 0 rfl rfl 0 (by decide) (hts (.fieldLink RX6 9 "BarnPictures$ShowLog" "numbers" "[I") (by decide +kernel)) (fun _ h9 => h9) rfl dX6_add_47 ?_
        refine lv_iconst (v := 2) hx hb dX6_add_50 (by decide) ?_
        refine lv_iload_n hx hb dX6_add_51 rfl (lv_at hl 4 rfl) ?_
        refine iast_k hx hb hK hP hD hS 1 rfl 2 (ix_of (nlit 2) (by omega) (by decide)) dX6_add_52 (fun H locs hP hD hS => ?_)
        have hP : va_P D vwCl [(h, .inr (6, [.ref h1, .int v.2])), (h1, .inl (z.1, 30, .inl (upd (upd (upd q4 0 x1) 1 x2) 2 x3)))] H := hP
        have hD : va_D A [(h, .inr (6, [.ref h1, .int v.2])), (h1, .inl (z.1, 30, .inl (upd (upd (upd q4 0 x1) 1 x2) 2 x3)))] := hD
        refine lv_aload_n hx hb dX6_add_53 rfl (lv_at hl 1 rfl) ?_
        refine va_get (D := D) (ci := 6) (v := .ref h1) (C := RX6) (T := TX6) (N := 2) hx hb hts iX6_add_X6 hown hK hP 0 rfl rfl 0 (by decide) (hts (.fieldLink RX6 9 "BarnPictures$ShowLog" "numbers" "[I") (by decide +kernel)) (fun _ h9 => h9) rfl dX6_add_54 ?_
        refine lv_iconst (v := 3) hx hb dX6_add_57 (by decide) ?_
        refine lv_iload hx hb dX6_add_58 (lv_at hl 5 rfl) ?_
        refine iast_k hx hb hK hP hD hS 1 rfl 3 (ix_of (nlit 3) (by omega) (by decide)) dX6_add_60 (fun H locs hP hD hS => ?_)
        have hP : va_P D vwCl [(h, .inr (6, [.ref h1, .int v.2])), (h1, .inl (z.1, 30, .inl (upd (upd (upd (upd q4 0 x1) 1 x2) 2 x3) 3 x4)))] H := hP
        have hD : va_D A [(h, .inr (6, [.ref h1, .int v.2])), (h1, .inl (z.1, 30, .inl (upd (upd (upd (upd q4 0 x1) 1 x2) 2 x3) 3 x4)))] := hD
        refine lv_aload_n hx hb dX6_add_61 rfl (lv_at hl 1 rfl) ?_
        refine va_get (D := D) (ci := 6) (v := .ref h1) (C := RX6) (T := TX6) (N := 2) hx hb hts iX6_add_X6 hown hK hP 0 rfl rfl 0 (by decide) (hts (.fieldLink RX6 9 "BarnPictures$ShowLog" "numbers" "[I") (by decide +kernel)) (fun _ h9 => h9) rfl dX6_add_62 ?_
        refine lv_iconst (v := 4) hx hb dX6_add_65 (by decide) ?_
        refine lv_iload hx hb dX6_add_66 (lv_at hl 6 rfl) ?_
        refine iast_k hx hb hK hP hD hS 1 rfl 4 (ix_of (nlit 4) (by omega) (by decide)) dX6_add_68 (fun H locs hP hD hS => ?_)
        have hP : va_P D vwCl [(h, .inr (6, [.ref h1, .int v.2])), (h1, .inl (z.1, 30, .inl (upd (upd (upd (upd (upd q4 0 x1) 1 x2) 2 x3) 3 x4) 4 x5)))] H := hP
        have hD : va_D A [(h, .inr (6, [.ref h1, .int v.2])), (h1, .inl (z.1, 30, .inl (upd (upd (upd (upd (upd q4 0 x1) 1 x2) 2 x3) 3 x4) 4 x5)))] := hD
        refine lv_aload_n hx hb dX6_add_69 rfl (lv_at hl 1 rfl) ?_
        refine lv_aload_n hx hb dX6_add_70 rfl (lv_at hl 1 rfl) ?_
        refine va_get (D := D) (ci := 6) (v := .int v.2) (C := RX6) (T := TX6) (N := 2) hx hb hts iX6_add_X6 hown hK hP 0 rfl rfl 1 (by decide) (hts (.fieldLink RX6 15 "BarnPictures$ShowLog" "size" "I") (by decide +kernel)) (fun _ h9 => h9) rfl dX6_add_71 ?_
        refine lv_iconst (v := 1) hx hb dX6_add_74 (by decide) ?_
        refine lv_iadd hx hb dX6_add_75 ?_
        refine lv_bipush (v := 6) hx hb dX6_add_76 (by decide) ?_
        refine va_mmin hx hb (hml.trans hl.1.symm) hown (hts (.methodLink RX6 25 Lib.Math.min.name) (by decide +kernel)) (hts (.static Lib.Math.min.name) (by decide +kernel)) (hts (.initialized "java/lang/Math") (by decide +kernel)) (hts (.code Lib.Math.min.name Lib.Math.min.code 2 (some .int)) (by decide +kernel)) (Nat.le_trans (by decide) hRf) (Nat.le_trans (Nat.le_of_ble_eq_true rfl) hRl) hc0 hs0 dX6_add_78 ?_
        refine va_put (D := D) (ci := 6) (v := .int (if 6 < (v.2 + 1) then 6 else (v.2 + 1))) (ty := .int) (C := RX6) (T := TX6) (N := 2) hx hb hts iX6_add_X6 tyX6 tyX6_ok nmX6 hown hK hP hD hS 0 rfl rfl 1 (by decide) (hts (.fieldLink RX6 15 "BarnPictures$ShowLog" "size" "I") (by decide +kernel)) (fun _ h9 => h9) rfl (by decide +kernel) rfl rfl (Nat.le_of_ble_eq_true rfl) dX6_add_81 (fun H locs hP hD hS => ?_)
        have hP : va_P D vwCl [(h, .inr (6, [.ref h1, .int (if 6 < (v.2 + 1) then 6 else (v.2 + 1))])), (h1, .inl (z.1, 30, .inl (upd (upd (upd (upd (upd q4 0 x1) 1 x2) 2 x3) 3 x4) 4 x5)))] H := hP
        have hD : va_D A [(h, .inr (6, [.ref h1, .int (if 6 < (v.2 + 1) then 6 else (v.2 + 1))])), (h1, .inl (z.1, 30, .inl (upd (upd (upd (upd (upd q4 0 x1) 1 x2) 2 x3) 3 x4) 4 x5)))] := hD
        subst hQ
        exact ret_v ((upd (upd (upd (upd (upd q4 0 x1) 1 x2) 2 x3) 3 x4) 4 x5), (if 6 < (v.2 + 1) then 6 else (v.2 + 1))) hx hb hr hK hP hD hS rfl (by unfold f_X6_add; rw [← hq4]; unfold f_X6_add_4_x; try rfl) dX6_add_84 hlocks
  exact L4 (25 + 1) 0 v.1 (lp_X6_add_4_0 v x1 x2 x3 x4 x5 v.1).symm (Nat.zero_le _) (by omega) _ _ _ hP hD hS (lv_sub hl [0, 1, 2, 3, 4, 5, 6] rfl)

theorem iX4_playOne_X4 : ∀ w ∈ wsX40, w ∈ wsX4_playOne := by decide +kernel
def f_X4_playOne (v : RV) (r : Int32) (rn : Nat) (b : Int32) (bn : Nat) : Int32 × RV := if ((v.2.2.1 rn) + (5 + (b - b / 3 * 3))) < 40 then if 3 ≤ ((v.2.1 rn) - 0) then (0, (v.1, (upd v.2.1 rn ((v.2.1 rn) - 0)), (upd v.2.2.1 rn ((v.2.2.1 rn) + (5 + (b - b / 3 * 3)))), (upd v.2.2.2.1 rn ((v.2.2.2.1 rn) + 0)), (upd v.2.2.2.2 rn ((v.2.2.2.2 rn) ||| (1 <<< (b &&& 31)))))) else (0, ((upd v.1 rn (-2)), (upd v.2.1 rn ((v.2.1 rn) - 0)), (upd v.2.2.1 rn ((v.2.2.1 rn) + (5 + (b - b / 3 * 3)))), (upd v.2.2.2.1 rn ((v.2.2.2.1 rn) + 0)), (upd v.2.2.2.2 rn ((v.2.2.2.2 rn) ||| (1 <<< (b &&& 31)))))) else if 3 ≤ ((v.2.1 rn) - 1) then (1, (v.1, (upd v.2.1 rn ((v.2.1 rn) - 1)), (upd (upd v.2.2.1 rn ((v.2.2.1 rn) + (5 + (b - b / 3 * 3)))) rn (((v.2.2.1 rn) + (5 + (b - b / 3 * 3))) - 20)), (upd v.2.2.2.1 rn ((v.2.2.2.1 rn) + 1)), (upd v.2.2.2.2 rn ((v.2.2.2.2 rn) ||| (1 <<< (b &&& 31)))))) else (1, ((upd v.1 rn (-2)), (upd v.2.1 rn ((v.2.1 rn) - 1)), (upd (upd v.2.2.1 rn ((v.2.2.1 rn) + (5 + (b - b / 3 * 3)))) rn (((v.2.2.1 rn) + (5 + (b - b / 3 * 3))) - 20)), (upd v.2.2.2.1 rn ((v.2.2.2.1 rn) + 1)), (upd v.2.2.2.2 rn ((v.2.2.2.2 rn) ||| (1 <<< (b &&& 31))))))
set_option maxRecDepth 100000 in
set_option maxHeartbeats 1000000 in
theorem c_X4_playOne (l : Launch) (D : va_G) (z : ClassId × ClassId × ClassId) (h h1 h2 h3 h4 h5 : Nat) (v : RV) (r : Int32) (rn : Nat) (ee_r : r = nI rn) (bb_r : rn < 10) (b : Int32) (bn : Nat) (ee_b : b = nI bn) (bb_b : bn < 5) (hW : WOK v) (sz : Nat) : CI l yX4_playOne wsX4_playOne 0 0 0 0 [.ref h, .int r, .int b] D z (wX4 z h h1 h2 h3 h4 h5 v) sz (E0) (fun (zr : Int32) (zu : RV) => (zr, zu) = f_X4_playOne v r rn b bn) (fun zu => wX4 z h h1 h2 h3 h4 h5 zu) := by
  refine met_i cX4_playOne 4 (some .int) (by decide) rfl (Nat.le_of_ble_eq_true rfl) ?_
  intro p e s m args below meth c R Q hx hb hr hml hts hown hlocks hin hRf hRl hRc hRs hc0 hs0 A H hA hP hK hD hS hE hQ ls hl
  have hl : lv_has ls 4 [(0, .ref h), (1, .int r), (2, .int b)] := hl
  have hP : va_P D vwCl [(h, .inr (4, [.ref h1, .ref h2, .ref h3, .ref h4, .ref h5])), (h1, .inl (z.1, 10, .inl v.1)), (h2, .inl (z.1, 10, .inl v.2.1)), (h3, .inl (z.1, 10, .inl v.2.2.1)), (h4, .inl (z.1, 10, .inl v.2.2.2.1)), (h5, .inl (z.1, 10, .inl v.2.2.2.2))] H := hP
  have hD : va_D A [(h, .inr (4, [.ref h1, .ref h2, .ref h3, .ref h4, .ref h5])), (h1, .inl (z.1, 10, .inl v.1)), (h2, .inl (z.1, 10, .inl v.2.1)), (h3, .inl (z.1, 10, .inl v.2.2.1)), (h4, .inl (z.1, 10, .inl v.2.2.2.1)), (h5, .inl (z.1, 10, .inl v.2.2.2.2))] := hD
  have hown : s.vm.findClass RX4 = some m.cls := hown
  obtain ⟨w, hw40, hw⟩ := hW rn bb_r
  refine lv_aload_n hx hb dX4_playOne_0 rfl (lv_at hl 0 rfl) ?_
  refine va_get (D := D) (ci := 4) (v := .ref h5) (C := RX4) (T := TX4) (N := 5) hx hb hts iX4_playOne_X4 hown hK hP 0 rfl rfl 4 (by decide) (hts (.fieldLink RX4 24 "BarnPictures$Reels" "playedIn" "[I") (by decide +kernel)) (fun _ h9 => h9) rfl dX4_playOne_1 ?_
  refine lv_iload_n hx hb dX4_playOne_4 rfl (lv_at hl 1 rfl) ?_
  refine lv_dup2_11 hx hb dX4_playOne_5 rfl rfl ?_
  refine iald_k hx hb hK hP 5 rfl rn (ix_of ee_r (by omega) (by decide)) dX4_playOne_6 ?_
  refine lv_iconst (v := 1) hx hb dX4_playOne_7 (by decide) ?_
  refine lv_iload_n hx hb dX4_playOne_8 rfl (lv_at hl 2 rfl) ?_
  refine lv_ishl hx hb dX4_playOne_9 ?_
  refine lv_ior hx hb dX4_playOne_10 ?_
  refine iast_k hx hb hK hP hD hS 5 rfl rn (ix_of ee_r (by omega) (by decide)) dX4_playOne_11 (fun H locs hP hD hS => ?_)
  have hP : va_P D vwCl [(h, .inr (4, [.ref h1, .ref h2, .ref h3, .ref h4, .ref h5])), (h1, .inl (z.1, 10, .inl v.1)), (h2, .inl (z.1, 10, .inl v.2.1)), (h3, .inl (z.1, 10, .inl v.2.2.1)), (h4, .inl (z.1, 10, .inl v.2.2.2.1)), (h5, .inl (z.1, 10, .inl (upd v.2.2.2.2 rn ((v.2.2.2.2 rn) ||| (1 <<< (b &&& 31))))))] H := hP
  have hD : va_D A [(h, .inr (4, [.ref h1, .ref h2, .ref h3, .ref h4, .ref h5])), (h1, .inl (z.1, 10, .inl v.1)), (h2, .inl (z.1, 10, .inl v.2.1)), (h3, .inl (z.1, 10, .inl v.2.2.1)), (h4, .inl (z.1, 10, .inl v.2.2.2.1)), (h5, .inl (z.1, 10, .inl (upd v.2.2.2.2 rn ((v.2.2.2.2 rn) ||| (1 <<< (b &&& 31))))))] := hD
  refine lv_aload_n hx hb dX4_playOne_12 rfl (lv_at hl 0 rfl) ?_
  refine va_get (D := D) (ci := 4) (v := .ref h3) (C := RX4) (T := TX4) (N := 5) hx hb hts iX4_playOne_X4 hown hK hP 0 rfl rfl 2 (by decide) (hts (.fieldLink RX4 18 "BarnPictures$Reels" "wear" "[I") (by decide +kernel)) (fun _ h9 => h9) rfl dX4_playOne_13 ?_
  refine lv_iload_n hx hb dX4_playOne_16 rfl (lv_at hl 1 rfl) ?_
  refine lv_dup2_11 hx hb dX4_playOne_17 rfl rfl ?_
  refine iald_k hx hb hK hP 3 rfl rn (ix_of ee_r (by omega) (by decide)) dX4_playOne_18 ?_
  refine lv_iconst (v := 5) hx hb dX4_playOne_19 (by decide) ?_
  refine lv_iload_n hx hb dX4_playOne_20 rfl (lv_at hl 2 rfl) ?_
  refine lv_iconst (v := 3) hx hb dX4_playOne_21 (by decide) ?_
  refine lv_irem hx hb dX4_playOne_22 (by decide) ?_
  refine lv_iadd hx hb dX4_playOne_23 ?_
  refine lv_iadd hx hb dX4_playOne_24 ?_
  refine iast_k hx hb hK hP hD hS 3 rfl rn (ix_of ee_r (by omega) (by decide)) dX4_playOne_25 (fun H locs hP hD hS => ?_)
  have hP : va_P D vwCl [(h, .inr (4, [.ref h1, .ref h2, .ref h3, .ref h4, .ref h5])), (h1, .inl (z.1, 10, .inl v.1)), (h2, .inl (z.1, 10, .inl v.2.1)), (h3, .inl (z.1, 10, .inl (upd v.2.2.1 rn ((v.2.2.1 rn) + (5 + (b - b / 3 * 3)))))), (h4, .inl (z.1, 10, .inl v.2.2.2.1)), (h5, .inl (z.1, 10, .inl (upd v.2.2.2.2 rn ((v.2.2.2.2 rn) ||| (1 <<< (b &&& 31))))))] H := hP
  have hD : va_D A [(h, .inr (4, [.ref h1, .ref h2, .ref h3, .ref h4, .ref h5])), (h1, .inl (z.1, 10, .inl v.1)), (h2, .inl (z.1, 10, .inl v.2.1)), (h3, .inl (z.1, 10, .inl (upd v.2.2.1 rn ((v.2.2.1 rn) + (5 + (b - b / 3 * 3)))))), (h4, .inl (z.1, 10, .inl v.2.2.2.1)), (h5, .inl (z.1, 10, .inl (upd v.2.2.2.2 rn ((v.2.2.2.2 rn) ||| (1 <<< (b &&& 31))))))] := hD
  refine lv_iconst (v := 0) hx hb dX4_playOne_26 (by decide) ?_
  refine lv_istore_n (lv' := [(3, .int 0), (0, .ref h), (1, .int r), (2, .int b)]) hx hb dX4_playOne_27 rfl hl (by decide) rfl (fun ls hl => ?_)
  refine lv_aload_n hx hb dX4_playOne_28 rfl (lv_at hl 1 rfl) ?_
  refine va_get (D := D) (ci := 4) (v := .ref h3) (C := RX4) (T := TX4) (N := 5) hx hb hts iX4_playOne_X4 hown hK hP 0 rfl rfl 2 (by decide) (hts (.fieldLink RX4 18 "BarnPictures$Reels" "wear" "[I") (by decide +kernel)) (fun _ h9 => h9) rfl dX4_playOne_29 ?_
  refine lv_iload_n hx hb dX4_playOne_32 rfl (lv_at hl 2 rfl) ?_
  refine iald_e hx hb hK hP 3 rfl rn (x := ((v.2.2.1 rn) + (5 + (b - b / 3 * 3)))) pk_us (ix_of ee_r (by omega) (by decide)) dX4_playOne_33 ?_
  refine lv_bipush (v := 40) hx hb dX4_playOne_34 (by decide) ?_
  refine lv_icmp_lt (tgt := 56) hx hb dX4_playOne_36 (by decide) (fun c_1 => ?_) (fun c_1 => ?_)
  · have nc_1 : (w + (5 + (bn % 3))) < 40 := (nlt_iff (nadd hw (nadd (nlit 5) (nrem ee_b (nlit 3) (by omega) (by decide) (by decide)))) (nlit 40) (by omega) (by omega)).mp c_1
    refine lv_aload_n hx hb dX4_playOne_56 rfl (lv_at hl 1 rfl) ?_
    refine va_get (D := D) (ci := 4) (v := .ref h4) (C := RX4) (T := TX4) (N := 5) hx hb hts iX4_playOne_X4 hown hK hP 0 rfl rfl 3 (by decide) (hts (.fieldLink RX4 21 "BarnPictures$Reels" "splices" "[I") (by decide +kernel)) (fun _ h9 => h9) rfl dX4_playOne_57 ?_
    refine lv_iload_n hx hb dX4_playOne_60 rfl (lv_at hl 2 rfl) ?_
    refine lv_dup2_11 hx hb dX4_playOne_61 rfl rfl ?_
    refine iald_k hx hb hK hP 4 rfl rn (ix_of ee_r (by omega) (by decide)) dX4_playOne_62 ?_
    refine lv_iload_n hx hb dX4_playOne_63 rfl (lv_at hl 0 rfl) ?_
    refine lv_iadd hx hb dX4_playOne_64 ?_
    refine iast_k hx hb hK hP hD hS 4 rfl rn (ix_of ee_r (by omega) (by decide)) dX4_playOne_65 (fun H locs hP hD hS => ?_)
    have hP : va_P D vwCl [(h, .inr (4, [.ref h1, .ref h2, .ref h3, .ref h4, .ref h5])), (h1, .inl (z.1, 10, .inl v.1)), (h2, .inl (z.1, 10, .inl v.2.1)), (h3, .inl (z.1, 10, .inl (upd v.2.2.1 rn ((v.2.2.1 rn) + (5 + (b - b / 3 * 3)))))), (h4, .inl (z.1, 10, .inl (upd v.2.2.2.1 rn ((v.2.2.2.1 rn) + 0)))), (h5, .inl (z.1, 10, .inl (upd v.2.2.2.2 rn ((v.2.2.2.2 rn) ||| (1 <<< (b &&& 31))))))] H := hP
    have hD : va_D A [(h, .inr (4, [.ref h1, .ref h2, .ref h3, .ref h4, .ref h5])), (h1, .inl (z.1, 10, .inl v.1)), (h2, .inl (z.1, 10, .inl v.2.1)), (h3, .inl (z.1, 10, .inl (upd v.2.2.1 rn ((v.2.2.1 rn) + (5 + (b - b / 3 * 3)))))), (h4, .inl (z.1, 10, .inl (upd v.2.2.2.1 rn ((v.2.2.2.1 rn) + 0)))), (h5, .inl (z.1, 10, .inl (upd v.2.2.2.2 rn ((v.2.2.2.2 rn) ||| (1 <<< (b &&& 31))))))] := hD
    refine lv_aload_n hx hb dX4_playOne_66 rfl (lv_at hl 1 rfl) ?_
    refine va_get (D := D) (ci := 4) (v := .ref h2) (C := RX4) (T := TX4) (N := 5) hx hb hts iX4_playOne_X4 hown hK hP 0 rfl rfl 1 (by decide) (hts (.fieldLink RX4 15 "BarnPictures$Reels" "minutes" "[I") (by decide +kernel)) (fun _ h9 => h9) rfl dX4_playOne_67 ?_
    refine lv_iload_n hx hb dX4_playOne_70 rfl (lv_at hl 2 rfl) ?_
    refine lv_dup2_11 hx hb dX4_playOne_71 rfl rfl ?_
    refine iald_k hx hb hK hP 2 rfl rn (ix_of ee_r (by omega) (by decide)) dX4_playOne_72 ?_
    refine lv_iload_n hx hb dX4_playOne_73 rfl (lv_at hl 0 rfl) ?_
    refine lv_isub hx hb dX4_playOne_74 ?_
    refine iast_k hx hb hK hP hD hS 2 rfl rn (ix_of ee_r (by omega) (by decide)) dX4_playOne_75 (fun H locs hP hD hS => ?_)
    have hP : va_P D vwCl [(h, .inr (4, [.ref h1, .ref h2, .ref h3, .ref h4, .ref h5])), (h1, .inl (z.1, 10, .inl v.1)), (h2, .inl (z.1, 10, .inl (upd v.2.1 rn ((v.2.1 rn) - 0)))), (h3, .inl (z.1, 10, .inl (upd v.2.2.1 rn ((v.2.2.1 rn) + (5 + (b - b / 3 * 3)))))), (h4, .inl (z.1, 10, .inl (upd v.2.2.2.1 rn ((v.2.2.2.1 rn) + 0)))), (h5, .inl (z.1, 10, .inl (upd v.2.2.2.2 rn ((v.2.2.2.2 rn) ||| (1 <<< (b &&& 31))))))] H := hP
    have hD : va_D A [(h, .inr (4, [.ref h1, .ref h2, .ref h3, .ref h4, .ref h5])), (h1, .inl (z.1, 10, .inl v.1)), (h2, .inl (z.1, 10, .inl (upd v.2.1 rn ((v.2.1 rn) - 0)))), (h3, .inl (z.1, 10, .inl (upd v.2.2.1 rn ((v.2.2.1 rn) + (5 + (b - b / 3 * 3)))))), (h4, .inl (z.1, 10, .inl (upd v.2.2.2.1 rn ((v.2.2.2.1 rn) + 0)))), (h5, .inl (z.1, 10, .inl (upd v.2.2.2.2 rn ((v.2.2.2.2 rn) ||| (1 <<< (b &&& 31))))))] := hD
    refine lv_aload_n hx hb dX4_playOne_76 rfl (lv_at hl 1 rfl) ?_
    refine va_get (D := D) (ci := 4) (v := .ref h2) (C := RX4) (T := TX4) (N := 5) hx hb hts iX4_playOne_X4 hown hK hP 0 rfl rfl 1 (by decide) (hts (.fieldLink RX4 15 "BarnPictures$Reels" "minutes" "[I") (by decide +kernel)) (fun _ h9 => h9) rfl dX4_playOne_77 ?_
    refine lv_iload_n hx hb dX4_playOne_80 rfl (lv_at hl 2 rfl) ?_
    refine iald_e hx hb hK hP 2 rfl rn (x := ((v.2.1 rn) - 0)) pk_us (ix_of ee_r (by omega) (by decide)) dX4_playOne_81 ?_
    refine lv_iconst (v := 3) hx hb dX4_playOne_82 (by decide) ?_
    refine lv_icmp_ge (tgt := 94) hx hb dX4_playOne_83 (by decide) (fun c_2 => ?_) (fun c_2 => ?_)
    · refine lv_iload_n hx hb dX4_playOne_94 rfl (lv_at hl 0 rfl) ?_
      subst hQ
      exact ret_i (v.1, (upd v.2.1 rn ((v.2.1 rn) - 0)), (upd v.2.2.1 rn ((v.2.2.1 rn) + (5 + (b - b / 3 * 3)))), (upd v.2.2.2.1 rn ((v.2.2.2.1 rn) + 0)), (upd v.2.2.2.2 rn ((v.2.2.2.2 rn) ||| (1 <<< (b &&& 31))))) hx hb hr hK hP hD hS rfl (by unfold f_X4_playOne; rw [if_pos c_1, if_pos c_2]; try rfl) dX4_playOne_95 hlocks
    · refine lv_aload_n hx hb dX4_playOne_86 rfl (lv_at hl 1 rfl) ?_
      refine va_get (D := D) (ci := 4) (v := .ref h1) (C := RX4) (T := TX4) (N := 5) hx hb hts iX4_playOne_X4 hown hK hP 0 rfl rfl 0 (by decide) (hts (.fieldLink RX4 9 "BarnPictures$Reels" "place" "[I") (by decide +kernel)) (fun _ h9 => h9) rfl dX4_playOne_87 ?_
      refine lv_iload_n hx hb dX4_playOne_90 rfl (lv_at hl 2 rfl) ?_
      refine lv_bipush (v := (-2)) hx hb dX4_playOne_91 (by decide) ?_
      refine iast_k hx hb hK hP hD hS 1 rfl rn (ix_of ee_r (by omega) (by decide)) dX4_playOne_93 (fun H locs hP hD hS => ?_)
      have hP : va_P D vwCl [(h, .inr (4, [.ref h1, .ref h2, .ref h3, .ref h4, .ref h5])), (h1, .inl (z.1, 10, .inl (upd v.1 rn (-2)))), (h2, .inl (z.1, 10, .inl (upd v.2.1 rn ((v.2.1 rn) - 0)))), (h3, .inl (z.1, 10, .inl (upd v.2.2.1 rn ((v.2.2.1 rn) + (5 + (b - b / 3 * 3)))))), (h4, .inl (z.1, 10, .inl (upd v.2.2.2.1 rn ((v.2.2.2.1 rn) + 0)))), (h5, .inl (z.1, 10, .inl (upd v.2.2.2.2 rn ((v.2.2.2.2 rn) ||| (1 <<< (b &&& 31))))))] H := hP
      have hD : va_D A [(h, .inr (4, [.ref h1, .ref h2, .ref h3, .ref h4, .ref h5])), (h1, .inl (z.1, 10, .inl (upd v.1 rn (-2)))), (h2, .inl (z.1, 10, .inl (upd v.2.1 rn ((v.2.1 rn) - 0)))), (h3, .inl (z.1, 10, .inl (upd v.2.2.1 rn ((v.2.2.1 rn) + (5 + (b - b / 3 * 3)))))), (h4, .inl (z.1, 10, .inl (upd v.2.2.2.1 rn ((v.2.2.2.1 rn) + 0)))), (h5, .inl (z.1, 10, .inl (upd v.2.2.2.2 rn ((v.2.2.2.2 rn) ||| (1 <<< (b &&& 31))))))] := hD
      refine lv_iload_n hx hb dX4_playOne_94 rfl (lv_at hl 0 rfl) ?_
      subst hQ
      exact ret_i ((upd v.1 rn (-2)), (upd v.2.1 rn ((v.2.1 rn) - 0)), (upd v.2.2.1 rn ((v.2.2.1 rn) + (5 + (b - b / 3 * 3)))), (upd v.2.2.2.1 rn ((v.2.2.2.1 rn) + 0)), (upd v.2.2.2.2 rn ((v.2.2.2.2 rn) ||| (1 <<< (b &&& 31))))) hx hb hr hK hP hD hS rfl (by unfold f_X4_playOne; rw [if_pos c_1, if_neg c_2]; try rfl) dX4_playOne_95 hlocks
  · have nc_1 : ¬ (w + (5 + (bn % 3))) < 40 := fun h => c_1 ((nlt_iff (nadd hw (nadd (nlit 5) (nrem ee_b (nlit 3) (by omega) (by decide) (by decide)))) (nlit 40) (by omega) (by omega)).mpr h)
    refine lv_aload_n hx hb dX4_playOne_39 rfl (lv_at hl 1 rfl) ?_
    refine va_get (D := D) (ci := 4) (v := .ref h3) (C := RX4) (T := TX4) (N := 5) hx hb hts iX4_playOne_X4 hown hK hP 0 rfl rfl 2 (by decide) (hts (.fieldLink RX4 18 "BarnPictures$Reels" "wear" "[I") (by decide +kernel)) (fun _ h9 => h9) rfl dX4_playOne_40 ?_
    refine lv_iload_n hx hb dX4_playOne_43 rfl (lv_at hl 2 rfl) ?_
    refine lv_dup2_11 hx hb dX4_playOne_44 rfl rfl ?_
    refine iald_e hx hb hK hP 3 rfl rn (x := ((v.2.2.1 rn) + (5 + (b - b / 3 * 3)))) pk_us (ix_of ee_r (by omega) (by decide)) dX4_playOne_45 ?_
    refine lv_bipush (v := 20) hx hb dX4_playOne_46 (by decide) ?_
    refine lv_isub hx hb dX4_playOne_48 ?_
    refine iast_k hx hb hK hP hD hS 3 rfl rn (ix_of ee_r (by omega) (by decide)) dX4_playOne_49 (fun H locs hP hD hS => ?_)
    have hP : va_P D vwCl [(h, .inr (4, [.ref h1, .ref h2, .ref h3, .ref h4, .ref h5])), (h1, .inl (z.1, 10, .inl v.1)), (h2, .inl (z.1, 10, .inl v.2.1)), (h3, .inl (z.1, 10, .inl (upd (upd v.2.2.1 rn ((v.2.2.1 rn) + (5 + (b - b / 3 * 3)))) rn (((v.2.2.1 rn) + (5 + (b - b / 3 * 3))) - 20)))), (h4, .inl (z.1, 10, .inl v.2.2.2.1)), (h5, .inl (z.1, 10, .inl (upd v.2.2.2.2 rn ((v.2.2.2.2 rn) ||| (1 <<< (b &&& 31))))))] H := hP
    have hD : va_D A [(h, .inr (4, [.ref h1, .ref h2, .ref h3, .ref h4, .ref h5])), (h1, .inl (z.1, 10, .inl v.1)), (h2, .inl (z.1, 10, .inl v.2.1)), (h3, .inl (z.1, 10, .inl (upd (upd v.2.2.1 rn ((v.2.2.1 rn) + (5 + (b - b / 3 * 3)))) rn (((v.2.2.1 rn) + (5 + (b - b / 3 * 3))) - 20)))), (h4, .inl (z.1, 10, .inl v.2.2.2.1)), (h5, .inl (z.1, 10, .inl (upd v.2.2.2.2 rn ((v.2.2.2.2 rn) ||| (1 <<< (b &&& 31))))))] := hD
    refine lv_iinc (v := 1) (lv' := [(3, .int 1), (0, .ref h), (1, .int r), (2, .int b)]) hx hb dX4_playOne_50 hl (k := 0) rfl (by decide) (by decide) rfl (fun ls hl => ?_)
    refine lv_goto (tgt := 28) hx hb dX4_playOne_53 (by decide) ?_
    refine lv_aload_n hx hb dX4_playOne_28 rfl (lv_at hl 1 rfl) ?_
    refine va_get (D := D) (ci := 4) (v := .ref h3) (C := RX4) (T := TX4) (N := 5) hx hb hts iX4_playOne_X4 hown hK hP 0 rfl rfl 2 (by decide) (hts (.fieldLink RX4 18 "BarnPictures$Reels" "wear" "[I") (by decide +kernel)) (fun _ h9 => h9) rfl dX4_playOne_29 ?_
    refine lv_iload_n hx hb dX4_playOne_32 rfl (lv_at hl 2 rfl) ?_
    refine iald_e hx hb hK hP 3 rfl rn (x := (((v.2.2.1 rn) + (5 + (b - b / 3 * 3))) - 20)) pk_us (ix_of ee_r (by omega) (by decide)) dX4_playOne_33 ?_
    refine lv_bipush (v := 40) hx hb dX4_playOne_34 (by decide) ?_
    refine lv_icmp_lt (tgt := 56) hx hb dX4_playOne_36 (by decide) (fun c_3 => ?_) (fun c_3 => absurd ((nlt_iff (nsub (nadd hw (nadd (nlit 5) (nrem ee_b (nlit 3) (by omega) (by decide) (by decide)))) (nlit 20) (by omega)) (nlit 40) (by omega) (by decide)).mpr (by omega)) c_3)
    have nc_3 : ((w + (5 + (bn % 3))) - 20) < 40 := (nlt_iff (nsub (nadd hw (nadd (nlit 5) (nrem ee_b (nlit 3) (by omega) (by decide) (by decide)))) (nlit 20) (by omega)) (nlit 40) (by omega) (by omega)).mp c_3
    refine lv_aload_n hx hb dX4_playOne_56 rfl (lv_at hl 1 rfl) ?_
    refine va_get (D := D) (ci := 4) (v := .ref h4) (C := RX4) (T := TX4) (N := 5) hx hb hts iX4_playOne_X4 hown hK hP 0 rfl rfl 3 (by decide) (hts (.fieldLink RX4 21 "BarnPictures$Reels" "splices" "[I") (by decide +kernel)) (fun _ h9 => h9) rfl dX4_playOne_57 ?_
    refine lv_iload_n hx hb dX4_playOne_60 rfl (lv_at hl 2 rfl) ?_
    refine lv_dup2_11 hx hb dX4_playOne_61 rfl rfl ?_
    refine iald_k hx hb hK hP 4 rfl rn (ix_of ee_r (by omega) (by decide)) dX4_playOne_62 ?_
    refine lv_iload_n hx hb dX4_playOne_63 rfl (lv_at hl 0 rfl) ?_
    refine lv_iadd hx hb dX4_playOne_64 ?_
    refine iast_k hx hb hK hP hD hS 4 rfl rn (ix_of ee_r (by omega) (by decide)) dX4_playOne_65 (fun H locs hP hD hS => ?_)
    have hP : va_P D vwCl [(h, .inr (4, [.ref h1, .ref h2, .ref h3, .ref h4, .ref h5])), (h1, .inl (z.1, 10, .inl v.1)), (h2, .inl (z.1, 10, .inl v.2.1)), (h3, .inl (z.1, 10, .inl (upd (upd v.2.2.1 rn ((v.2.2.1 rn) + (5 + (b - b / 3 * 3)))) rn (((v.2.2.1 rn) + (5 + (b - b / 3 * 3))) - 20)))), (h4, .inl (z.1, 10, .inl (upd v.2.2.2.1 rn ((v.2.2.2.1 rn) + 1)))), (h5, .inl (z.1, 10, .inl (upd v.2.2.2.2 rn ((v.2.2.2.2 rn) ||| (1 <<< (b &&& 31))))))] H := hP
    have hD : va_D A [(h, .inr (4, [.ref h1, .ref h2, .ref h3, .ref h4, .ref h5])), (h1, .inl (z.1, 10, .inl v.1)), (h2, .inl (z.1, 10, .inl v.2.1)), (h3, .inl (z.1, 10, .inl (upd (upd v.2.2.1 rn ((v.2.2.1 rn) + (5 + (b - b / 3 * 3)))) rn (((v.2.2.1 rn) + (5 + (b - b / 3 * 3))) - 20)))), (h4, .inl (z.1, 10, .inl (upd v.2.2.2.1 rn ((v.2.2.2.1 rn) + 1)))), (h5, .inl (z.1, 10, .inl (upd v.2.2.2.2 rn ((v.2.2.2.2 rn) ||| (1 <<< (b &&& 31))))))] := hD
    refine lv_aload_n hx hb dX4_playOne_66 rfl (lv_at hl 1 rfl) ?_
    refine va_get (D := D) (ci := 4) (v := .ref h2) (C := RX4) (T := TX4) (N := 5) hx hb hts iX4_playOne_X4 hown hK hP 0 rfl rfl 1 (by decide) (hts (.fieldLink RX4 15 "BarnPictures$Reels" "minutes" "[I") (by decide +kernel)) (fun _ h9 => h9) rfl dX4_playOne_67 ?_
    refine lv_iload_n hx hb dX4_playOne_70 rfl (lv_at hl 2 rfl) ?_
    refine lv_dup2_11 hx hb dX4_playOne_71 rfl rfl ?_
    refine iald_k hx hb hK hP 2 rfl rn (ix_of ee_r (by omega) (by decide)) dX4_playOne_72 ?_
    refine lv_iload_n hx hb dX4_playOne_73 rfl (lv_at hl 0 rfl) ?_
    refine lv_isub hx hb dX4_playOne_74 ?_
    refine iast_k hx hb hK hP hD hS 2 rfl rn (ix_of ee_r (by omega) (by decide)) dX4_playOne_75 (fun H locs hP hD hS => ?_)
    have hP : va_P D vwCl [(h, .inr (4, [.ref h1, .ref h2, .ref h3, .ref h4, .ref h5])), (h1, .inl (z.1, 10, .inl v.1)), (h2, .inl (z.1, 10, .inl (upd v.2.1 rn ((v.2.1 rn) - 1)))), (h3, .inl (z.1, 10, .inl (upd (upd v.2.2.1 rn ((v.2.2.1 rn) + (5 + (b - b / 3 * 3)))) rn (((v.2.2.1 rn) + (5 + (b - b / 3 * 3))) - 20)))), (h4, .inl (z.1, 10, .inl (upd v.2.2.2.1 rn ((v.2.2.2.1 rn) + 1)))), (h5, .inl (z.1, 10, .inl (upd v.2.2.2.2 rn ((v.2.2.2.2 rn) ||| (1 <<< (b &&& 31))))))] H := hP
    have hD : va_D A [(h, .inr (4, [.ref h1, .ref h2, .ref h3, .ref h4, .ref h5])), (h1, .inl (z.1, 10, .inl v.1)), (h2, .inl (z.1, 10, .inl (upd v.2.1 rn ((v.2.1 rn) - 1)))), (h3, .inl (z.1, 10, .inl (upd (upd v.2.2.1 rn ((v.2.2.1 rn) + (5 + (b - b / 3 * 3)))) rn (((v.2.2.1 rn) + (5 + (b - b / 3 * 3))) - 20)))), (h4, .inl (z.1, 10, .inl (upd v.2.2.2.1 rn ((v.2.2.2.1 rn) + 1)))), (h5, .inl (z.1, 10, .inl (upd v.2.2.2.2 rn ((v.2.2.2.2 rn) ||| (1 <<< (b &&& 31))))))] := hD
    refine lv_aload_n hx hb dX4_playOne_76 rfl (lv_at hl 1 rfl) ?_
    refine va_get (D := D) (ci := 4) (v := .ref h2) (C := RX4) (T := TX4) (N := 5) hx hb hts iX4_playOne_X4 hown hK hP 0 rfl rfl 1 (by decide) (hts (.fieldLink RX4 15 "BarnPictures$Reels" "minutes" "[I") (by decide +kernel)) (fun _ h9 => h9) rfl dX4_playOne_77 ?_
    refine lv_iload_n hx hb dX4_playOne_80 rfl (lv_at hl 2 rfl) ?_
    refine iald_e hx hb hK hP 2 rfl rn (x := ((v.2.1 rn) - 1)) pk_us (ix_of ee_r (by omega) (by decide)) dX4_playOne_81 ?_
    refine lv_iconst (v := 3) hx hb dX4_playOne_82 (by decide) ?_
    refine lv_icmp_ge (tgt := 94) hx hb dX4_playOne_83 (by decide) (fun c_4 => ?_) (fun c_4 => ?_)
    · refine lv_iload_n hx hb dX4_playOne_94 rfl (lv_at hl 0 rfl) ?_
      subst hQ
      exact ret_i (v.1, (upd v.2.1 rn ((v.2.1 rn) - 1)), (upd (upd v.2.2.1 rn ((v.2.2.1 rn) + (5 + (b - b / 3 * 3)))) rn (((v.2.2.1 rn) + (5 + (b - b / 3 * 3))) - 20)), (upd v.2.2.2.1 rn ((v.2.2.2.1 rn) + 1)), (upd v.2.2.2.2 rn ((v.2.2.2.2 rn) ||| (1 <<< (b &&& 31))))) hx hb hr hK hP hD hS rfl (by unfold f_X4_playOne; rw [if_neg c_1, if_pos c_4]; try rfl) dX4_playOne_95 hlocks
    · refine lv_aload_n hx hb dX4_playOne_86 rfl (lv_at hl 1 rfl) ?_
      refine va_get (D := D) (ci := 4) (v := .ref h1) (C := RX4) (T := TX4) (N := 5) hx hb hts iX4_playOne_X4 hown hK hP 0 rfl rfl 0 (by decide) (hts (.fieldLink RX4 9 "BarnPictures$Reels" "place" "[I") (by decide +kernel)) (fun _ h9 => h9) rfl dX4_playOne_87 ?_
      refine lv_iload_n hx hb dX4_playOne_90 rfl (lv_at hl 2 rfl) ?_
      refine lv_bipush (v := (-2)) hx hb dX4_playOne_91 (by decide) ?_
      refine iast_k hx hb hK hP hD hS 1 rfl rn (ix_of ee_r (by omega) (by decide)) dX4_playOne_93 (fun H locs hP hD hS => ?_)
      have hP : va_P D vwCl [(h, .inr (4, [.ref h1, .ref h2, .ref h3, .ref h4, .ref h5])), (h1, .inl (z.1, 10, .inl (upd v.1 rn (-2)))), (h2, .inl (z.1, 10, .inl (upd v.2.1 rn ((v.2.1 rn) - 1)))), (h3, .inl (z.1, 10, .inl (upd (upd v.2.2.1 rn ((v.2.2.1 rn) + (5 + (b - b / 3 * 3)))) rn (((v.2.2.1 rn) + (5 + (b - b / 3 * 3))) - 20)))), (h4, .inl (z.1, 10, .inl (upd v.2.2.2.1 rn ((v.2.2.2.1 rn) + 1)))), (h5, .inl (z.1, 10, .inl (upd v.2.2.2.2 rn ((v.2.2.2.2 rn) ||| (1 <<< (b &&& 31))))))] H := hP
      have hD : va_D A [(h, .inr (4, [.ref h1, .ref h2, .ref h3, .ref h4, .ref h5])), (h1, .inl (z.1, 10, .inl (upd v.1 rn (-2)))), (h2, .inl (z.1, 10, .inl (upd v.2.1 rn ((v.2.1 rn) - 1)))), (h3, .inl (z.1, 10, .inl (upd (upd v.2.2.1 rn ((v.2.2.1 rn) + (5 + (b - b / 3 * 3)))) rn (((v.2.2.1 rn) + (5 + (b - b / 3 * 3))) - 20)))), (h4, .inl (z.1, 10, .inl (upd v.2.2.2.1 rn ((v.2.2.2.1 rn) + 1)))), (h5, .inl (z.1, 10, .inl (upd v.2.2.2.2 rn ((v.2.2.2.2 rn) ||| (1 <<< (b &&& 31))))))] := hD
      refine lv_iload_n hx hb dX4_playOne_94 rfl (lv_at hl 0 rfl) ?_
      subst hQ
      exact ret_i ((upd v.1 rn (-2)), (upd v.2.1 rn ((v.2.1 rn) - 1)), (upd (upd v.2.2.1 rn ((v.2.2.1 rn) + (5 + (b - b / 3 * 3)))) rn (((v.2.2.1 rn) + (5 + (b - b / 3 * 3))) - 20)), (upd v.2.2.2.1 rn ((v.2.2.2.1 rn) + 1)), (upd v.2.2.2.2 rn ((v.2.2.2.2 rn) ||| (1 <<< (b &&& 31))))) hx hb hr hK hP hD hS rfl (by unfold f_X4_playOne; rw [if_neg c_1, if_neg c_4]; try rfl) dX4_playOne_95 hlocks

