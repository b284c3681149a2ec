def f_X10_in (x : Int32) (y : Int32) (w : Int32) : Int32 := if x < y then 0 else if w < x then 0 else 1
set_option maxRecDepth 100000 in
set_option maxHeartbeats 1000000 in
theorem c_X10_in (l : Launch) (D : va_G) (z : ClassId × ClassId × ClassId) (x : Int32) (y : Int32) (w : Int32) (sz : Nat) : CI l yX10_in wsX10_in 0 0 0 0 [.int x, .int y, .int w] D z ([]) sz (E0) (fun (zr : Int32) (_ : Unit) => zr = f_X10_in x y w ∧ (zr = 0 ∨ zr = 1)) (fun _ => []) := by
  refine met_i cX10_in 3 (some .boolean) (by decide) rfl (Nat.le_of_ble_eq_true rfl) ?_
  intro p e s m args below meth c R Q hx hb hr hml hts hown hlocks hin hRf hRl hRc hRs hc0 hs0 A H hA hP hK hD hS hE hQ ls hl
  have hl : lv_has ls 3 [(0, .int x), (1, .int y), (2, .int w)] := hl
  have hP : va_P D vwCl [] H := hP
  have hD : va_D A [] := hD
  have hown : s.vm.findClass RX10 = some m.cls := hown
  refine lv_iload_n hx hb dX10_in_0 rfl (lv_at hl 0 rfl) ?_
  refine lv_iload_n hx hb dX10_in_1 rfl (lv_at hl 1 rfl) ?_
  refine lv_icmp_lt (tgt := 14) hx hb dX10_in_2 (by decide) (fun c_1 => ?_) (fun c_1 => ?_)
  · refine lv_iconst (v := 0) hx hb dX10_in_14 (by decide) ?_
    subst hQ
    exact ret_z () hx hb hr rfl hK hP hD hS rfl ⟨(by unfold f_X10_in; rw [if_pos c_1]; try rfl), (Or.inl rfl)⟩ dX10_in_15 hlocks
  · refine lv_iload_n hx hb dX10_in_5 rfl (lv_at hl 0 rfl) ?_
    refine lv_iload_n hx hb dX10_in_6 rfl (lv_at hl 2 rfl) ?_
    refine lv_icmp_gt (tgt := 14) hx hb dX10_in_7 (by decide) (fun c_2 => ?_) (fun c_2 => ?_)
    · refine lv_iconst (v := 0) hx hb dX10_in_14 (by decide) ?_
      subst hQ
      exact ret_z () hx hb hr rfl hK hP hD hS rfl ⟨(by unfold f_X10_in; rw [if_neg c_1, if_pos c_2]; try rfl), (Or.inl rfl)⟩ dX10_in_15 hlocks
    · refine lv_iconst (v := 1) hx hb dX10_in_10 (by decide) ?_
      refine lv_goto (tgt := 15) hx hb dX10_in_11 (by decide) ?_
      subst hQ
      exact ret_z () hx hb hr rfl hK hP hD hS rfl ⟨(by unfold f_X10_in; rw [if_neg c_1, if_neg c_2]; try rfl), (Or.inr rfl)⟩ dX10_in_15 hlocks

def f_X10_of (x : Int32) (y : Int32) : Int32 := ((0 + (5 * x)) + y)
set_option maxRecDepth 100000 in
set_option maxHeartbeats 1000000 in
theorem c_X10_of (l : Launch) (D : va_G) (z : ClassId × ClassId × ClassId) (x : Int32) (y : Int32) (sz : Nat) : CI l yX10_of wsX10_of 0 0 0 0 [.int x, .int y] D z ([]) sz (E0) (fun (zr : Int32) (_ : Unit) => zr = f_X10_of x y) (fun _ => []) := by
  refine met_i cX10_of 2 (some .int) (by decide) rfl (Nat.le_of_ble_eq_true rfl) ?_
  intro p e s m args below meth c R Q hx hb hr hml hts hown hlocks hin hRf hRl hRc hRs hc0 hs0 A H hA hP hK hD hS hE hQ ls hl
  have hl : lv_has ls 2 [(0, .int x), (1, .int y)] := hl
  have hP : va_P D vwCl [] H := hP
  have hD : va_D A [] := hD
  have hown : s.vm.findClass RX10 = some m.cls := hown
  refine lv_iconst (v := 0) hx hb dX10_of_0 (by decide) ?_
  refine lv_iconst (v := 5) hx hb dX10_of_1 (by decide) ?_
  refine lv_iload_n hx hb dX10_of_2 rfl (lv_at hl 0 rfl) ?_
  refine lv_imul hx hb dX10_of_3 ?_
  refine lv_iadd hx hb dX10_of_4 ?_
  refine lv_iload_n hx hb dX10_of_5 rfl (lv_at hl 1 rfl) ?_
  refine lv_iadd hx hb dX10_of_6 ?_
  subst hQ
  exact ret_i () hx hb hr hK hP hD hS rfl rfl dX10_of_7 hlocks

def f_X10_isBarn (x : Int32) : Int32 := (f_X10_in x 0 4)
set_option maxRecDepth 100000 in
set_option maxHeartbeats 1000000 in
theorem c_X10_isBarn (l : Launch) (D : va_G) (z : ClassId × ClassId × ClassId) (x : Int32) (sz : Nat) : CI l yX10_isBarn wsX10_isBarn 1 22 0 0 [.int x] D z ([]) sz (E0) (fun (zr : Int32) (_ : Unit) => zr = f_X10_isBarn x ∧ (zr = 0 ∨ zr = 1)) (fun _ => []) := by
  refine met_i cX10_isBarn 1 (some .boolean) (by decide) rfl (Nat.le_of_ble_eq_true rfl) ?_
  intro p e s m args below meth c R Q hx hb hr hml hts hown hlocks hin hRf hRl hRc hRs hc0 hs0 A H hA hP hK hD hS hE hQ ls hl
  have hl : lv_has ls 1 [(0, .int x)] := hl
  have hP : va_P D vwCl [] H := hP
  have hD : va_D A [] := hD
  have hown : s.vm.findClass RX10 = some m.cls := hown
  refine lv_iload_n hx hb dX10_isBarn_0 rfl (lv_at hl 0 rfl) ?_
  refine lv_iconst (v := 0) hx hb dX10_isBarn_1 (by decide) ?_
  refine lv_iconst (v := 4) hx hb dX10_isBarn_2 (by decide) ?_
  refine call_i [] (fun _ => []) (rS (As := [.int x, .int 0, .int 4]) (rest := []) ⟨hx, hb, hml, hown, hts⟩ (c_X10_in l D z x 0 4 H.size) (va_cwS 3 hts gX10_isBarn_X10_in rfl rfl rfl (by decide +kernel) ⟨Nat.le_trans (by decide) hRf, Nat.le_trans (by decide) hRl⟩) e0_ok e_0 hK hP hD [] (by decide) rfl rfl hl.1 rfl (Nat.le_of_ble_eq_true rfl) dX10_isBarn_3 ⟨Nat.zero_le _, Nat.zero_le _⟩) hK hP hD hS hA [] [] [] rfl rfl (by decide) (by decide) (by decide) (fun _ => rfl) (fun zr zu H locs hw hP hD hS => ?_)
  obtain ⟨hw, hz_1⟩ := hw
  subst hw
  have hP : va_P D vwCl [] H := hP
  have hD : va_D A [] := hD
  subst hQ
  exact ret_z () hx hb hr (bz hz_1) hK hP hD hS rfl ⟨rfl, hz_1⟩ dX10_isBarn_6 hlocks

def f_X10_isGenerator (x : Int32) : Int32 := (f_X10_in x 0 1)
set_option maxRecDepth 100000 in
set_option maxHeartbeats 1000000 in
theorem c_X10_isGenerator (l : Launch) (D : va_G) (z : ClassId × ClassId × ClassId) (x : Int32) (sz : Nat) : CI l yX10_isGenerator wsX10_isGenerator 1 22 0 0 [.int x] D z ([]) sz (E0) (fun (zr : Int32) (_ : Unit) => zr = f_X10_isGenerator x ∧ (zr = 0 ∨ zr = 1)) (fun _ => []) := by
  refine met_i cX10_isGenerator 1 (some .boolean) (by decide) rfl (Nat.le_of_ble_eq_true rfl) ?_
  intro p e s m args below meth c R Q hx hb hr hml hts hown hlocks hin hRf hRl hRc hRs hc0 hs0 A H hA hP hK hD hS hE hQ ls hl
  have hl : lv_has ls 1 [(0, .int x)] := hl
  have hP : va_P D vwCl [] H := hP
  have hD : va_D A [] := hD
  have hown : s.vm.findClass RX10 = some m.cls := hown
  refine lv_iload_n hx hb dX10_isGenerator_0 rfl (lv_at hl 0 rfl) ?_
  refine lv_iconst (v := 0) hx hb dX10_isGenerator_1 (by decide) ?_
  refine lv_iconst (v := 1) hx hb dX10_isGenerator_2 (by decide) ?_
  refine call_i [] (fun _ => []) (rS (As := [.int x, .int 0, .int 1]) (rest := []) ⟨hx, hb, hml, hown, hts⟩ (c_X10_in l D z x 0 1 H.size) (va_cwS 3 hts gX10_isGenerator_X10_in rfl rfl rfl (by decide +kernel) ⟨Nat.le_trans (by decide) hRf, Nat.le_trans (by decide) hRl⟩) e0_ok e_0 hK hP hD [] (by decide) rfl rfl hl.1 rfl (Nat.le_of_ble_eq_true rfl) dX10_isGenerator_3 ⟨Nat.zero_le _, Nat.zero_le _⟩) hK hP hD hS hA [] [] [] rfl rfl (by decide) (by decide) (by decide) (fun _ => rfl) (fun zr zu H locs hw hP hD hS => ?_)
  obtain ⟨hw, hz_1⟩ := hw
  subst hw
  have hP : va_P D vwCl [] H := hP
  have hD : va_D A [] := hD
  subst hQ
  exact ret_z () hx hb hr (bz hz_1) hK hP hD hS rfl ⟨rfl, hz_1⟩ dX10_isGenerator_6 hlocks

def f_X10_mile (x : Int32) : Int32 := if x = 0 then 0 else if x = 1 then 8 else if x = 2 then 20 else if x = 3 then 26 else 45
set_option maxRecDepth 100000 in
set_option maxHeartbeats 1000000 in
theorem c_X10_mile (l : Launch) (D : va_G) (z : ClassId × ClassId × ClassId) (x : Int32) (sz : Nat) : CI l yX10_mile wsX10_mile 0 0 0 0 [.int x] D z ([]) sz (E0) (fun (zr : Int32) (_ : Unit) => zr = f_X10_mile x) (fun _ => []) := by
  refine met_i cX10_mile 1 (some .int) (by decide) rfl (Nat.le_of_ble_eq_true rfl) ?_
  intro p e s m args below meth c R Q hx hb hr hml hts hown hlocks hin hRf hRl hRc hRs hc0 hs0 A H hA hP hK hD hS hE hQ ls hl
  have hl : lv_has ls 1 [(0, .int x)] := hl
  have hP : va_P D vwCl [] H := hP
  have hD : va_D A [] := hD
  have hown : s.vm.findClass RX10 = some m.cls := hown
  refine lv_iload_n hx hb dX10_mile_0 rfl (lv_at hl 0 rfl) ?_
  refine lv_if_ne (tgt := 8) hx hb dX10_mile_1 (by decide) (fun c_1 => ?_) (fun c_1 => ?_)
  · refine lv_iload_n hx hb dX10_mile_8 rfl (lv_at hl 0 rfl) ?_
    refine lv_iconst (v := 1) hx hb dX10_mile_9 (by decide) ?_
    refine lv_icmp_ne (tgt := 18) hx hb dX10_mile_10 (by decide) (fun c_2 => ?_) (fun c_2 => ?_)
    · refine lv_iload_n hx hb dX10_mile_18 rfl (lv_at hl 0 rfl) ?_
      refine lv_iconst (v := 2) hx hb dX10_mile_19 (by decide) ?_
      refine lv_icmp_ne (tgt := 28) hx hb dX10_mile_20 (by decide) (fun c_3 => ?_) (fun c_3 => ?_)
      · refine lv_iload_n hx hb dX10_mile_28 rfl (lv_at hl 0 rfl) ?_
        refine lv_iconst (v := 3) hx hb dX10_mile_29 (by decide) ?_
        refine lv_icmp_ne (tgt := 38) hx hb dX10_mile_30 (by decide) (fun c_4 => ?_) (fun c_4 => ?_)
        · refine lv_bipush (v := 45) hx hb dX10_mile_38 (by decide) ?_
          subst hQ
          exact ret_i () hx hb hr hK hP hD hS rfl (by unfold f_X10_mile; rw [if_neg c_1, if_neg c_2, if_neg c_3, if_neg c_4]; try rfl) dX10_mile_40 hlocks
        · refine lv_bipush (v := 26) hx hb dX10_mile_33 (by decide) ?_
          refine lv_goto (tgt := 40) hx hb dX10_mile_35 (by decide) ?_
          subst hQ
          exact ret_i () hx hb hr hK hP hD hS rfl (by unfold f_X10_mile; rw [if_neg c_1, if_neg c_2, if_neg c_3, if_pos c_4]; try rfl) dX10_mile_40 hlocks
      · refine lv_bipush (v := 20) hx hb dX10_mile_23 (by decide) ?_
        refine lv_goto (tgt := 40) hx hb dX10_mile_25 (by decide) ?_
        subst hQ
        exact ret_i () hx hb hr hK hP hD hS rfl (by unfold f_X10_mile; rw [if_neg c_1, if_neg c_2, if_pos c_3]; try rfl) dX10_mile_40 hlocks
    · refine lv_bipush (v := 8) hx hb dX10_mile_13 (by decide) ?_
      refine lv_goto (tgt := 40) hx hb dX10_mile_15 (by decide) ?_
      subst hQ
      exact ret_i () hx hb hr hK hP hD hS rfl (by unfold f_X10_mile; rw [if_neg c_1, if_pos c_2]; try rfl) dX10_mile_40 hlocks
  · refine lv_iconst (v := 0) hx hb dX10_mile_4 (by decide) ?_
    refine lv_goto (tgt := 40) hx hb dX10_mile_5 (by decide) ?_
    subst hQ
    exact ret_i () hx hb hr hK hP hD hS rfl (by unfold f_X10_mile; rw [if_pos c_1]; try rfl) dX10_mile_40 hlocks

def f_X10_seats (x : Int32) : Int32 := if x = 0 then 40 else if x = 1 then 60 else if x = 2 then 80 else if x = 3 then 50 else 30
set_option maxRecDepth 100000 in
set_option maxHeartbeats 1000000 in
theorem c_X10_seats (l : Launch) (D : va_G) (z : ClassId × ClassId × ClassId) (x : Int32) (sz : Nat) : CI l yX10_seats wsX10_seats 0 0 0 0 [.int x] D z ([]) sz (E0) (fun (zr : Int32) (_ : Unit) => zr = f_X10_seats x) (fun _ => []) := by
  refine met_i cX10_seats 1 (some .int) (by decide) rfl (Nat.le_of_ble_eq_true rfl) ?_
  intro p e s m args below meth c R Q hx hb hr hml hts hown hlocks hin hRf hRl hRc hRs hc0 hs0 A H hA hP hK hD hS hE hQ ls hl
  have hl : lv_has ls 1 [(0, .int x)] := hl
  have hP : va_P D vwCl [] H := hP
  have hD : va_D A [] := hD
  have hown : s.vm.findClass RX10 = some m.cls := hown
  refine lv_iload_n hx hb dX10_seats_0 rfl (lv_at hl 0 rfl) ?_
  refine lv_if_ne (tgt := 9) hx hb dX10_seats_1 (by decide) (fun c_1 => ?_) (fun c_1 => ?_)
  · refine lv_iload_n hx hb dX10_seats_9 rfl (lv_at hl 0 rfl) ?_
    refine lv_iconst (v := 1) hx hb dX10_seats_10 (by decide) ?_
    refine lv_icmp_ne (tgt := 19) hx hb dX10_seats_11 (by decide) (fun c_2 => ?_) (fun c_2 => ?_)
    · refine lv_iload_n hx hb dX10_seats_19 rfl (lv_at hl 0 rfl) ?_
      refine lv_iconst (v := 2) hx hb dX10_seats_20 (by decide) ?_
      refine lv_icmp_ne (tgt := 29) hx hb dX10_seats_21 (by decide) (fun c_3 => ?_) (fun c_3 => ?_)
      · refine lv_iload_n hx hb dX10_seats_29 rfl (lv_at hl 0 rfl) ?_
        refine lv_iconst (v := 3) hx hb dX10_seats_30 (by decide) ?_
        refine lv_icmp_ne (tgt := 39) hx hb dX10_seats_31 (by decide) (fun c_4 => ?_) (fun c_4 => ?_)
        · refine lv_bipush (v := 30) hx hb dX10_seats_39 (by decide) ?_
          subst hQ
          exact ret_i () hx hb hr hK hP hD hS rfl (by unfold f_X10_seats; rw [if_neg c_1, if_neg c_2, if_neg c_3, if_neg c_4]; try rfl) dX10_seats_41 hlocks
        · refine lv_bipush (v := 50) hx hb dX10_seats_34 (by decide) ?_
          refine lv_goto (tgt := 41) hx hb dX10_seats_36 (by decide) ?_
          subst hQ
          exact ret_i () hx hb hr hK hP hD hS rfl (by unfold f_X10_seats; rw [if_neg c_1, if_neg c_2, if_neg c_3, if_pos c_4]; try rfl) dX10_seats_41 hlocks
      · refine lv_bipush (v := 80) hx hb dX10_seats_24 (by decide) ?_
        refine lv_goto (tgt := 41) hx hb dX10_seats_26 (by decide) ?_
        subst hQ
        exact ret_i () hx hb hr hK hP hD hS rfl (by unfold f_X10_seats; rw [if_neg c_1, if_neg c_2, if_pos c_3]; try rfl) dX10_seats_41 hlocks
    · refine lv_bipush (v := 60) hx hb dX10_seats_14 (by decide) ?_
      refine lv_goto (tgt := 41) hx hb dX10_seats_16 (by decide) ?_
      subst hQ
      exact ret_i () hx hb hr hK hP hD hS rfl (by unfold f_X10_seats; rw [if_neg c_1, if_pos c_2]; try rfl) dX10_seats_41 hlocks
  · refine lv_bipush (v := 40) hx hb dX10_seats_4 (by decide) ?_
    refine lv_goto (tgt := 41) hx hb dX10_seats_6 (by decide) ?_
    subst hQ
    exact ret_i () hx hb hr hK hP hD hS rfl (by unfold f_X10_seats; rw [if_pos c_1]; try rfl) dX10_seats_41 hlocks

