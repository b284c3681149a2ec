/-! values of the objects, and the cells that hold them -/
abbrev AV : Type := Int32 × Int32 × Int32 × Int32 × Int32 × Int32 × Int32
abbrev BV : Type := (Nat → Int32) × (Nat → Int32) × (Nat → Int32)
abbrev GV : Type := (Nat → Int32) × (Nat → Int32)
abbrev RV : Type := (Nat → Int32) × (Nat → Int32) × (Nat → Int32) × (Nat → Int32) × (Nat → Int32)
abbrev OV : Type := (Nat → Int32) × (Nat → Int32) × (Nat → Int32) × Int32 × Int32
abbrev LV : Type := (Nat → Int32) × Int32
abbrev TV : Type := (Nat → Int32) × Int32
abbrev SV : Type := RV × GV × BV × LV × AV × Int32 × Int32 × Int32
def wX0 (z : ClassId × ClassId × ClassId) (h : Nat) (v : AV) : va_W := [(h, .inr (0, [.int v.1, .int v.2.1, .int v.2.2.1, .int v.2.2.2.1, .int v.2.2.2.2.1, .int v.2.2.2.2.2.1, .int v.2.2.2.2.2.2]))]
def wX1 (z : ClassId × ClassId × ClassId) (h h1 h2 h3 : Nat) (v : BV) : va_W := [(h, .inr (1, [.ref h1, .ref h2, .ref h3])), (h1, .inl (z.1, 5, .inl v.1)), (h2, .inl (z.1, 5, .inl v.2.1)), (h3, .inl (z.1, 5, .inl v.2.2))]
def wX2 (z : ClassId × ClassId × ClassId) (h h1 h2 : Nat) (v : GV) : va_W := [(h, .inr (2, [.ref h1, .ref h2])), (h1, .inl (z.1, 2, .inl v.1)), (h2, .inl (z.1, 2, .inl v.2))]
def wX4 (z : ClassId × ClassId × ClassId) (h h1 h2 h3 h4 h5 : Nat) (v : RV) : va_W := [(h, .inr (4, [.ref h1, .ref h2, .ref h3, .ref h4, .ref h5])), (h1, .inl (z.1, 10, .inl v.1)), (h2, .inl (z.1, 10, .inl v.2.1)), (h3, .inl (z.1, 10, .inl v.2.2.1)), (h4, .inl (z.1, 10, .inl v.2.2.2.1)), (h5, .inl (z.1, 10, .inl v.2.2.2.2))]
def wX5 (z : ClassId × ClassId × ClassId) (h h1 h2 h3 : Nat) (v : OV) : va_W := [(h, .inr (5, [.ref h1, .ref h2, .ref h3, .int v.2.2.2.1, .int v.2.2.2.2])), (h1, .inl (z.1, 40, .inl v.1)), (h2, .inl (z.1, 40, .inl v.2.1)), (h3, .inl (z.1, 40, .inl v.2.2.1))]
def wX6 (z : ClassId × ClassId × ClassId) (h h1 : Nat) (v : LV) : va_W := [(h, .inr (6, [.ref h1, .int v.2])), (h1, .inl (z.1, 30, .inl v.1))]
def wX8 (z : ClassId × ClassId × ClassId) (h h1 : Nat) (v : TV) : va_W := [(h, .inr (8, [.ref h1, .int v.2])), (h1, .inl (z.2.1, 80, .inl v.1))]
def wX7 (z : ClassId × ClassId × ClassId) (h : Nat → Nat) (v : SV) : va_W := [((h 0), .inr (7, [.ref (h 1), .ref (h 7), .ref (h 10), .ref (h 14), .ref (h 16), .int v.2.2.2.2.2.1, .int v.2.2.2.2.2.2.1, .int v.2.2.2.2.2.2.2])), ((h 1), .inr (4, [.ref (h 2), .ref (h 3), .ref (h 4), .ref (h 5), .ref (h 6)])), ((h 2), .inl (z.1, 10, .inl v.1.1)), ((h 3), .inl (z.1, 10, .inl v.1.2.1)), ((h 4), .inl (z.1, 10, .inl v.1.2.2.1)), ((h 5), .inl (z.1, 10, .inl v.1.2.2.2.1)), ((h 6), .inl (z.1, 10, .inl v.1.2.2.2.2)), ((h 7), .inr (2, [.ref (h 8), .ref (h 9)])), ((h 8), .inl (z.1, 2, .inl v.2.1.1)), ((h 9), .inl (z.1, 2, .inl v.2.1.2)), ((h 10), .inr (1, [.ref (h 11), .ref (h 12), .ref (h 13)])), ((h 11), .inl (z.1, 5, .inl v.2.2.1.1)), ((h 12), .inl (z.1, 5, .inl v.2.2.1.2.1)), ((h 13), .inl (z.1, 5, .inl v.2.2.1.2.2)), ((h 14), .inr (6, [.ref (h 15), .int v.2.2.2.1.2])), ((h 15), .inl (z.1, 30, .inl v.2.2.2.1.1)), ((h 16), .inr (0, [.int v.2.2.2.2.1.1, .int v.2.2.2.2.1.2.1, .int v.2.2.2.2.1.2.2.1, .int v.2.2.2.2.1.2.2.2.1, .int v.2.2.2.2.1.2.2.2.2.1, .int v.2.2.2.2.1.2.2.2.2.2.1, .int v.2.2.2.2.1.2.2.2.2.2.2]))]
def f_X9_isBarn (x : Int32) : Int32 := if x < 0 then 0 else if 5 ≤ x then 0 else 1
set_option maxRecDepth 100000 in
set_option maxHeartbeats 1000000 in
theorem c_X9_isBarn (l : Launch) (D : va_G) (z : ClassId × ClassId × ClassId) (x : Int32) (sz : Nat) : CI l yX9_isBarn wsX9_isBarn 0 0 0 0 [.int x] D z ([]) sz (E0) (fun (zr : Int32) (_ : Unit) => zr = f_X9_isBarn x ∧ (zr = 0 ∨ zr = 1)) (fun _ => []) := by
  refine met_i cX9_isBarn 1 (some .boolean) (by decide) rfl (Nat.le_of_ble_eq_true rfl) ?_
  intro p e s m args below meth c R Q hx hb hr hml hts hown hlocks hin hRf hRl hRc hRs hc0 hs0 A H hA hP hK hD hS hE hQ ls hl
  have hl : lv_has ls 1 [(0, .int x)] := hl
  have hP : va_P D vwCl [] H := hP
  have hD : va_D A [] := hD
  have hown : s.vm.findClass RX9 = some m.cls := hown
  refine lv_iload_n hx hb dX9_isBarn_0 rfl (lv_at hl 0 rfl) ?_
  refine lv_if_lt (tgt := 13) hx hb dX9_isBarn_1 (by decide) (fun c_1 => ?_) (fun c_1 => ?_)
  · refine lv_iconst (v := 0) hx hb dX9_isBarn_13 (by decide) ?_
    subst hQ
    exact ret_z () hx hb hr rfl hK hP hD hS rfl ⟨(by unfold f_X9_isBarn; rw [if_pos c_1]; try rfl), (Or.inl rfl)⟩ dX9_isBarn_14 hlocks
  · refine lv_iload_n hx hb dX9_isBarn_4 rfl (lv_at hl 0 rfl) ?_
    refine lv_iconst (v := 5) hx hb dX9_isBarn_5 (by decide) ?_
    refine lv_icmp_ge (tgt := 13) hx hb dX9_isBarn_6 (by decide) (fun c_2 => ?_) (fun c_2 => ?_)
    · refine lv_iconst (v := 0) hx hb dX9_isBarn_13 (by decide) ?_
      subst hQ
      exact ret_z () hx hb hr rfl hK hP hD hS rfl ⟨(by unfold f_X9_isBarn; rw [if_neg c_1, if_pos c_2]; try rfl), (Or.inl rfl)⟩ dX9_isBarn_14 hlocks
    · refine lv_iconst (v := 1) hx hb dX9_isBarn_9 (by decide) ?_
      refine lv_goto (tgt := 14) hx hb dX9_isBarn_10 (by decide) ?_
      subst hQ
      exact ret_z () hx hb hr rfl hK hP hD hS rfl ⟨(by unfold f_X9_isBarn; rw [if_neg c_1, if_neg c_2]; try rfl), (Or.inr rfl)⟩ dX9_isBarn_14 hlocks

def f_X9_isGenerator (x : Int32) : Int32 := if x < 0 then 0 else if 2 ≤ x then 0 else 1
set_option maxRecDepth 100000 in
set_option maxHeartbeats 1000000 in
theorem c_X9_isGenerator (l : Launch) (D : va_G) (z : ClassId × ClassId × ClassId) (x : Int32) (sz : Nat) : CI l yX9_isGenerator wsX9_isGenerator 0 0 0 0 [.int x] D z ([]) sz (E0) (fun (zr : Int32) (_ : Unit) => zr = f_X9_isGenerator x ∧ (zr = 0 ∨ zr = 1)) (fun _ => []) := by
  refine met_i cX9_isGenerator 1 (some .boolean) (by decide) rfl (Nat.le_of_ble_eq_true rfl) ?_
  intro p e s m args below meth c R Q hx hb hr hml hts hown hlocks hin hRf hRl hRc hRs hc0 hs0 A H hA hP hK hD hS hE hQ ls hl
  have hl : lv_has ls 1 [(0, .int x)] := hl
  have hP : va_P D vwCl [] H := hP
  have hD : va_D A [] := hD
  have hown : s.vm.findClass RX9 = some m.cls := hown
  refine lv_iload_n hx hb dX9_isGenerator_0 rfl (lv_at hl 0 rfl) ?_
  refine lv_if_lt (tgt := 13) hx hb dX9_isGenerator_1 (by decide) (fun c_1 => ?_) (fun c_1 => ?_)
  · refine lv_iconst (v := 0) hx hb dX9_isGenerator_13 (by decide) ?_
    subst hQ
    exact ret_z () hx hb hr rfl hK hP hD hS rfl ⟨(by unfold f_X9_isGenerator; rw [if_pos c_1]; try rfl), (Or.inl rfl)⟩ dX9_isGenerator_14 hlocks
  · refine lv_iload_n hx hb dX9_isGenerator_4 rfl (lv_at hl 0 rfl) ?_
    refine lv_iconst (v := 2) hx hb dX9_isGenerator_5 (by decide) ?_
    refine lv_icmp_ge (tgt := 13) hx hb dX9_isGenerator_6 (by decide) (fun c_2 => ?_) (fun c_2 => ?_)
    · refine lv_iconst (v := 0) hx hb dX9_isGenerator_13 (by decide) ?_
      subst hQ
      exact ret_z () hx hb hr rfl hK hP hD hS rfl ⟨(by unfold f_X9_isGenerator; rw [if_neg c_1, if_pos c_2]; try rfl), (Or.inl rfl)⟩ dX9_isGenerator_14 hlocks
    · refine lv_iconst (v := 1) hx hb dX9_isGenerator_9 (by decide) ?_
      refine lv_goto (tgt := 14) hx hb dX9_isGenerator_10 (by decide) ?_
      subst hQ
      exact ret_z () hx hb hr rfl hK hP hD hS rfl ⟨(by unfold f_X9_isGenerator; rw [if_neg c_1, if_neg c_2]; try rfl), (Or.inr rfl)⟩ dX9_isGenerator_14 hlocks

def f_X9_isPrice (x : Int32) : Int32 := if x < 1 then 0 else if 99 < x then 0 else 1
set_option maxRecDepth 100000 in
set_option maxHeartbeats 1000000 in
theorem c_X9_isPrice (l : Launch) (D : va_G) (z : ClassId × ClassId × ClassId) (x : Int32) (sz : Nat) : CI l yX9_isPrice wsX9_isPrice 0 0 0 0 [.int x] D z ([]) sz (E0) (fun (zr : Int32) (_ : Unit) => zr = f_X9_isPrice x ∧ (zr = 0 ∨ zr = 1)) (fun _ => []) := by
  refine met_i cX9_isPrice 1 (some .boolean) (by decide) rfl (Nat.le_of_ble_eq_true rfl) ?_
  intro p e s m args below meth c R Q hx hb hr hml hts hown hlocks hin hRf hRl hRc hRs hc0 hs0 A H hA hP hK hD hS hE hQ ls hl
  have hl : lv_has ls 1 [(0, .int x)] := hl
  have hP : va_P D vwCl [] H := hP
  have hD : va_D A [] := hD
  have hown : s.vm.findClass RX9 = some m.cls := hown
  refine lv_iload_n hx hb dX9_isPrice_0 rfl (lv_at hl 0 rfl) ?_
  refine lv_iconst (v := 1) hx hb dX9_isPrice_1 (by decide) ?_
  refine lv_icmp_lt (tgt := 15) hx hb dX9_isPrice_2 (by decide) (fun c_1 => ?_) (fun c_1 => ?_)
  · refine lv_iconst (v := 0) hx hb dX9_isPrice_15 (by decide) ?_
    subst hQ
    exact ret_z () hx hb hr rfl hK hP hD hS rfl ⟨(by unfold f_X9_isPrice; rw [if_pos c_1]; try rfl), (Or.inl rfl)⟩ dX9_isPrice_16 hlocks
  · refine lv_iload_n hx hb dX9_isPrice_5 rfl (lv_at hl 0 rfl) ?_
    refine lv_bipush (v := 99) hx hb dX9_isPrice_6 (by decide) ?_
    refine lv_icmp_gt (tgt := 15) hx hb dX9_isPrice_8 (by decide) (fun c_2 => ?_) (fun c_2 => ?_)
    · refine lv_iconst (v := 0) hx hb dX9_isPrice_15 (by decide) ?_
      subst hQ
      exact ret_z () hx hb hr rfl hK hP hD hS rfl ⟨(by unfold f_X9_isPrice; rw [if_neg c_1, if_pos c_2]; try rfl), (Or.inl rfl)⟩ dX9_isPrice_16 hlocks
    · refine lv_iconst (v := 1) hx hb dX9_isPrice_11 (by decide) ?_
      refine lv_goto (tgt := 16) hx hb dX9_isPrice_12 (by decide) ?_
      subst hQ
      exact ret_z () hx hb hr rfl hK hP hD hS rfl ⟨(by unfold f_X9_isPrice; rw [if_neg c_1, if_neg c_2]; try rfl), (Or.inr rfl)⟩ dX9_isPrice_16 hlocks

def f_X9_isFuelOnSale (x : Int32) : Int32 := if x < 5 then 0 else if 500 < x then 0 else if (x - x / 5 * 5) = 0 then 1 else 0
set_option maxRecDepth 100000 in
set_option maxHeartbeats 1000000 in
theorem c_X9_isFuelOnSale (l : Launch) (D : va_G) (z : ClassId × ClassId × ClassId) (x : Int32) (sz : Nat) : CI l yX9_isFuelOnSale wsX9_isFuelOnSale 0 0 0 0 [.int x] D z ([]) sz (E0) (fun (zr : Int32) (_ : Unit) => zr = f_X9_isFuelOnSale x ∧ (zr = 0 ∨ zr = 1)) (fun _ => []) := by
  refine met_i cX9_isFuelOnSale 1 (some .boolean) (by decide) rfl (Nat.le_of_ble_eq_true rfl) ?_
  intro p e s m args below meth c R Q hx hb hr hml hts hown hlocks hin hRf hRl hRc hRs hc0 hs0 A H hA hP hK hD hS hE hQ ls hl
  have hl : lv_has ls 1 [(0, .int x)] := hl
  have hP : va_P D vwCl [] H := hP
  have hD : va_D A [] := hD
  have hown : s.vm.findClass RX9 = some m.cls := hown
  refine lv_iload_n hx hb dX9_isFuelOnSale_0 rfl (lv_at hl 0 rfl) ?_
  refine lv_iconst (v := 5) hx hb dX9_isFuelOnSale_1 (by decide) ?_
  refine lv_icmp_lt (tgt := 22) hx hb dX9_isFuelOnSale_2 (by decide) (fun c_1 => ?_) (fun c_1 => ?_)
  · refine lv_iconst (v := 0) hx hb dX9_isFuelOnSale_22 (by decide) ?_
    subst hQ
    exact ret_z () hx hb hr rfl hK hP hD hS rfl ⟨(by unfold f_X9_isFuelOnSale; rw [if_pos c_1]; try rfl), (Or.inl rfl)⟩ dX9_isFuelOnSale_23 hlocks
  · refine lv_iload_n hx hb dX9_isFuelOnSale_5 rfl (lv_at hl 0 rfl) ?_
    refine lv_sipush (v := 500) hx hb dX9_isFuelOnSale_6 (by decide) ?_
    refine lv_icmp_gt (tgt := 22) hx hb dX9_isFuelOnSale_9 (by decide) (fun c_2 => ?_) (fun c_2 => ?_)
    · refine lv_iconst (v := 0) hx hb dX9_isFuelOnSale_22 (by decide) ?_
      subst hQ
      exact ret_z () hx hb hr rfl hK hP hD hS rfl ⟨(by unfold f_X9_isFuelOnSale; rw [if_neg c_1, if_pos c_2]; try rfl), (Or.inl rfl)⟩ dX9_isFuelOnSale_23 hlocks
    · refine lv_iload_n hx hb dX9_isFuelOnSale_12 rfl (lv_at hl 0 rfl) ?_
      refine lv_iconst (v := 5) hx hb dX9_isFuelOnSale_13 (by decide) ?_
      refine lv_irem hx hb dX9_isFuelOnSale_14 (by decide) ?_
      refine lv_if_ne (tgt := 22) hx hb dX9_isFuelOnSale_15 (by decide) (fun c_3 => ?_) (fun c_3 => ?_)
      · refine lv_iconst (v := 0) hx hb dX9_isFuelOnSale_22 (by decide) ?_
        subst hQ
        exact ret_z () hx hb hr rfl hK hP hD hS rfl ⟨(by unfold f_X9_isFuelOnSale; rw [if_neg c_1, if_neg c_2, if_neg c_3]; try rfl), (Or.inl rfl)⟩ dX9_isFuelOnSale_23 hlocks
      · refine lv_iconst (v := 1) hx hb dX9_isFuelOnSale_18 (by decide) ?_
        refine lv_goto (tgt := 23) hx hb dX9_isFuelOnSale_19 (by decide) ?_
        subst hQ
        exact ret_z () hx hb hr rfl hK hP hD hS rfl ⟨(by unfold f_X9_isFuelOnSale; rw [if_neg c_1, if_neg c_2, if_pos c_3]; try rfl), (Or.inr rfl)⟩ dX9_isFuelOnSale_23 hlocks

theorem iX0_payDriving_X0 : ∀ w ∈ wsX00, w ∈ wsX0_payDriving := by decide +kernel
def f_X0_payDriving (v : AV) (x : Int32) : AV := (v.1, (v.2.1 + x), v.2.2.1, v.2.2.2.1, v.2.2.2.2.1, v.2.2.2.2.2.1, v.2.2.2.2.2.2)
set_option maxRecDepth 100000 in
set_option maxHeartbeats 1000000 in
theorem c_X0_payDriving (l : Launch) (D : va_G) (z : ClassId × ClassId × ClassId) (h : Nat) (v : AV) (x : Int32) (sz : Nat) : CV l yX0_payDriving wsX0_payDriving 0 0 0 0 [.ref h, .int x] D z (wX0 z h v) sz (E0) (fun (zu : AV) => zu = f_X0_payDriving v x) (fun zu => wX0 z h zu) := by
  refine met_v cX0_payDriving 2 (by decide) rfl (Nat.le_of_ble_eq_true rfl) ?_
  intro p e s m args below meth c R Q hx hb hr hml hts hown hlocks hin hRf hRl hRc hRs hc0 hs0 A H hA hP hK hD hS hE hQ ls hl
  have hl : lv_has ls 2 [(0, .ref h), (1, .int x)] := hl
  have hP : va_P D vwCl [(h, .inr (0, [.int v.1, .int v.2.1, .int v.2.2.1, .int v.2.2.2.1, .int v.2.2.2.2.1, .int v.2.2.2.2.2.1, .int v.2.2.2.2.2.2]))] H := hP
  have hD : va_D A [(h, .inr (0, [.int v.1, .int v.2.1, .int v.2.2.1, .int v.2.2.2.1, .int v.2.2.2.2.1, .int v.2.2.2.2.2.1, .int v.2.2.2.2.2.2]))] := hD
  have hown : s.vm.findClass RX0 = some m.cls := hown
  refine lv_aload_n hx hb dX0_payDriving_0 rfl (lv_at hl 0 rfl) ?_
  refine lv_dup hx hb dX0_payDriving_1 rfl ?_
  refine va_get (D := D) (ci := 0) (v := .int v.2.1) (C := RX0) (T := TX0) (N := 7) hx hb hts iX0_payDriving_X0 hown hK hP 0 rfl rfl 1 (by decide) (hts (.fieldLink RX0 15 "BarnPictures$Accounts" "driving" "I") (by decide +kernel)) (fun _ h9 => h9) rfl dX0_payDriving_2 ?_
  refine lv_iload_n hx hb dX0_payDriving_5 rfl (lv_at hl 1 rfl) ?_
  refine lv_iadd hx hb dX0_payDriving_6 ?_
  refine va_put (D := D) (ci := 0) (v := .int (v.2.1 + x)) (ty := .int) (C := RX0) (T := TX0) (N := 7) hx hb hts iX0_payDriving_X0 tyX0 tyX0_ok nmX0 hown hK hP hD hS 0 rfl rfl 1 (by decide) (hts (.fieldLink RX0 15 "BarnPictures$Accounts" "driving" "I") (by decide +kernel)) (fun _ h9 => h9) rfl (by decide +kernel) rfl rfl (Nat.le_of_ble_eq_true rfl) dX0_payDriving_7 (fun H locs hP hD hS => ?_)
  have hP : va_P D vwCl [(h, .inr (0, [.int v.1, .int (v.2.1 + x), .int v.2.2.1, .int v.2.2.2.1, .int v.2.2.2.2.1, .int v.2.2.2.2.2.1, .int v.2.2.2.2.2.2]))] H := hP
  have hD : va_D A [(h, .inr (0, [.int v.1, .int (v.2.1 + x), .int v.2.2.1, .int v.2.2.2.1, .int v.2.2.2.2.1, .int v.2.2.2.2.2.1, .int v.2.2.2.2.2.2]))] := hD
  subst hQ
  exact ret_v (v.1, (v.2.1 + x), v.2.2.1, v.2.2.2.1, v.2.2.2.2.1, v.2.2.2.2.2.1, v.2.2.2.2.2.2) hx hb hr hK hP hD hS rfl rfl dX0_payDriving_10 hlocks

theorem iX0_payFuel_X0 : ∀ w ∈ wsX00, w ∈ wsX0_payFuel := by decide +kernel
def f_X0_payFuel (v : AV) (x : Int32) : AV := (v.1, v.2.1, (v.2.2.1 + x), v.2.2.2.1, v.2.2.2.2.1, v.2.2.2.2.2.1, v.2.2.2.2.2.2)
set_option maxRecDepth 100000 in
set_option maxHeartbeats 1000000 in
theorem c_X0_payFuel (l : Launch) (D : va_G) (z : ClassId × ClassId × ClassId) (h : Nat) (v : AV) (x : Int32) (sz : Nat) : CV l yX0_payFuel wsX0_payFuel 0 0 0 0 [.ref h, .int x] D z (wX0 z h v) sz (E0) (fun (zu : AV) => zu = f_X0_payFuel v x) (fun zu => wX0 z h zu) := by
  refine met_v cX0_payFuel 2 (by decide) rfl (Nat.le_of_ble_eq_true rfl) ?_
  intro p e s m args below meth c R Q hx hb hr hml hts hown hlocks hin hRf hRl hRc hRs hc0 hs0 A H hA hP hK hD hS hE hQ ls hl
  have hl : lv_has ls 2 [(0, .ref h), (1, .int x)] := hl
  have hP : va_P D vwCl [(h, .inr (0, [.int v.1, .int v.2.1, .int v.2.2.1, .int v.2.2.2.1, .int v.2.2.2.2.1, .int v.2.2.2.2.2.1, .int v.2.2.2.2.2.2]))] H := hP
  have hD : va_D A [(h, .inr (0, [.int v.1, .int v.2.1, .int v.2.2.1, .int v.2.2.2.1, .int v.2.2.2.2.1, .int v.2.2.2.2.2.1, .int v.2.2.2.2.2.2]))] := hD
  have hown : s.vm.findClass RX0 = some m.cls := hown
  refine lv_aload_n hx hb dX0_payFuel_0 rfl (lv_at hl 0 rfl) ?_
  refine lv_dup hx hb dX0_payFuel_1 rfl ?_
  refine va_get (D := D) (ci := 0) (v := .int v.2.2.1) (C := RX0) (T := TX0) (N := 7) hx hb hts iX0_payFuel_X0 hown hK hP 0 rfl rfl 2 (by decide) (hts (.fieldLink RX0 18 "BarnPictures$Accounts" "fuelling" "I") (by decide +kernel)) (fun _ h9 => h9) rfl dX0_payFuel_2 ?_
  refine lv_iload_n hx hb dX0_payFuel_5 rfl (lv_at hl 1 rfl) ?_
  refine lv_iadd hx hb dX0_payFuel_6 ?_
  refine va_put (D := D) (ci := 0) (v := .int (v.2.2.1 + x)) (ty := .int) (C := RX0) (T := TX0) (N := 7) hx hb hts iX0_payFuel_X0 tyX0 tyX0_ok nmX0 hown hK hP hD hS 0 rfl rfl 2 (by decide) (hts (.fieldLink RX0 18 "BarnPictures$Accounts" "fuelling" "I") (by decide +kernel)) (fun _ h9 => h9) rfl (by decide +kernel) rfl rfl (Nat.le_of_ble_eq_true rfl) dX0_payFuel_7 (fun H locs hP hD hS => ?_)
  have hP : va_P D vwCl [(h, .inr (0, [.int v.1, .int v.2.1, .int (v.2.2.1 + x), .int v.2.2.2.1, .int v.2.2.2.2.1, .int v.2.2.2.2.2.1, .int v.2.2.2.2.2.2]))] H := hP
  have hD : va_D A [(h, .inr (0, [.int v.1, .int v.2.1, .int (v.2.2.1 + x), .int v.2.2.2.1, .int v.2.2.2.2.1, .int v.2.2.2.2.2.1, .int v.2.2.2.2.2.2]))] := hD
  subst hQ
  exact ret_v (v.1, v.2.1, (v.2.2.1 + x), v.2.2.2.1, v.2.2.2.2.1, v.2.2.2.2.2.1, v.2.2.2.2.2.2) hx hb hr hK hP hD hS rfl rfl dX0_payFuel_10 hlocks

theorem iX0_payRenewal_X0 : ∀ w ∈ wsX00, w ∈ wsX0_payRenewal := by decide +kernel
def f_X0_payRenewal (v : AV) : AV := (v.1, v.2.1, v.2.2.1, (v.2.2.2.1 + 30), v.2.2.2.2.1, v.2.2.2.2.2.1, v.2.2.2.2.2.2)
set_option maxRecDepth 100000 in
set_option maxHeartbeats 1000000 in
theorem c_X0_payRenewal (l : Launch) (D : va_G) (z : ClassId × ClassId × ClassId) (h : Nat) (v : AV) (sz : Nat) : CV l yX0_payRenewal wsX0_payRenewal 0 0 0 0 [.ref h] D z (wX0 z h v) sz (E0) (fun (zu : AV) => zu = f_X0_payRenewal v) (fun zu => wX0 z h zu) := by
  refine met_v cX0_payRenewal 1 (by decide) rfl (Nat.le_of_ble_eq_true rfl) ?_
  intro p e s m args below meth c R Q hx hb hr hml hts hown hlocks hin hRf hRl hRc hRs hc0 hs0 A H hA hP hK hD hS hE hQ ls hl
  have hl : lv_has ls 1 [(0, .ref h)] := hl
  have hP : va_P D vwCl [(h, .inr (0, [.int v.1, .int v.2.1, .int v.2.2.1, .int v.2.2.2.1, .int v.2.2.2.2.1, .int v.2.2.2.2.2.1, .int v.2.2.2.2.2.2]))] H := hP
  have hD : va_D A [(h, .inr (0, [.int v.1, .int v.2.1, .int v.2.2.1, .int v.2.2.2.1, .int v.2.2.2.2.1, .int v.2.2.2.2.2.1, .int v.2.2.2.2.2.2]))] := hD
  have hown : s.vm.findClass RX0 = some m.cls := hown
  refine lv_aload_n hx hb dX0_payRenewal_0 rfl (lv_at hl 0 rfl) ?_
  refine lv_dup hx hb dX0_payRenewal_1 rfl ?_
  refine va_get (D := D) (ci := 0) (v := .int v.2.2.2.1) (C := RX0) (T := TX0) (N := 7) hx hb hts iX0_payRenewal_X0 hown hK hP 0 rfl rfl 3 (by decide) (hts (.fieldLink RX0 21 "BarnPictures$Accounts" "renewing" "I") (by decide +kernel)) (fun _ h9 => h9) rfl dX0_payRenewal_2 ?_
  refine lv_bipush (v := 30) hx hb dX0_payRenewal_5 (by decide) ?_
  refine lv_iadd hx hb dX0_payRenewal_7 ?_
  refine va_put (D := D) (ci := 0) (v := .int (v.2.2.2.1 + 30)) (ty := .int) (C := RX0) (T := TX0) (N := 7) hx hb hts iX0_payRenewal_X0 tyX0 tyX0_ok nmX0 hown hK hP hD hS 0 rfl rfl 3 (by decide) (hts (.fieldLink RX0 21 "BarnPictures$Accounts" "renewing" "I") (by decide +kernel)) (fun _ h9 => h9) rfl (by decide +kernel) rfl rfl (Nat.le_of_ble_eq_true rfl) dX0_payRenewal_8 (fun H locs hP hD hS => ?_)
  have hP : va_P D vwCl [(h, .inr (0, [.int v.1, .int v.2.1, .int v.2.2.1, .int (v.2.2.2.1 + 30), .int v.2.2.2.2.1, .int v.2.2.2.2.2.1, .int v.2.2.2.2.2.2]))] H := hP
  have hD : va_D A [(h, .inr (0, [.int v.1, .int v.2.1, .int v.2.2.1, .int (v.2.2.2.1 + 30), .int v.2.2.2.2.1, .int v.2.2.2.2.2.1, .int v.2.2.2.2.2.2]))] := hD
  subst hQ
  exact ret_v (v.1, v.2.1, v.2.2.1, (v.2.2.2.1 + 30), v.2.2.2.2.1, v.2.2.2.2.2.1, v.2.2.2.2.2.2) hx hb hr hK hP hD hS rfl rfl dX0_payRenewal_11 hlocks

theorem iX0_addShow_X0 : ∀ w ∈ wsX00, w ∈ wsX0_addShow := by decide +kernel
def f_X0_addShow (v : AV) (x : Int32) (y : Int32) (w : Int32) : AV := ((v.1 + y), v.2.1, v.2.2.1, v.2.2.2.1, (v.2.2.2.2.1 + 1), (v.2.2.2.2.2.1 + x), (v.2.2.2.2.2.2 + w))
set_option maxRecDepth 100000 in
set_option maxHeartbeats 1000000 in
theorem c_X0_addShow (l : Launch) (D : va_G) (z : ClassId × ClassId × ClassId) (h : Nat) (v : AV) (x : Int32) (y : Int32) (w : Int32) (sz : Nat) : CV l yX0_addShow wsX0_addShow 0 0 0 0 [.ref h, .int x, .int y, .int w] D z (wX0 z h v) sz (E0) (fun (zu : AV) => zu = f_X0_addShow v x y w) (fun zu => wX0 z h zu) := by
  refine met_v cX0_addShow 4 (by decide) rfl (Nat.le_of_ble_eq_true rfl) ?_
  intro p e s m args below meth c R Q hx hb hr hml hts hown hlocks hin hRf hRl hRc hRs hc0 hs0 A H hA hP hK hD hS hE hQ ls hl
  have hl : lv_has ls 4 [(0, .ref h), (1, .int x), (2, .int y), (3, .int w)] := hl
  have hP : va_P D vwCl [(h, .inr (0, [.int v.1, .int v.2.1, .int v.2.2.1, .int v.2.2.2.1, .int v.2.2.2.2.1, .int v.2.2.2.2.2.1, .int v.2.2.2.2.2.2]))] H := hP
  have hD : va_D A [(h, .inr (0, [.int v.1, .int v.2.1, .int v.2.2.1, .int v.2.2.2.1, .int v.2.2.2.2.1, .int v.2.2.2.2.2.1, .int v.2.2.2.2.2.2]))] := hD
  have hown : s.vm.findClass RX0 = some m.cls := hown
  refine lv_aload_n hx hb dX0_addShow_0 rfl (lv_at hl 0 rfl) ?_
  refine lv_dup hx hb dX0_addShow_1 rfl ?_
  refine va_get (D := D) (ci := 0) (v := .int v.2.2.2.2.1) (C := RX0) (T := TX0) (N := 7) hx hb hts iX0_addShow_X0 hown hK hP 0 rfl rfl 4 (by decide) (hts (.fieldLink RX0 24 "BarnPictures$Accounts" "shows" "I") (by decide +kernel)) (fun _ h9 => h9) rfl dX0_addShow_2 ?_
  refine lv_iconst (v := 1) hx hb dX0_addShow_5 (by decide) ?_
  refine lv_iadd hx hb dX0_addShow_6 ?_
  refine va_put (D := D) (ci := 0) (v := .int (v.2.2.2.2.1 + 1)) (ty := .int) (C := RX0) (T := TX0) (N := 7) hx hb hts iX0_addShow_X0 tyX0 tyX0_ok nmX0 hown hK hP hD hS 0 rfl rfl 4 (by decide) (hts (.fieldLink RX0 24 "BarnPictures$Accounts" "shows" "I") (by decide +kernel)) (fun _ h9 => h9) rfl (by decide +kernel) rfl rfl (Nat.le_of_ble_eq_true rfl) dX0_addShow_7 (fun H locs hP hD hS => ?_)
  have hP : va_P D vwCl [(h, .inr (0, [.int v.1, .int v.2.1, .int v.2.2.1, .int v.2.2.2.1, .int (v.2.2.2.2.1 + 1), .int v.2.2.2.2.2.1, .int v.2.2.2.2.2.2]))] H := hP
  have hD : va_D A [(h, .inr (0, [.int v.1, .int v.2.1, .int v.2.2.1, .int v.2.2.2.1, .int (v.2.2.2.2.1 + 1), .int v.2.2.2.2.2.1, .int v.2.2.2.2.2.2]))] := hD
  refine lv_aload_n hx hb dX0_addShow_10 rfl (lv_at hl 0 rfl) ?_
  refine lv_dup hx hb dX0_addShow_11 rfl ?_
  refine va_get (D := D) (ci := 0) (v := .int v.2.2.2.2.2.1) (C := RX0) (T := TX0) (N := 7) hx hb hts iX0_addShow_X0 hown hK hP 0 rfl rfl 5 (by decide) (hts (.fieldLink RX0 27 "BarnPictures$Accounts" "people" "I") (by decide +kernel)) (fun _ h9 => h9) rfl dX0_addShow_12 ?_
  refine lv_iload_n hx hb dX0_addShow_15 rfl (lv_at hl 1 rfl) ?_
  refine lv_iadd hx hb dX0_addShow_16 ?_
  refine va_put (D := D) (ci := 0) (v := .int (v.2.2.2.2.2.1 + x)) (ty := .int) (C := RX0) (T := TX0) (N := 7) hx hb hts iX0_addShow_X0 tyX0 tyX0_ok nmX0 hown hK hP hD hS 0 rfl rfl 5 (by decide) (hts (.fieldLink RX0 27 "BarnPictures$Accounts" "people" "I") (by decide +kernel)) (fun _ h9 => h9) rfl (by decide +kernel) rfl rfl (Nat.le_of_ble_eq_true rfl) dX0_addShow_17 (fun H locs hP hD hS => ?_)
  have hP : va_P D vwCl [(h, .inr (0, [.int v.1, .int v.2.1, .int v.2.2.1, .int v.2.2.2.1, .int (v.2.2.2.2.1 + 1), .int (v.2.2.2.2.2.1 + x), .int v.2.2.2.2.2.2]))] H := hP
  have hD : va_D A [(h, .inr (0, [.int v.1, .int v.2.1, .int v.2.2.1, .int v.2.2.2.1, .int (v.2.2.2.2.1 + 1), .int (v.2.2.2.2.2.1 + x), .int v.2.2.2.2.2.2]))] := hD
  refine lv_aload_n hx hb dX0_addShow_20 rfl (lv_at hl 0 rfl) ?_
  refine lv_dup hx hb dX0_addShow_21 rfl ?_
  refine va_get (D := D) (ci := 0) (v := .int v.1) (C := RX0) (T := TX0) (N := 7) hx hb hts iX0_addShow_X0 hown hK hP 0 rfl rfl 0 (by decide) (hts (.fieldLink RX0 9 "BarnPictures$Accounts" "takings" "I") (by decide +kernel)) (fun _ h9 => h9) rfl dX0_addShow_22 ?_
  refine lv_iload_n hx hb dX0_addShow_25 rfl (lv_at hl 2 rfl) ?_
  refine lv_iadd hx hb dX0_addShow_26 ?_
  refine va_put (D := D) (ci := 0) (v := .int (v.1 + y)) (ty := .int) (C := RX0) (T := TX0) (N := 7) hx hb hts iX0_addShow_X0 tyX0 tyX0_ok nmX0 hown hK hP hD hS 0 rfl rfl 0 (by decide) (hts (.fieldLink RX0 9 "BarnPictures$Accounts" "takings" "I") (by decide +kernel)) (fun _ h9 => h9) rfl (by decide +kernel) rfl rfl (Nat.le_of_ble_eq_true rfl) dX0_addShow_27 (fun H locs hP hD hS => ?_)
  have hP : va_P D vwCl [(h, .inr (0, [.int (v.1 + y), .int v.2.1, .int v.2.2.1, .int v.2.2.2.1, .int (v.2.2.2.2.1 + 1), .int (v.2.2.2.2.2.1 + x), .int v.2.2.2.2.2.2]))] H := hP
  have hD : va_D A [(h, .inr (0, [.int (v.1 + y), .int v.2.1, .int v.2.2.1, .int v.2.2.2.1, .int (v.2.2.2.2.1 + 1), .int (v.2.2.2.2.2.1 + x), .int v.2.2.2.2.2.2]))] := hD
  refine lv_aload_n hx hb dX0_addShow_30 rfl (lv_at hl 0 rfl) ?_
  refine lv_dup hx hb dX0_addShow_31 rfl ?_
  refine va_get (D := D) (ci := 0) (v := .int v.2.2.2.2.2.2) (C := RX0) (T := TX0) (N := 7) hx hb hts iX0_addShow_X0 hown hK hP 0 rfl rfl 6 (by decide) (hts (.fieldLink RX0 30 "BarnPictures$Accounts" "splices" "I") (by decide +kernel)) (fun _ h9 => h9) rfl dX0_addShow_32 ?_
  refine lv_iload_n hx hb dX0_addShow_35 rfl (lv_at hl 3 rfl) ?_
  refine lv_iadd hx hb dX0_addShow_36 ?_
  refine va_put (D := D) (ci := 0) (v := .int (v.2.2.2.2.2.2 + w)) (ty := .int) (C := RX0) (T := TX0) (N := 7) hx hb hts iX0_addShow_X0 tyX0 tyX0_ok nmX0 hown hK hP hD hS 0 rfl rfl 6 (by decide) (hts (.fieldLink RX0 30 "BarnPictures$Accounts" "splices" "I") (by decide +kernel)) (fun _ h9 => h9) rfl (by decide +kernel) rfl rfl (Nat.le_of_ble_eq_true rfl) dX0_addShow_37 (fun H locs hP hD hS => ?_)
  have hP : va_P D vwCl [(h, .inr (0, [.int (v.1 + y), .int v.2.1, .int v.2.2.1, .int v.2.2.2.1, .int (v.2.2.2.2.1 + 1), .int (v.2.2.2.2.2.1 + x), .int (v.2.2.2.2.2.2 + w)]))] H := hP
  have hD : va_D A [(h, .inr (0, [.int (v.1 + y), .int v.2.1, .int v.2.2.1, .int v.2.2.2.1, .int (v.2.2.2.2.1 + 1), .int (v.2.2.2.2.2.1 + x), .int (v.2.2.2.2.2.2 + w)]))] := hD
  subst hQ
  exact ret_v ((v.1 + y), v.2.1, v.2.2.1, v.2.2.2.1, (v.2.2.2.2.1 + 1), (v.2.2.2.2.2.1 + x), (v.2.2.2.2.2.2 + w)) hx hb hr hK hP hD hS rfl rfl dX0_addShow_40 hlocks

theorem iX0_told_X0 : ∀ w ∈ wsX00, w ∈ wsX0_told := by decide +kernel
def f_X0_told (v : AV) (x : Int32) : Int32 := if x = 4 then v.1 else if x = 5 then v.2.1 else if x = 6 then v.2.2.1 else if x = 7 then v.2.2.2.1 else if x = 8 then (((v.1 - v.2.1) - v.2.2.1) - v.2.2.2.1) else if x = 9 then v.2.2.2.2.1 else if x = 10 then v.2.2.2.2.2.1 else if x = 11 then (-10000002) else if x = 12 then v.2.2.2.2.2.2 else (-10000002)
set_option maxRecDepth 100000 in
set_option maxHeartbeats 1000000 in
theorem c_X0_told (l : Launch) (D : va_G) (z : ClassId × ClassId × ClassId) (h : Nat) (v : AV) (x : Int32) (sz : Nat) : CI l yX0_told wsX0_told 0 0 0 0 [.ref h, .int x] D z (wX0 z h v) sz (E0) (fun (zr : Int32) (_ : Unit) => zr = f_X0_told v x) (fun _ => wX0 z h v) := by
  refine met_i cX0_told 2 (some .int) (by decide) rfl (Nat.le_of_ble_eq_true rfl) ?_
  intro p e s m args below meth c R Q hx hb hr hml hts hown hlocks hin hRf hRl hRc hRs hc0 hs0 A H hA hP hK hD hS hE hQ ls hl
  have hl : lv_has ls 2 [(0, .ref h), (1, .int x)] := hl
  have hP : va_P D vwCl [(h, .inr (0, [.int v.1, .int v.2.1, .int v.2.2.1, .int v.2.2.2.1, .int v.2.2.2.2.1, .int v.2.2.2.2.2.1, .int v.2.2.2.2.2.2]))] H := hP
  have hD : va_D A [(h, .inr (0, [.int v.1, .int v.2.1, .int v.2.2.1, .int v.2.2.2.1, .int v.2.2.2.2.1, .int v.2.2.2.2.2.1, .int v.2.2.2.2.2.2]))] := hD
  have hown : s.vm.findClass RX0 = some m.cls := hown
  refine lv_iload_n hx hb dX0_told_0 rfl (lv_at hl 1 rfl) ?_
  by_cases w_1 : x = 4
  · refine lv_tableIn (off := 51) (tgt := 52) hx hb dX0_told_1 (by rw [w_1]; decide) (by rw [w_1]; decide) (by rw [w_1]; rfl) (by decide) ?_
    refine lv_aload_n hx hb dX0_told_52 rfl (lv_at hl 0 rfl) ?_
    refine va_get (D := D) (ci := 0) (v := .int v.1) (C := RX0) (T := TX0) (N := 7) hx hb hts iX0_told_X0 hown hK hP 0 rfl rfl 0 (by decide) (hts (.fieldLink RX0 9 "BarnPictures$Accounts" "takings" "I") (by decide +kernel)) (fun _ h9 => h9) rfl dX0_told_53 ?_
    subst hQ
    exact ret_i () hx hb hr hK hP hD hS rfl (by unfold f_X0_told; rw [if_pos w_1]; try rfl) dX0_told_56 hlocks
  · by_cases w_2 : x = 5
    · refine lv_tableIn (off := 56) (tgt := 57) hx hb dX0_told_1 (by rw [w_2]; decide) (by rw [w_2]; decide) (by rw [w_2]; rfl) (by decide) ?_
      refine lv_aload_n hx hb dX0_told_57 rfl (lv_at hl 0 rfl) ?_
      refine va_get (D := D) (ci := 0) (v := .int v.2.1) (C := RX0) (T := TX0) (N := 7) hx hb hts iX0_told_X0 hown hK hP 0 rfl rfl 1 (by decide) (hts (.fieldLink RX0 15 "BarnPictures$Accounts" "driving" "I") (by decide +kernel)) (fun _ h9 => h9) rfl dX0_told_58 ?_
      subst hQ
      exact ret_i () hx hb hr hK hP hD hS rfl (by unfold f_X0_told; rw [if_neg w_1, if_pos w_2]; try rfl) dX0_told_61 hlocks
    · by_cases w_3 : x = 6
      · refine lv_tableIn (off := 61) (tgt := 62) hx hb dX0_told_1 (by rw [w_3]; decide) (by rw [w_3]; decide) (by rw [w_3]; rfl) (by decide) ?_
        refine lv_aload_n hx hb dX0_told_62 rfl (lv_at hl 0 rfl) ?_
        refine va_get (D := D) (ci := 0) (v := .int v.2.2.1) (C := RX0) (T := TX0) (N := 7) hx hb hts iX0_told_X0 hown hK hP 0 rfl rfl 2 (by decide) (hts (.fieldLink RX0 18 "BarnPictures$Accounts" "fuelling" "I") (by decide +kernel)) (fun _ h9 => h9) rfl dX0_told_63 ?_
        subst hQ
        exact ret_i () hx hb hr hK hP hD hS rfl (by unfold f_X0_told; rw [if_neg w_1, if_neg w_2, if_pos w_3]; try rfl) dX0_told_66 hlocks
      · by_cases w_4 : x = 7
        · refine lv_tableIn (off := 66) (tgt := 67) hx hb dX0_told_1 (by rw [w_4]; decide) (by rw [w_4]; decide) (by rw [w_4]; rfl) (by decide) ?_
          refine lv_aload_n hx hb dX0_told_67 rfl (lv_at hl 0 rfl) ?_
          refine va_get (D := D) (ci := 0) (v := .int v.2.2.2.1) (C := RX0) (T := TX0) (N := 7) hx hb hts iX0_told_X0 hown hK hP 0 rfl rfl 3 (by decide) (hts (.fieldLink RX0 21 "BarnPictures$Accounts" "renewing" "I") (by decide +kernel)) (fun _ h9 => h9) rfl dX0_told_68 ?_
          subst hQ
          exact ret_i () hx hb hr hK hP hD hS rfl (by unfold f_X0_told; rw [if_neg w_1, if_neg w_2, if_neg w_3, if_pos w_4]; try rfl) dX0_told_71 hlocks
        · by_cases w_5 : x = 8
          · refine lv_tableIn (off := 71) (tgt := 72) hx hb dX0_told_1 (by rw [w_5]; decide) (by rw [w_5]; decide) (by rw [w_5]; rfl) (by decide) ?_
            refine lv_aload_n hx hb dX0_told_72 rfl (lv_at hl 0 rfl) ?_
            refine va_get (D := D) (ci := 0) (v := .int v.1) (C := RX0) (T := TX0) (N := 7) hx hb hts iX0_told_X0 hown hK hP 0 rfl rfl 0 (by decide) (hts (.fieldLink RX0 9 "BarnPictures$Accounts" "takings" "I") (by decide +kernel)) (fun _ h9 => h9) rfl dX0_told_73 ?_
            refine lv_aload_n hx hb dX0_told_76 rfl (lv_at hl 0 rfl) ?_
            refine va_get (D := D) (ci := 0) (v := .int v.2.1) (C := RX0) (T := TX0) (N := 7) hx hb hts iX0_told_X0 hown hK hP 0 rfl rfl 1 (by decide) (hts (.fieldLink RX0 15 "BarnPictures$Accounts" "driving" "I") (by decide +kernel)) (fun _ h9 => h9) rfl dX0_told_77 ?_
            refine lv_isub hx hb dX0_told_80 ?_
            refine lv_aload_n hx hb dX0_told_81 rfl (lv_at hl 0 rfl) ?_
            refine va_get (D := D) (ci := 0) (v := .int v.2.2.1) (C := RX0) (T := TX0) (N := 7) hx hb hts iX0_told_X0 hown hK hP 0 rfl rfl 2 (by decide) (hts (.fieldLink RX0 18 "BarnPictures$Accounts" "fuelling" "I") (by decide +kernel)) (fun _ h9 => h9) rfl dX0_told_82 ?_
            refine lv_isub hx hb dX0_told_85 ?_
            refine lv_aload_n hx hb dX0_told_86 rfl (lv_at hl 0 rfl) ?_
            refine va_get (D := D) (ci := 0) (v := .int v.2.2.2.1) (C := RX0) (T := TX0) (N := 7) hx hb hts iX0_told_X0 hown hK hP 0 rfl rfl 3 (by decide) (hts (.fieldLink RX0 21 "BarnPictures$Accounts" "renewing" "I") (by decide +kernel)) (fun _ h9 => h9) rfl dX0_told_87 ?_
            refine lv_isub hx hb dX0_told_90 ?_
            subst hQ
            exact ret_i () hx hb hr hK hP hD hS rfl (by unfold f_X0_told; rw [if_neg w_1, if_neg w_2, if_neg w_3, if_neg w_4, if_pos w_5]; try rfl) dX0_told_91 hlocks
          · by_cases w_6 : x = 9
            · refine lv_tableIn (off := 91) (tgt := 92) hx hb dX0_told_1 (by rw [w_6]; decide) (by rw [w_6]; decide) (by rw [w_6]; rfl) (by decide) ?_
              refine lv_aload_n hx hb dX0_told_92 rfl (lv_at hl 0 rfl) ?_
              refine va_get (D := D) (ci := 0) (v := .int v.2.2.2.2.1) (C := RX0) (T := TX0) (N := 7) hx hb hts iX0_told_X0 hown hK hP 0 rfl rfl 4 (by decide) (hts (.fieldLink RX0 24 "BarnPictures$Accounts" "shows" "I") (by decide +kernel)) (fun _ h9 => h9) rfl dX0_told_93 ?_
              subst hQ
              exact ret_i () hx hb hr hK hP hD hS rfl (by unfold f_X0_told; rw [if_neg w_1, if_neg w_2, if_neg w_3, if_neg w_4, if_neg w_5, if_pos w_6]; try rfl) dX0_told_96 hlocks
            · by_cases w_7 : x = 10
              · refine lv_tableIn (off := 96) (tgt := 97) hx hb dX0_told_1 (by rw [w_7]; decide) (by rw [w_7]; decide) (by rw [w_7]; rfl) (by decide) ?_
                refine lv_aload_n hx hb dX0_told_97 rfl (lv_at hl 0 rfl) ?_
                refine va_get (D := D) (ci := 0) (v := .int v.2.2.2.2.2.1) (C := RX0) (T := TX0) (N := 7) hx hb hts iX0_told_X0 hown hK hP 0 rfl rfl 5 (by decide) (hts (.fieldLink RX0 27 "BarnPictures$Accounts" "people" "I") (by decide +kernel)) (fun _ h9 => h9) rfl dX0_told_98 ?_
                subst hQ
                exact ret_i () hx hb hr hK hP hD hS rfl (by unfold f_X0_told; rw [if_neg w_1, if_neg w_2, if_neg w_3, if_neg w_4, if_neg w_5, if_neg w_6, if_pos w_7]; try rfl) dX0_told_101 hlocks
              · by_cases w_8 : x = 11
                · refine lv_tableIn (off := 106) (tgt := 107) hx hb dX0_told_1 (by rw [w_8]; decide) (by rw [w_8]; decide) (by rw [w_8]; rfl) (by decide) ?_
                  refine lv_ldc (v := (-10000002)) hx hb hown (hts (.constant RX0 33 (-10000002)) (by decide +kernel)) dX0_told_107 ?_
                  subst hQ
                  exact ret_i () hx hb hr hK hP hD hS rfl (by unfold f_X0_told; rw [if_neg w_1, if_neg w_2, if_neg w_3, if_neg w_4, if_neg w_5, if_neg w_6, if_neg w_7, if_pos w_8]; try rfl) dX0_told_109 hlocks
                · by_cases w_9 : x = 12
                  · refine lv_tableIn (off := 101) (tgt := 102) hx hb dX0_told_1 (by rw [w_9]; decide) (by rw [w_9]; decide) (by rw [w_9]; rfl) (by decide) ?_
                    refine lv_aload_n hx hb dX0_told_102 rfl (lv_at hl 0 rfl) ?_
                    refine va_get (D := D) (ci := 0) (v := .int v.2.2.2.2.2.2) (C := RX0) (T := TX0) (N := 7) hx hb hts iX0_told_X0 hown hK hP 0 rfl rfl 6 (by decide) (hts (.fieldLink RX0 30 "BarnPictures$Accounts" "splices" "I") (by decide +kernel)) (fun _ h9 => h9) rfl dX0_told_103 ?_
                    subst hQ
                    exact ret_i () hx hb hr hK hP hD hS rfl (by unfold f_X0_told; rw [if_neg w_1, if_neg w_2, if_neg w_3, if_neg w_4, if_neg w_5, if_neg w_6, if_neg w_7, if_neg w_8, if_pos w_9]; try rfl) dX0_told_106 hlocks
                  · refine lv_tableOut (tgt := 107) hx hb dX0_told_1 (by have e0 := x.toInt_le; have e1 := x.le_toInt; have e_0 : x.toInt ≠ (4 : Int) := i_ne w_1; have e_1 : x.toInt ≠ (5 : Int) := i_ne w_2; have e_2 : x.toInt ≠ (6 : Int) := i_ne w_3; have e_3 : x.toInt ≠ (7 : Int) := i_ne w_4; have e_4 : x.toInt ≠ (8 : Int) := i_ne w_5; have e_5 : x.toInt ≠ (9 : Int) := i_ne w_6; have e_6 : x.toInt ≠ (10 : Int) := i_ne w_7; have e_7 : x.toInt ≠ (11 : Int) := i_ne w_8; have e_8 : x.toInt ≠ (12 : Int) := i_ne w_9; omega) (by decide) ?_
                    refine lv_ldc (v := (-10000002)) hx hb hown (hts (.constant RX0 33 (-10000002)) (by decide +kernel)) dX0_told_107 ?_
                    subst hQ
                    exact ret_i () hx hb hr hK hP hD hS rfl (by unfold f_X0_told; rw [if_neg w_1, if_neg w_2, if_neg w_3, if_neg w_4, if_neg w_5, if_neg w_6, if_neg w_7, if_neg w_8, if_neg w_9]; try rfl) dX0_told_109 hlocks

theorem iX0_copyFrom_X0 : ∀ w ∈ wsX00, w ∈ wsX0_copyFrom := by decide +kernel
def f_X0_copyFrom (v : AV) (v2 : AV) : AV := (v2.1, v2.2.1, v2.2.2.1, v2.2.2.2.1, v2.2.2.2.2.1, v2.2.2.2.2.2.1, v2.2.2.2.2.2.2)
set_option maxRecDepth 100000 in
set_option maxHeartbeats 1000000 in
theorem c_X0_copyFrom (l : Launch) (D : va_G) (z : ClassId × ClassId × ClassId) (h : Nat) (o : Nat) (v : AV) (v2 : AV) (sz : Nat) : CV l yX0_copyFrom wsX0_copyFrom 0 0 0 0 [.ref h, .ref o] D z (wX0 z h v ++ wX0 z o v2) sz (E0) (fun (zu : AV) => zu = f_X0_copyFrom v v2) (fun zu => wX0 z h zu ++ wX0 z o v2) := by
  refine met_v cX0_copyFrom 2 (by decide) rfl (Nat.le_of_ble_eq_true rfl) ?_
  intro p e s m args below meth c R Q hx hb hr hml hts hown hlocks hin hRf hRl hRc hRs hc0 hs0 A H hA hP hK hD hS hE hQ ls hl
  have hl : lv_has ls 2 [(0, .ref h), (1, .ref o)] := hl
  have hP : va_P D vwCl [(h, .inr (0, [.int v.1, .int v.2.1, .int v.2.2.1, .int v.2.2.2.1, .int v.2.2.2.2.1, .int v.2.2.2.2.2.1, .int v.2.2.2.2.2.2])), (o, .inr (0, [.int v2.1, .int v2.2.1, .int v2.2.2.1, .int v2.2.2.2.1, .int v2.2.2.2.2.1, .int v2.2.2.2.2.2.1, .int v2.2.2.2.2.2.2]))] H := hP
  have hD : va_D A [(h, .inr (0, [.int v.1, .int v.2.1, .int v.2.2.1, .int v.2.2.2.1, .int v.2.2.2.2.1, .int v.2.2.2.2.2.1, .int v.2.2.2.2.2.2])), (o, .inr (0, [.int v2.1, .int v2.2.1, .int v2.2.2.1, .int v2.2.2.2.1, .int v2.2.2.2.2.1, .int v2.2.2.2.2.2.1, .int v2.2.2.2.2.2.2]))] := hD
  have hown : s.vm.findClass RX0 = some m.cls := hown
  refine lv_aload_n hx hb dX0_copyFrom_0 rfl (lv_at hl 0 rfl) ?_
  refine lv_aload_n hx hb dX0_copyFrom_1 rfl (lv_at hl 1 rfl) ?_
  refine va_get (D := D) (ci := 0) (v := .int v2.1) (C := RX0) (T := TX0) (N := 7) hx hb hts iX0_copyFrom_X0 hown hK hP 1 rfl rfl 0 (by decide) (hts (.fieldLink RX0 9 "BarnPictures$Accounts" "takings" "I") (by decide +kernel)) (fun _ h9 => h9) rfl dX0_copyFrom_2 ?_
  refine va_put (D := D) (ci := 0) (v := .int v2.1) (ty := .int) (C := RX0) (T := TX0) (N := 7) hx hb hts iX0_copyFrom_X0 tyX0 tyX0_ok nmX0 hown hK hP hD hS 0 rfl rfl 0 (by decide) (hts (.fieldLink RX0 9 "BarnPictures$Accounts" "takings" "I") (by decide +kernel)) (fun _ h9 => h9) rfl (by decide +kernel) rfl rfl (Nat.le_of_ble_eq_true rfl) dX0_copyFrom_5 (fun H locs hP hD hS => ?_)
  have hP : va_P D vwCl [(h, .inr (0, [.int v2.1, .int v.2.1, .int v.2.2.1, .int v.2.2.2.1, .int v.2.2.2.2.1, .int v.2.2.2.2.2.1, .int v.2.2.2.2.2.2])), (o, .inr (0, [.int v2.1, .int v2.2.1, .int v2.2.2.1, .int v2.2.2.2.1, .int v2.2.2.2.2.1, .int v2.2.2.2.2.2.1, .int v2.2.2.2.2.2.2]))] H := hP
  have hD : va_D A [(h, .inr (0, [.int v2.1, .int v.2.1, .int v.2.2.1, .int v.2.2.2.1, .int v.2.2.2.2.1, .int v.2.2.2.2.2.1, .int v.2.2.2.2.2.2])), (o, .inr (0, [.int v2.1, .int v2.2.1, .int v2.2.2.1, .int v2.2.2.2.1, .int v2.2.2.2.2.1, .int v2.2.2.2.2.2.1, .int v2.2.2.2.2.2.2]))] := hD
  refine lv_aload_n hx hb dX0_copyFrom_8 rfl (lv_at hl 0 rfl) ?_
  refine lv_aload_n hx hb dX0_copyFrom_9 rfl (lv_at hl 1 rfl) ?_
  refine va_get (D := D) (ci := 0) (v := .int v2.2.1) (C := RX0) (T := TX0) (N := 7) hx hb hts iX0_copyFrom_X0 hown hK hP 1 rfl rfl 1 (by decide) (hts (.fieldLink RX0 15 "BarnPictures$Accounts" "driving" "I") (by decide +kernel)) (fun _ h9 => h9) rfl dX0_copyFrom_10 ?_
  refine va_put (D := D) (ci := 0) (v := .int v2.2.1) (ty := .int) (C := RX0) (T := TX0) (N := 7) hx hb hts iX0_copyFrom_X0 tyX0 tyX0_ok nmX0 hown hK hP hD hS 0 rfl rfl 1 (by decide) (hts (.fieldLink RX0 15 "BarnPictures$Accounts" "driving" "I") (by decide +kernel)) (fun _ h9 => h9) rfl (by decide +kernel) rfl rfl (Nat.le_of_ble_eq_true rfl) dX0_copyFrom_13 (fun H locs hP hD hS => ?_)
  have hP : va_P D vwCl [(h, .inr (0, [.int v2.1, .int v2.2.1, .int v.2.2.1, .int v.2.2.2.1, .int v.2.2.2.2.1, .int v.2.2.2.2.2.1, .int v.2.2.2.2.2.2])), (o, .inr (0, [.int v2.1, .int v2.2.1, .int v2.2.2.1, .int v2.2.2.2.1, .int v2.2.2.2.2.1, .int v2.2.2.2.2.2.1, .int v2.2.2.2.2.2.2]))] H := hP
  have hD : va_D A [(h, .inr (0, [.int v2.1, .int v2.2.1, .int v.2.2.1, .int v.2.2.2.1, .int v.2.2.2.2.1, .int v.2.2.2.2.2.1, .int v.2.2.2.2.2.2])), (o, .inr (0, [.int v2.1, .int v2.2.1, .int v2.2.2.1, .int v2.2.2.2.1, .int v2.2.2.2.2.1, .int v2.2.2.2.2.2.1, .int v2.2.2.2.2.2.2]))] := hD
  refine lv_aload_n hx hb dX0_copyFrom_16 rfl (lv_at hl 0 rfl) ?_
  refine lv_aload_n hx hb dX0_copyFrom_17 rfl (lv_at hl 1 rfl) ?_
  refine va_get (D := D) (ci := 0) (v := .int v2.2.2.1) (C := RX0) (T := TX0) (N := 7) hx hb hts iX0_copyFrom_X0 hown hK hP 1 rfl rfl 2 (by decide) (hts (.fieldLink RX0 18 "BarnPictures$Accounts" "fuelling" "I") (by decide +kernel)) (fun _ h9 => h9) rfl dX0_copyFrom_18 ?_
  refine va_put (D := D) (ci := 0) (v := .int v2.2.2.1) (ty := .int) (C := RX0) (T := TX0) (N := 7) hx hb hts iX0_copyFrom_X0 tyX0 tyX0_ok nmX0 hown hK hP hD hS 0 rfl rfl 2 (by decide) (hts (.fieldLink RX0 18 "BarnPictures$Accounts" "fuelling" "I") (by decide +kernel)) (fun _ h9 => h9) rfl (by decide +kernel) rfl rfl (Nat.le_of_ble_eq_true rfl) dX0_copyFrom_21 (fun H locs hP hD hS => ?_)
  have hP : va_P D vwCl [(h, .inr (0, [.int v2.1, .int v2.2.1, .int v2.2.2.1, .int v.2.2.2.1, .int v.2.2.2.2.1, .int v.2.2.2.2.2.1, .int v.2.2.2.2.2.2])), (o, .inr (0, [.int v2.1, .int v2.2.1, .int v2.2.2.1, .int v2.2.2.2.1, .int v2.2.2.2.2.1, .int v2.2.2.2.2.2.1, .int v2.2.2.2.2.2.2]))] H := hP
  have hD : va_D A [(h, .inr (0, [.int v2.1, .int v2.2.1, .int v2.2.2.1, .int v.2.2.2.1, .int v.2.2.2.2.1, .int v.2.2.2.2.2.1, .int v.2.2.2.2.2.2])), (o, .inr (0, [.int v2.1, .int v2.2.1, .int v2.2.2.1, .int v2.2.2.2.1, .int v2.2.2.2.2.1, .int v2.2.2.2.2.2.1, .int v2.2.2.2.2.2.2]))] := hD
  refine lv_aload_n hx hb dX0_copyFrom_24 rfl (lv_at hl 0 rfl) ?_
  refine lv_aload_n hx hb dX0_copyFrom_25 rfl (lv_at hl 1 rfl) ?_
  refine va_get (D := D) (ci := 0) (v := .int v2.2.2.2.1) (C := RX0) (T := TX0) (N := 7) hx hb hts iX0_copyFrom_X0 hown hK hP 1 rfl rfl 3 (by decide) (hts (.fieldLink RX0 21 "BarnPictures$Accounts" "renewing" "I") (by decide +kernel)) (fun _ h9 => h9) rfl dX0_copyFrom_26 ?_
  refine va_put (D := D) (ci := 0) (v := .int v2.2.2.2.1) (ty := .int) (C := RX0) (T := TX0) (N := 7) hx hb hts iX0_copyFrom_X0 tyX0 tyX0_ok nmX0 hown hK hP hD hS 0 rfl rfl 3 (by decide) (hts (.fieldLink RX0 21 "BarnPictures$Accounts" "renewing" "I") (by decide +kernel)) (fun _ h9 => h9) rfl (by decide +kernel) rfl rfl (Nat.le_of_ble_eq_true rfl) dX0_copyFrom_29 (fun H locs hP hD hS => ?_)
  have hP : va_P D vwCl [(h, .inr (0, [.int v2.1, .int v2.2.1, .int v2.2.2.1, .int v2.2.2.2.1, .int v.2.2.2.2.1, .int v.2.2.2.2.2.1, .int v.2.2.2.2.2.2])), (o, .inr (0, [.int v2.1, .int v2.2.1, .int v2.2.2.1, .int v2.2.2.2.1, .int v2.2.2.2.2.1, .int v2.2.2.2.2.2.1, .int v2.2.2.2.2.2.2]))] H := hP
  have hD : va_D A [(h, .inr (0, [.int v2.1, .int v2.2.1, .int v2.2.2.1, .int v2.2.2.2.1, .int v.2.2.2.2.1, .int v.2.2.2.2.2.1, .int v.2.2.2.2.2.2])), (o, .inr (0, [.int v2.1, .int v2.2.1, .int v2.2.2.1, .int v2.2.2.2.1, .int v2.2.2.2.2.1, .int v2.2.2.2.2.2.1, .int v2.2.2.2.2.2.2]))] := hD
  refine lv_aload_n hx hb dX0_copyFrom_32 rfl (lv_at hl 0 rfl) ?_
  refine lv_aload_n hx hb dX0_copyFrom_33 rfl (lv_at hl 1 rfl) ?_
  refine va_get (D := D) (ci := 0) (v := .int v2.2.2.2.2.1) (C := RX0) (T := TX0) (N := 7) hx hb hts iX0_copyFrom_X0 hown hK hP 1 rfl rfl 4 (by decide) (hts (.fieldLink RX0 24 "BarnPictures$Accounts" "shows" "I") (by decide +kernel)) (fun _ h9 => h9) rfl dX0_copyFrom_34 ?_
  refine va_put (D := D) (ci := 0) (v := .int v2.2.2.2.2.1) (ty := .int) (C := RX0) (T := TX0) (N := 7) hx hb hts iX0_copyFrom_X0 tyX0 tyX0_ok nmX0 hown hK hP hD hS 0 rfl rfl 4 (by decide) (hts (.fieldLink RX0 24 "BarnPictures$Accounts" "shows" "I") (by decide +kernel)) (fun _ h9 => h9) rfl (by decide +kernel) rfl rfl (Nat.le_of_ble_eq_true rfl) dX0_copyFrom_37 (fun H locs hP hD hS => ?_)
  have hP : va_P D vwCl [(h, .inr (0, [.int v2.1, .int v2.2.1, .int v2.2.2.1, .int v2.2.2.2.1, .int v2.2.2.2.2.1, .int v.2.2.2.2.2.1, .int v.2.2.2.2.2.2])), (o, .inr (0, [.int v2.1, .int v2.2.1, .int v2.2.2.1, .int v2.2.2.2.1, .int v2.2.2.2.2.1, .int v2.2.2.2.2.2.1, .int v2.2.2.2.2.2.2]))] H := hP
  have hD : va_D A [(h, .inr (0, [.int v2.1, .int v2.2.1, .int v2.2.2.1, .int v2.2.2.2.1, .int v2.2.2.2.2.1, .int v.2.2.2.2.2.1, .int v.2.2.2.2.2.2])), (o, .inr (0, [.int v2.1, .int v2.2.1, .int v2.2.2.1, .int v2.2.2.2.1, .int v2.2.2.2.2.1, .int v2.2.2.2.2.2.1, .int v2.2.2.2.2.2.2]))] := hD
  refine lv_aload_n hx hb dX0_copyFrom_40 rfl (lv_at hl 0 rfl) ?_
  refine lv_aload_n hx hb dX0_copyFrom_41 rfl (lv_at hl 1 rfl) ?_
  refine va_get (D := D) (ci := 0) (v := .int v2.2.2.2.2.2.1) (C := RX0) (T := TX0) (N := 7) hx hb hts iX0_copyFrom_X0 hown hK hP 1 rfl rfl 5 (by decide) (hts (.fieldLink RX0 27 "BarnPictures$Accounts" "people" "I") (by decide +kernel)) (fun _ h9 => h9) rfl dX0_copyFrom_42 ?_
  refine va_put (D := D) (ci := 0) (v := .int v2.2.2.2.2.2.1) (ty := .int) (C := RX0) (T := TX0) (N := 7) hx hb hts iX0_copyFrom_X0 tyX0 tyX0_ok nmX0 hown hK hP hD hS 0 rfl rfl 5 (by decide) (hts (.fieldLink RX0 27 "BarnPictures$Accounts" "people" "I") (by decide +kernel)) (fun _ h9 => h9) rfl (by decide +kernel) rfl rfl (Nat.le_of_ble_eq_true rfl) dX0_copyFrom_45 (fun H locs hP hD hS => ?_)
  have hP : va_P D vwCl [(h, .inr (0, [.int v2.1, .int v2.2.1, .int v2.2.2.1, .int v2.2.2.2.1, .int v2.2.2.2.2.1, .int v2.2.2.2.2.2.1, .int v.2.2.2.2.2.2])), (o, .inr (0, [.int v2.1, .int v2.2.1, .int v2.2.2.1, .int v2.2.2.2.1, .int v2.2.2.2.2.1, .int v2.2.2.2.2.2.1, .int v2.2.2.2.2.2.2]))] H := hP
  have hD : va_D A [(h, .inr (0, [.int v2.1, .int v2.2.1, .int v2.2.2.1, .int v2.2.2.2.1, .int v2.2.2.2.2.1, .int v2.2.2.2.2.2.1, .int v.2.2.2.2.2.2])), (o, .inr (0, [.int v2.1, .int v2.2.1, .int v2.2.2.1, .int v2.2.2.2.1, .int v2.2.2.2.2.1, .int v2.2.2.2.2.2.1, .int v2.2.2.2.2.2.2]))] := hD
  refine lv_aload_n hx hb dX0_copyFrom_48 rfl (lv_at hl 0 rfl) ?_
  refine lv_aload_n hx hb dX0_copyFrom_49 rfl (lv_at hl 1 rfl) ?_
  refine va_get (D := D) (ci := 0) (v := .int v2.2.2.2.2.2.2) (C := RX0) (T := TX0) (N := 7) hx hb hts iX0_copyFrom_X0 hown hK hP 1 rfl rfl 6 (by decide) (hts (.fieldLink RX0 30 "BarnPictures$Accounts" "splices" "I") (by decide +kernel)) (fun _ h9 => h9) rfl dX0_copyFrom_50 ?_
  refine va_put (D := D) (ci := 0) (v := .int v2.2.2.2.2.2.2) (ty := .int) (C := RX0) (T := TX0) (N := 7) hx hb hts iX0_copyFrom_X0 tyX0 tyX0_ok nmX0 hown hK hP hD hS 0 rfl rfl 6 (by decide) (hts (.fieldLink RX0 30 "BarnPictures$Accounts" "splices" "I") (by decide +kernel)) (fun _ h9 => h9) rfl (by decide +kernel) rfl rfl (Nat.le_of_ble_eq_true rfl) dX0_copyFrom_53 (fun H locs hP hD hS => ?_)
  have hP : va_P D vwCl [(h, .inr (0, [.int v2.1, .int v2.2.1, .int v2.2.2.1, .int v2.2.2.2.1, .int v2.2.2.2.2.1, .int v2.2.2.2.2.2.1, .int v2.2.2.2.2.2.2])), (o, .inr (0, [.int v2.1, .int v2.2.1, .int v2.2.2.1, .int v2.2.2.2.1, .int v2.2.2.2.2.1, .int v2.2.2.2.2.2.1, .int v2.2.2.2.2.2.2]))] H := hP
  have hD : va_D A [(h, .inr (0, [.int v2.1, .int v2.2.1, .int v2.2.2.1, .int v2.2.2.2.1, .int v2.2.2.2.2.1, .int v2.2.2.2.2.2.1, .int v2.2.2.2.2.2.2])), (o, .inr (0, [.int v2.1, .int v2.2.1, .int v2.2.2.1, .int v2.2.2.2.1, .int v2.2.2.2.2.1, .int v2.2.2.2.2.2.1, .int v2.2.2.2.2.2.2]))] := hD
  subst hQ
  exact ret_v (v2.1, v2.2.1, v2.2.2.1, v2.2.2.2.1, v2.2.2.2.2.1, v2.2.2.2.2.2.1, v2.2.2.2.2.2.2) hx hb hr hK hP hD hS rfl rfl dX0_copyFrom_56 hlocks

theorem iX1_hadShowOn_X1 : ∀ w ∈ wsX10, w ∈ wsX1_hadShowOn := by decide +kernel
def f_X1_hadShowOn (v : BV) (b : Int32) (bn : Nat) (x : Int32) : Int32 := if (v.2.1 bn) ≤ 0 then 0 else if (v.1 bn) = x then 1 else 0
set_option maxRecDepth 100000 in
set_option maxHeartbeats 1000000 in
theorem c_X1_hadShowOn (l : Launch) (D : va_G) (z : ClassId × ClassId × ClassId) (h h1 h2 h3 : Nat) (v : BV) (b : Int32) (bn : Nat) (ee_b : b = nI bn) (bb_b : bn < 5) (x : Int32) (sz : Nat) : CI l yX1_hadShowOn wsX1_hadShowOn 0 0 0 0 [.ref h, .int b, .int x] D z (wX1 z h h1 h2 h3 v) sz (E0) (fun (zr : Int32) (_ : Unit) => zr = f_X1_hadShowOn v b bn x ∧ (zr = 0 ∨ zr = 1)) (fun _ => wX1 z h h1 h2 h3 v) := by
  refine met_i cX1_hadShowOn 3 (some .boolean) (by decide) rfl (Nat.le_of_ble_eq_true rfl) ?_
  intro p e s m args below meth c R Q hx hb hr hml hts hown hlocks hin hRf hRl hRc hRs hc0 hs0 A H hA hP hK hD hS hE hQ ls hl
  have hl : lv_has ls 3 [(0, .ref h), (1, .int b), (2, .int x)] := hl
  have hP : va_P D vwCl [(h, .inr (1, [.ref h1, .ref h2, .ref h3])), (h1, .inl (z.1, 5, .inl v.1)), (h2, .inl (z.1, 5, .inl v.2.1)), (h3, .inl (z.1, 5, .inl v.2.2))] H := hP
  have hD : va_D A [(h, .inr (1, [.ref h1, .ref h2, .ref h3])), (h1, .inl (z.1, 5, .inl v.1)), (h2, .inl (z.1, 5, .inl v.2.1)), (h3, .inl (z.1, 5, .inl v.2.2))] := hD
  have hown : s.vm.findClass RX1 = some m.cls := hown
  refine lv_aload_n hx hb dX1_hadShowOn_0 rfl (lv_at hl 0 rfl) ?_
  refine va_get (D := D) (ci := 1) (v := .ref h2) (C := RX1) (T := TX1) (N := 3) hx hb hts iX1_hadShowOn_X1 hown hK hP 0 rfl rfl 1 (by decide) (hts (.fieldLink RX1 15 "BarnPictures$Barns" "shows" "[I") (by decide +kernel)) (fun _ h9 => h9) rfl dX1_hadShowOn_1 ?_
  refine lv_iload_n hx hb dX1_hadShowOn_4 rfl (lv_at hl 1 rfl) ?_
  refine iald_k hx hb hK hP 2 rfl bn (ix_of ee_b (by omega) (by decide)) dX1_hadShowOn_5 ?_
  refine lv_if_le (tgt := 23) hx hb dX1_hadShowOn_6 (by decide) (fun c_1 => ?_) (fun c_1 => ?_)
  · refine lv_iconst (v := 0) hx hb dX1_hadShowOn_23 (by decide) ?_
    subst hQ
    exact ret_z () hx hb hr rfl hK hP hD hS rfl ⟨(by unfold f_X1_hadShowOn; rw [if_pos c_1]; try rfl), (Or.inl rfl)⟩ dX1_hadShowOn_24 hlocks
  · refine lv_aload_n hx hb dX1_hadShowOn_9 rfl (lv_at hl 0 rfl) ?_
    refine va_get (D := D) (ci := 1) (v := .ref h1) (C := RX1) (T := TX1) (N := 3) hx hb hts iX1_hadShowOn_X1 hown hK hP 0 rfl rfl 0 (by decide) (hts (.fieldLink RX1 9 "BarnPictures$Barns" "latestDay" "[I") (by decide +kernel)) (fun _ h9 => h9) rfl dX1_hadShowOn_10 ?_
    refine lv_iload_n hx hb dX1_hadShowOn_13 rfl (lv_at hl 1 rfl) ?_
    refine iald_k hx hb hK hP 1 rfl bn (ix_of ee_b (by omega) (by decide)) dX1_hadShowOn_14 ?_
    refine lv_iload_n hx hb dX1_hadShowOn_15 rfl (lv_at hl 2 rfl) ?_
    refine lv_icmp_ne (tgt := 23) hx hb dX1_hadShowOn_16 (by decide) (fun c_2 => ?_) (fun c_2 => ?_)
    · refine lv_iconst (v := 0) hx hb dX1_hadShowOn_23 (by decide) ?_
      subst hQ
      exact ret_z () hx hb hr rfl hK hP hD hS rfl ⟨(by unfold f_X1_hadShowOn; rw [if_neg c_1, if_neg c_2]; try rfl), (Or.inl rfl)⟩ dX1_hadShowOn_24 hlocks
    · refine lv_iconst (v := 1) hx hb dX1_hadShowOn_19 (by decide) ?_
      refine lv_goto (tgt := 24) hx hb dX1_hadShowOn_20 (by decide) ?_
      subst hQ
      exact ret_z () hx hb hr rfl hK hP hD hS rfl ⟨(by unfold f_X1_hadShowOn; rw [if_neg c_1, if_pos c_2]; try rfl), (Or.inr rfl)⟩ dX1_hadShowOn_24 hlocks

theorem iX1_addShow_X1 : ∀ w ∈ wsX10, w ∈ wsX1_addShow := by decide +kernel
def f_X1_addShow (v : BV) (b : Int32) (bn : Nat) (x : Int32) (y : Int32) : BV := ((upd v.1 bn x), (upd v.2.1 bn ((v.2.1 bn) + 1)), (upd v.2.2 bn ((v.2.2 bn) + y)))
set_option maxRecDepth 100000 in
set_option maxHeartbeats 1000000 in
theorem c_X1_addShow (l : Launch) (D : va_G) (z : ClassId × ClassId × ClassId) (h h1 h2 h3 : Nat) (v : BV) (b : Int32) (bn : Nat) (ee_b : b = nI bn) (bb_b : bn < 5) (x : Int32) (y : Int32) (sz : Nat) : CV l yX1_addShow wsX1_addShow 0 0 0 0 [.ref h, .int b, .int x, .int y] D z (wX1 z h h1 h2 h3 v) sz (E0) (fun (zu : BV) => zu = f_X1_addShow v b bn x y) (fun zu => wX1 z h h1 h2 h3 zu) := by
  refine met_v cX1_addShow 4 (by decide) rfl (Nat.le_of_ble_eq_true rfl) ?_
  intro p e s m args below meth c R Q hx hb hr hml hts hown hlocks hin hRf hRl hRc hRs hc0 hs0 A H hA hP hK hD hS hE hQ ls hl
  have hl : lv_has ls 4 [(0, .ref h), (1, .int b), (2, .int x), (3, .int y)] := hl
  have hP : va_P D vwCl [(h, .inr (1, [.ref h1, .ref h2, .ref h3])), (h1, .inl (z.1, 5, .inl v.1)), (h2, .inl (z.1, 5, .inl v.2.1)), (h3, .inl (z.1, 5, .inl v.2.2))] H := hP
  have hD : va_D A [(h, .inr (1, [.ref h1, .ref h2, .ref h3])), (h1, .inl (z.1, 5, .inl v.1)), (h2, .inl (z.1, 5, .inl v.2.1)), (h3, .inl (z.1, 5, .inl v.2.2))] := hD
  have hown : s.vm.findClass RX1 = some m.cls := hown
  refine lv_aload_n hx hb dX1_addShow_0 rfl (lv_at hl 0 rfl) ?_
  refine va_get (D := D) (ci := 1) (v := .ref h1) (C := RX1) (T := TX1) (N := 3) hx hb hts iX1_addShow_X1 hown hK hP 0 rfl rfl 0 (by decide) (hts (.fieldLink RX1 9 "BarnPictures$Barns" "latestDay" "[I") (by decide +kernel)) (fun _ h9 => h9) rfl dX1_addShow_1 ?_
  refine lv_iload_n hx hb dX1_addShow_4 rfl (lv_at hl 1 rfl) ?_
  refine lv_iload_n hx hb dX1_addShow_5 rfl (lv_at hl 2 rfl) ?_
  refine iast_k hx hb hK hP hD hS 1 rfl bn (ix_of ee_b (by omega) (by decide)) dX1_addShow_6 (fun H locs hP hD hS => ?_)
  have hP : va_P D vwCl [(h, .inr (1, [.ref h1, .ref h2, .ref h3])), (h1, .inl (z.1, 5, .inl (upd v.1 bn x))), (h2, .inl (z.1, 5, .inl v.2.1)), (h3, .inl (z.1, 5, .inl v.2.2))] H := hP
  have hD : va_D A [(h, .inr (1, [.ref h1, .ref h2, .ref h3])), (h1, .inl (z.1, 5, .inl (upd v.1 bn x))), (h2, .inl (z.1, 5, .inl v.2.1)), (h3, .inl (z.1, 5, .inl v.2.2))] := hD
  refine lv_aload_n hx hb dX1_addShow_7 rfl (lv_at hl 0 rfl) ?_
  refine va_get (D := D) (ci := 1) (v := .ref h2) (C := RX1) (T := TX1) (N := 3) hx hb hts iX1_addShow_X1 hown hK hP 0 rfl rfl 1 (by decide) (hts (.fieldLink RX1 15 "BarnPictures$Barns" "shows" "[I") (by decide +kernel)) (fun _ h9 => h9) rfl dX1_addShow_8 ?_
  refine lv_iload_n hx hb dX1_addShow_11 rfl (lv_at hl 1 rfl) ?_
  refine lv_dup2_11 hx hb dX1_addShow_12 rfl rfl ?_
  refine iald_k hx hb hK hP 2 rfl bn (ix_of ee_b (by omega) (by decide)) dX1_addShow_13 ?_
  refine lv_iconst (v := 1) hx hb dX1_addShow_14 (by decide) ?_
  refine lv_iadd hx hb dX1_addShow_15 ?_
  refine iast_k hx hb hK hP hD hS 2 rfl bn (ix_of ee_b (by omega) (by decide)) dX1_addShow_16 (fun H locs hP hD hS => ?_)
  have hP : va_P D vwCl [(h, .inr (1, [.ref h1, .ref h2, .ref h3])), (h1, .inl (z.1, 5, .inl (upd v.1 bn x))), (h2, .inl (z.1, 5, .inl (upd v.2.1 bn ((v.2.1 bn) + 1)))), (h3, .inl (z.1, 5, .inl v.2.2))] H := hP
  have hD : va_D A [(h, .inr (1, [.ref h1, .ref h2, .ref h3])), (h1, .inl (z.1, 5, .inl (upd v.1 bn x))), (h2, .inl (z.1, 5, .inl (upd v.2.1 bn ((v.2.1 bn) + 1)))), (h3, .inl (z.1, 5, .inl v.2.2))] := hD
  refine lv_aload_n hx hb dX1_addShow_17 rfl (lv_at hl 0 rfl) ?_
  refine va_get (D := D) (ci := 1) (v := .ref h3) (C := RX1) (T := TX1) (N := 3) hx hb hts iX1_addShow_X1 hown hK hP 0 rfl rfl 2 (by decide) (hts (.fieldLink RX1 18 "BarnPictures$Barns" "takings" "[I") (by decide +kernel)) (fun _ h9 => h9) rfl dX1_addShow_18 ?_
  refine lv_iload_n hx hb dX1_addShow_21 rfl (lv_at hl 1 rfl) ?_
  refine lv_dup2_11 hx hb dX1_addShow_22 rfl rfl ?_
  refine iald_k hx hb hK hP 3 rfl bn (ix_of ee_b (by omega) (by decide)) dX1_addShow_23 ?_
  refine lv_iload_n hx hb dX1_addShow_24 rfl (lv_at hl 3 rfl) ?_
  refine lv_iadd hx hb dX1_addShow_25 ?_
  refine iast_k hx hb hK hP hD hS 3 rfl bn (ix_of ee_b (by omega) (by decide)) dX1_addShow_26 (fun H locs hP hD hS => ?_)
  have hP : va_P D vwCl [(h, .inr (1, [.ref h1, .ref h2, .ref h3])), (h1, .inl (z.1, 5, .inl (upd v.1 bn x))), (h2, .inl (z.1, 5, .inl (upd v.2.1 bn ((v.2.1 bn) + 1)))), (h3, .inl (z.1, 5, .inl (upd v.2.2 bn ((v.2.2 bn) + y))))] H := hP
  have hD : va_D A [(h, .inr (1, [.ref h1, .ref h2, .ref h3])), (h1, .inl (z.1, 5, .inl (upd v.1 bn x))), (h2, .inl (z.1, 5, .inl (upd v.2.1 bn ((v.2.1 bn) + 1)))), (h3, .inl (z.1, 5, .inl (upd v.2.2 bn ((v.2.2 bn) + y))))] := hD
  subst hQ
  exact ret_v ((upd v.1 bn x), (upd v.2.1 bn ((v.2.1 bn) + 1)), (upd v.2.2 bn ((v.2.2 bn) + y))) hx hb hr hK hP hD hS rfl rfl dX1_addShow_27 hlocks

theorem iX1_showsOf_X1 : ∀ w ∈ wsX10, w ∈ wsX1_showsOf := by decide +kernel
def f_X1_showsOf (v : BV) (b : Int32) (bn : Nat) : Int32 := (v.2.1 bn)
set_option maxRecDepth 100000 in
set_option maxHeartbeats 1000000 in
theorem c_X1_showsOf (l : Launch) (D : va_G) (z : ClassId × ClassId × ClassId) (h h1 h2 h3 : Nat) (v : BV) (b : Int32) (bn : Nat) (ee_b : b = nI bn) (bb_b : bn < 5) (sz : Nat) : CI l yX1_showsOf wsX1_showsOf 0 0 0 0 [.ref h, .int b] D z (wX1 z h h1 h2 h3 v) sz (E0) (fun (zr : Int32) (_ : Unit) => zr = f_X1_showsOf v b bn) (fun _ => wX1 z h h1 h2 h3 v) := by
  refine met_i cX1_showsOf 2 (some .int) (by decide) rfl (Nat.le_of_ble_eq_true rfl) ?_
  intro p e s m args below meth c R Q hx hb hr hml hts hown hlocks hin hRf hRl hRc hRs hc0 hs0 A H hA hP hK hD hS hE hQ ls hl
  have hl : lv_has ls 2 [(0, .ref h), (1, .int b)] := hl
  have hP : va_P D vwCl [(h, .inr (1, [.ref h1, .ref h2, .ref h3])), (h1, .inl (z.1, 5, .inl v.1)), (h2, .inl (z.1, 5, .inl v.2.1)), (h3, .inl (z.1, 5, .inl v.2.2))] H := hP
  have hD : va_D A [(h, .inr (1, [.ref h1, .ref h2, .ref h3])), (h1, .inl (z.1, 5, .inl v.1)), (h2, .inl (z.1, 5, .inl v.2.1)), (h3, .inl (z.1, 5, .inl v.2.2))] := hD
  have hown : s.vm.findClass RX1 = some m.cls := hown
  refine lv_aload_n hx hb dX1_showsOf_0 rfl (lv_at hl 0 rfl) ?_
  refine va_get (D := D) (ci := 1) (v := .ref h2) (C := RX1) (T := TX1) (N := 3) hx hb hts iX1_showsOf_X1 hown hK hP 0 rfl rfl 1 (by decide) (hts (.fieldLink RX1 15 "BarnPictures$Barns" "shows" "[I") (by decide +kernel)) (fun _ h9 => h9) rfl dX1_showsOf_1 ?_
  refine lv_iload_n hx hb dX1_showsOf_4 rfl (lv_at hl 1 rfl) ?_
  refine iald_k hx hb hK hP 2 rfl bn (ix_of ee_b (by omega) (by decide)) dX1_showsOf_5 ?_
  subst hQ
  exact ret_i () hx hb hr hK hP hD hS rfl rfl dX1_showsOf_6 hlocks

theorem iX1_takingsOf_X1 : ∀ w ∈ wsX10, w ∈ wsX1_takingsOf := by decide +kernel
def f_X1_takingsOf (v : BV) (b : Int32) (bn : Nat) : Int32 := (v.2.2 bn)
set_option maxRecDepth 100000 in
set_option maxHeartbeats 1000000 in
theorem c_X1_takingsOf (l : Launch) (D : va_G) (z : ClassId × ClassId × ClassId) (h h1 h2 h3 : Nat) (v : BV) (b : Int32) (bn : Nat) (ee_b : b = nI bn) (bb_b : bn < 5) (sz : Nat) : CI l yX1_takingsOf wsX1_takingsOf 0 0 0 0 [.ref h, .int b] D z (wX1 z h h1 h2 h3 v) sz (E0) (fun (zr : Int32) (_ : Unit) => zr = f_X1_takingsOf v b bn) (fun _ => wX1 z h h1 h2 h3 v) := by
  refine met_i cX1_takingsOf 2 (some .int) (by decide) rfl (Nat.le_of_ble_eq_true rfl) ?_
  intro p e s m args below meth c R Q hx hb hr hml hts hown hlocks hin hRf hRl hRc hRs hc0 hs0 A H hA hP hK hD hS hE hQ ls hl
  have hl : lv_has ls 2 [(0, .ref h), (1, .int b)] := hl
  have hP : va_P D vwCl [(h, .inr (1, [.ref h1, .ref h2, .ref h3])), (h1, .inl (z.1, 5, .inl v.1)), (h2, .inl (z.1, 5, .inl v.2.1)), (h3, .inl (z.1, 5, .inl v.2.2))] H := hP
  have hD : va_D A [(h, .inr (1, [.ref h1, .ref h2, .ref h3])), (h1, .inl (z.1, 5, .inl v.1)), (h2, .inl (z.1, 5, .inl v.2.1)), (h3, .inl (z.1, 5, .inl v.2.2))] := hD
  have hown : s.vm.findClass RX1 = some m.cls := hown
  refine lv_aload_n hx hb dX1_takingsOf_0 rfl (lv_at hl 0 rfl) ?_
  refine va_get (D := D) (ci := 1) (v := .ref h3) (C := RX1) (T := TX1) (N := 3) hx hb hts iX1_takingsOf_X1 hown hK hP 0 rfl rfl 2 (by decide) (hts (.fieldLink RX1 18 "BarnPictures$Barns" "takings" "[I") (by decide +kernel)) (fun _ h9 => h9) rfl dX1_takingsOf_1 ?_
  refine lv_iload_n hx hb dX1_takingsOf_4 rfl (lv_at hl 1 rfl) ?_
  refine iald_k hx hb hK hP 3 rfl bn (ix_of ee_b (by omega) (by decide)) dX1_takingsOf_5 ?_
  subst hQ
  exact ret_i () hx hb hr hK hP hD hS rfl rfl dX1_takingsOf_6 hlocks

theorem iX1_copyFrom_X1 : ∀ w ∈ wsX10, w ∈ wsX1_copyFrom := by decide +kernel
def f_X1_copyFrom (v : BV) (v2 : BV) : BV := (v2.1, v2.2.1, v2.2.2)
set_option maxRecDepth 100000 in
set_option maxHeartbeats 1000000 in
theorem c_X1_copyFrom (l : Launch) (D : va_G) (z : ClassId × ClassId × ClassId) (h h1 h2 h3 : Nat) (o o1 o2 o3 : Nat) (v : BV) (v2 : BV) (sz : Nat) : CV l yX1_copyFrom wsX1_copyFrom 1 48 0 0 [.ref h, .ref o] D z (wX1 z h h1 h2 h3 v ++ wX1 z o o1 o2 o3 v2) sz (E0) (fun (zu : BV) => zu = f_X1_copyFrom v v2) (fun zu => wX1 z h h1 h2 h3 zu ++ wX1 z o o1 o2 o3 v2) := by
  refine met_v cX1_copyFrom 2 (by decide) rfl (Nat.le_of_ble_eq_true rfl) ?_
  intro p e s m args below meth c R Q hx hb hr hml hts hown hlocks hin hRf hRl hRc hRs hc0 hs0 A H hA hP hK hD hS hE hQ ls hl
  have hl : lv_has ls 2 [(0, .ref h), (1, .ref o)] := hl
  have hP : va_P D vwCl [(h, .inr (1, [.ref h1, .ref h2, .ref h3])), (h1, .inl (z.1, 5, .inl v.1)), (h2, .inl (z.1, 5, .inl v.2.1)), (h3, .inl (z.1, 5, .inl v.2.2)), (o, .inr (1, [.ref o1, .ref o2, .ref o3])), (o1, .inl (z.1, 5, .inl v2.1)), (o2, .inl (z.1, 5, .inl v2.2.1)), (o3, .inl (z.1, 5, .inl v2.2.2))] H := hP
  have hD : va_D A [(h, .inr (1, [.ref h1, .ref h2, .ref h3])), (h1, .inl (z.1, 5, .inl v.1)), (h2, .inl (z.1, 5, .inl v.2.1)), (h3, .inl (z.1, 5, .inl v.2.2)), (o, .inr (1, [.ref o1, .ref o2, .ref o3])), (o1, .inl (z.1, 5, .inl v2.1)), (o2, .inl (z.1, 5, .inl v2.2.1)), (o3, .inl (z.1, 5, .inl v2.2.2))] := hD
  have hown : s.vm.findClass RX1 = some m.cls := hown
  refine lv_aload_n hx hb dX1_copyFrom_0 rfl (lv_at hl 1 rfl) ?_
  refine va_get (D := D) (ci := 1) (v := .ref o1) (C := RX1) (T := TX1) (N := 3) hx hb hts iX1_copyFrom_X1 hown hK hP 4 rfl rfl 0 (by decide) (hts (.fieldLink RX1 9 "BarnPictures$Barns" "latestDay" "[I") (by decide +kernel)) (fun _ h9 => h9) rfl dX1_copyFrom_1 ?_
  refine lv_iconst (v := 0) hx hb dX1_copyFrom_4 (by decide) ?_
  refine lv_aload_n hx hb dX1_copyFrom_5 rfl (lv_at hl 0 rfl) ?_
  refine va_get (D := D) (ci := 1) (v := .ref h1) (C := RX1) (T := TX1) (N := 3) hx hb hts iX1_copyFrom_X1 hown hK hP 0 rfl rfl 0 (by decide) (hts (.fieldLink RX1 9 "BarnPictures$Barns" "latestDay" "[I") (by decide +kernel)) (fun _ h9 => h9) rfl dX1_copyFrom_6 ?_
  refine lv_iconst (v := 0) hx hb dX1_copyFrom_9 (by decide) ?_
  refine lv_iconst (v := 5) hx hb dX1_copyFrom_10 (by decide) ?_
  refine copy_k hx hb (hml.trans hl.1.symm) hown (hts (.methodLink RX1 21 arraycopyName) (by decide +kernel)) (hts (.native arraycopyName) (by decide +kernel)) (hts (.static arraycopyName) (by decide +kernel)) (hts (.initialized "java/lang/System") (by decide +kernel)) hK hP hD hS 5 1 5 rfl rfl (by decide) (by decide) (Nat.le_trans (by decide) hRf) (Nat.le_trans (Nat.le_of_ble_eq_true rfl) hRl) dX1_copyFrom_11 (fun H locs hP hD hS => ?_)
  have hP : va_P D vwCl [(h, .inr (1, [.ref h1, .ref h2, .ref h3])), (h1, .inl (z.1, 5, .inl v2.1)), (h2, .inl (z.1, 5, .inl v.2.1)), (h3, .inl (z.1, 5, .inl v.2.2)), (o, .inr (1, [.ref o1, .ref o2, .ref o3])), (o1, .inl (z.1, 5, .inl v2.1)), (o2, .inl (z.1, 5, .inl v2.2.1)), (o3, .inl (z.1, 5, .inl v2.2.2))] H := hP
  have hD : va_D A [(h, .inr (1, [.ref h1, .ref h2, .ref h3])), (h1, .inl (z.1, 5, .inl v2.1)), (h2, .inl (z.1, 5, .inl v.2.1)), (h3, .inl (z.1, 5, .inl v.2.2)), (o, .inr (1, [.ref o1, .ref o2, .ref o3])), (o1, .inl (z.1, 5, .inl v2.1)), (o2, .inl (z.1, 5, .inl v2.2.1)), (o3, .inl (z.1, 5, .inl v2.2.2))] := hD
  refine lv_aload_n hx hb dX1_copyFrom_14 rfl (lv_at hl 1 rfl) ?_
  refine va_get (D := D) (ci := 1) (v := .ref o2) (C := RX1) (T := TX1) (N := 3) hx hb hts iX1_copyFrom_X1 hown hK hP 4 rfl rfl 1 (by decide) (hts (.fieldLink RX1 15 "BarnPictures$Barns" "shows" "[I") (by decide +kernel)) (fun _ h9 => h9) rfl dX1_copyFrom_15 ?_
  refine lv_iconst (v := 0) hx hb dX1_copyFrom_18 (by decide) ?_
  refine lv_aload_n hx hb dX1_copyFrom_19 rfl (lv_at hl 0 rfl) ?_
  refine va_get (D := D) (ci := 1) (v := .ref h2) (C := RX1) (T := TX1) (N := 3) hx hb hts iX1_copyFrom_X1 hown hK hP 0 rfl rfl 1 (by decide) (hts (.fieldLink RX1 15 "BarnPictures$Barns" "shows" "[I") (by decide +kernel)) (fun _ h9 => h9) rfl dX1_copyFrom_20 ?_
  refine lv_iconst (v := 0) hx hb dX1_copyFrom_23 (by decide) ?_
  refine lv_iconst (v := 5) hx hb dX1_copyFrom_24 (by decide) ?_
  refine copy_k hx hb (hml.trans hl.1.symm) hown (hts (.methodLink RX1 21 arraycopyName) (by decide +kernel)) (hts (.native arraycopyName) (by decide +kernel)) (hts (.static arraycopyName) (by decide +kernel)) (hts (.initialized "java/lang/System") (by decide +kernel)) hK hP hD hS 6 2 5 rfl rfl (by decide) (by decide) (Nat.le_trans (by decide) hRf) (Nat.le_trans (Nat.le_of_ble_eq_true rfl) hRl) dX1_copyFrom_25 (fun H locs hP hD hS => ?_)
  have hP : va_P D vwCl [(h, .inr (1, [.ref h1, .ref h2, .ref h3])), (h1, .inl (z.1, 5, .inl v2.1)), (h2, .inl (z.1, 5, .inl v2.2.1)), (h3, .inl (z.1, 5, .inl v.2.2)), (o, .inr (1, [.ref o1, .ref o2, .ref o3])), (o1, .inl (z.1, 5, .inl v2.1)), (o2, .inl (z.1, 5, .inl v2.2.1)), (o3, .inl (z.1, 5, .inl v2.2.2))] H := hP
  have hD : va_D A [(h, .inr (1, [.ref h1, .ref h2, .ref h3])), (h1, .inl (z.1, 5, .inl v2.1)), (h2, .inl (z.1, 5, .inl v2.2.1)), (h3, .inl (z.1, 5, .inl v.2.2)), (o, .inr (1, [.ref o1, .ref o2, .ref o3])), (o1, .inl (z.1, 5, .inl v2.1)), (o2, .inl (z.1, 5, .inl v2.2.1)), (o3, .inl (z.1, 5, .inl v2.2.2))] := hD
  refine lv_aload_n hx hb dX1_copyFrom_28 rfl (lv_at hl 1 rfl) ?_
  refine va_get (D := D) (ci := 1) (v := .ref o3) (C := RX1) (T := TX1) (N := 3) hx hb hts iX1_copyFrom_X1 hown hK hP 4 rfl rfl 2 (by decide) (hts (.fieldLink RX1 18 "BarnPictures$Barns" "takings" "[I") (by decide +kernel)) (fun _ h9 => h9) rfl dX1_copyFrom_29 ?_
  refine lv_iconst (v := 0) hx hb dX1_copyFrom_32 (by decide) ?_
  refine lv_aload_n hx hb dX1_copyFrom_33 rfl (lv_at hl 0 rfl) ?_
  refine va_get (D := D) (ci := 1) (v := .ref h3) (C := RX1) (T := TX1) (N := 3) hx hb hts iX1_copyFrom_X1 hown hK hP 0 rfl rfl 2 (by decide) (hts (.fieldLink RX1 18 "BarnPictures$Barns" "takings" "[I") (by decide +kernel)) (fun _ h9 => h9) rfl dX1_copyFrom_34 ?_
  refine lv_iconst (v := 0) hx hb dX1_copyFrom_37 (by decide) ?_
  refine lv_iconst (v := 5) hx hb dX1_copyFrom_38 (by decide) ?_
  refine copy_k hx hb (hml.trans hl.1.symm) hown (hts (.methodLink RX1 21 arraycopyName) (by decide +kernel)) (hts (.native arraycopyName) (by decide +kernel)) (hts (.static arraycopyName) (by decide +kernel)) (hts (.initialized "java/lang/System") (by decide +kernel)) hK hP hD hS 7 3 5 rfl rfl (by decide) (by decide) (Nat.le_trans (by decide) hRf) (Nat.le_trans (Nat.le_of_ble_eq_true rfl) hRl) dX1_copyFrom_39 (fun H locs hP hD hS => ?_)
  have hP : va_P D vwCl [(h, .inr (1, [.ref h1, .ref h2, .ref h3])), (h1, .inl (z.1, 5, .inl v2.1)), (h2, .inl (z.1, 5, .inl v2.2.1)), (h3, .inl (z.1, 5, .inl v2.2.2)), (o, .inr (1, [.ref o1, .ref o2, .ref o3])), (o1, .inl (z.1, 5, .inl v2.1)), (o2, .inl (z.1, 5, .inl v2.2.1)), (o3, .inl (z.1, 5, .inl v2.2.2))] H := hP
  have hD : va_D A [(h, .inr (1, [.ref h1, .ref h2, .ref h3])), (h1, .inl (z.1, 5, .inl v2.1)), (h2, .inl (z.1, 5, .inl v2.2.1)), (h3, .inl (z.1, 5, .inl v2.2.2)), (o, .inr (1, [.ref o1, .ref o2, .ref o3])), (o1, .inl (z.1, 5, .inl v2.1)), (o2, .inl (z.1, 5, .inl v2.2.1)), (o3, .inl (z.1, 5, .inl v2.2.2))] := hD
  subst hQ
  exact ret_v (v2.1, v2.2.1, v2.2.2) hx hb hr hK hP hD hS rfl rfl dX1_copyFrom_42 hlocks

