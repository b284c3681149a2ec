theorem iX5_size_X5 : ∀ w ∈ wsX50, w ∈ wsX5_size := by decide +kernel
def f_X5_size (v : OV) : Int32 := v.2.2.2.1
set_option maxRecDepth 100000 in
set_option maxHeartbeats 1000000 in
theorem c_X5_size (l : Launch) (D : va_G) (z : ClassId × ClassId × ClassId) (h h1 h2 h3 : Nat) (v : OV) (sz : Nat) : CI l yX5_size wsX5_size 0 0 0 0 [.ref h] D z (wX5 z h h1 h2 h3 v) sz (E0) (fun (zr : Int32) (_ : Unit) => zr = f_X5_size v) (fun _ => wX5 z h h1 h2 h3 v) := by
  refine met_i cX5_size 1 (some .int) (by decide) rfl (Nat.le_of_ble_eq_true rfl) ?_
  intro p e s m args below meth c R Q hx hb hr hml hts hown hlocks hin hRf hRl hRc hRs hc0 hs0 A H hA hP hK hD hS hE hQ ls hl
  have hl : lv_has ls 1 [(0, .ref h)] := hl
  have hP : va_P D vwCl [(h, .inr (5, [.ref h1, .ref h2, .ref h3, .int v.2.2.2.1, .int v.2.2.2.2])), (h1, .inl (z.1, 40, .inl v.1)), (h2, .inl (z.1, 40, .inl v.2.1)), (h3, .inl (z.1, 40, .inl v.2.2.1))] H := hP
  have hD : va_D A [(h, .inr (5, [.ref h1, .ref h2, .ref h3, .int v.2.2.2.1, .int v.2.2.2.2])), (h1, .inl (z.1, 40, .inl v.1)), (h2, .inl (z.1, 40, .inl v.2.1)), (h3, .inl (z.1, 40, .inl v.2.2.1))] := hD
  have hown : s.vm.findClass RX5 = some m.cls := hown
  refine lv_aload_n hx hb dX5_size_0 rfl (lv_at hl 0 rfl) ?_
  refine va_get (D := D) (ci := 5) (v := .int v.2.2.2.1) (C := RX5) (T := TX5) (N := 5) hx hb hts iX5_size_X5 hown hK hP 0 rfl rfl 3 (by decide) (hts (.fieldLink RX5 21 "BarnPictures$Route" "size" "I") (by decide +kernel)) (fun _ h9 => h9) rfl dX5_size_1 ?_
  subst hQ
  exact ret_i () hx hb hr hK hP hD hS rfl rfl dX5_size_4 hlocks

theorem iX5_adds_X5 : ∀ w ∈ wsX50, w ∈ wsX5_adds := by decide +kernel
def f_X5_adds (v : OV) (x : Int32) (y : Int32) (w : Int32) : Int32 × (Nat → Int32) × (Nat → Int32) × (Nat → Int32) × Int32 := if v.2.2.2.1 < 40 then (1, ((upd v.1 v.2.2.2.1.toNatClampNeg x), (upd v.2.1 v.2.2.2.1.toNatClampNeg y), (upd v.2.2.1 v.2.2.2.1.toNatClampNeg w), (v.2.2.2.1 + 1))) else (0, (v.1, v.2.1, v.2.2.1, v.2.2.2.1))
set_option maxRecDepth 100000 in
set_option maxHeartbeats 1000000 in
theorem c_X5_adds (l : Launch) (D : va_G) (z : ClassId × ClassId × ClassId) (h h1 h2 h3 : Nat) (v : OV) (x : Int32) (y : Int32) (w : Int32) (hZ : ¬ v.2.2.2.1 < 0) (sz : Nat) : CI l yX5_adds wsX5_adds 0 0 0 0 [.ref h, .int x, .int y, .int w] D z (wX5 z h h1 h2 h3 v) sz (E0) (fun (zr : Int32) (zu : (Nat → Int32) × (Nat → Int32) × (Nat → Int32) × Int32) => (zr, zu) = f_X5_adds v x y w ∧ (zr = 0 ∨ zr = 1)) (fun zu => wX5 z h h1 h2 h3 (zu.1, zu.2.1, zu.2.2.1, zu.2.2.2, v.2.2.2.2)) := by
  refine met_i cX5_adds 4 (some .boolean) (by decide) rfl (Nat.le_of_ble_eq_true rfl) ?_
  intro p e s m args below meth c R Q hx hb hr hml hts hown hlocks hin hRf hRl hRc hRs hc0 hs0 A H hA hP hK hD hS hE hQ ls hl
  have hl : lv_has ls 4 [(0, .ref h), (1, .int x), (2, .int y), (3, .int w)] := hl
  have hP : va_P D vwCl [(h, .inr (5, [.ref h1, .ref h2, .ref h3, .int v.2.2.2.1, .int v.2.2.2.2])), (h1, .inl (z.1, 40, .inl v.1)), (h2, .inl (z.1, 40, .inl v.2.1)), (h3, .inl (z.1, 40, .inl v.2.2.1))] H := hP
  have hD : va_D A [(h, .inr (5, [.ref h1, .ref h2, .ref h3, .int v.2.2.2.1, .int v.2.2.2.2])), (h1, .inl (z.1, 40, .inl v.1)), (h2, .inl (z.1, 40, .inl v.2.1)), (h3, .inl (z.1, 40, .inl v.2.2.1))] := hD
  have hown : s.vm.findClass RX5 = some m.cls := hown
  refine lv_aload_n hx hb dX5_adds_0 rfl (lv_at hl 0 rfl) ?_
  refine va_get (D := D) (ci := 5) (v := .int v.2.2.2.1) (C := RX5) (T := TX5) (N := 5) hx hb hts iX5_adds_X5 hown hK hP 0 rfl rfl 3 (by decide) (hts (.fieldLink RX5 21 "BarnPictures$Route" "size" "I") (by decide +kernel)) (fun _ h9 => h9) rfl dX5_adds_1 ?_
  refine lv_bipush (v := 40) hx hb dX5_adds_4 (by decide) ?_
  refine lv_icmp_lt (tgt := 11) hx hb dX5_adds_6 (by decide) (fun c_1 => ?_) (fun c_1 => ?_)
  · refine lv_aload_n hx hb dX5_adds_11 rfl (lv_at hl 0 rfl) ?_
    refine va_get (D := D) (ci := 5) (v := .ref h1) (C := RX5) (T := TX5) (N := 5) hx hb hts iX5_adds_X5 hown hK hP 0 rfl rfl 0 (by decide) (hts (.fieldLink RX5 9 "BarnPictures$Route" "signs" "[I") (by decide +kernel)) (fun _ h9 => h9) rfl dX5_adds_12 ?_
    refine lv_aload_n hx hb dX5_adds_15 rfl (lv_at hl 0 rfl) ?_
    refine va_get (D := D) (ci := 5) (v := .int v.2.2.2.1) (C := RX5) (T := TX5) (N := 5) hx hb hts iX5_adds_X5 hown hK hP 0 rfl rfl 3 (by decide) (hts (.fieldLink RX5 21 "BarnPictures$Route" "size" "I") (by decide +kernel)) (fun _ h9 => h9) rfl dX5_adds_16 ?_
    refine lv_iload_n hx hb dX5_adds_19 rfl (lv_at hl 1 rfl) ?_
    refine iast_k hx hb hK hP hD hS 1 rfl v.2.2.2.1.toNatClampNeg (ix_vp (vp_rgl 40 hZ (by assumption) rfl)) dX5_adds_20 (fun H locs hP hD hS => ?_)
    have hP : va_P D vwCl [(h, .inr (5, [.ref h1, .ref h2, .ref h3, .int v.2.2.2.1, .int v.2.2.2.2])), (h1, .inl (z.1, 40, .inl (upd v.1 v.2.2.2.1.toNatClampNeg x))), (h2, .inl (z.1, 40, .inl v.2.1)), (h3, .inl (z.1, 40, .inl v.2.2.1))] H := hP
    have hD : va_D A [(h, .inr (5, [.ref h1, .ref h2, .ref h3, .int v.2.2.2.1, .int v.2.2.2.2])), (h1, .inl (z.1, 40, .inl (upd v.1 v.2.2.2.1.toNatClampNeg x))), (h2, .inl (z.1, 40, .inl v.2.1)), (h3, .inl (z.1, 40, .inl v.2.2.1))] := hD
    refine lv_aload_n hx hb dX5_adds_21 rfl (lv_at hl 0 rfl) ?_
    refine va_get (D := D) (ci := 5) (v := .ref h2) (C := RX5) (T := TX5) (N := 5) hx hb hts iX5_adds_X5 hown hK hP 0 rfl rfl 1 (by decide) (hts (.fieldLink RX5 15 "BarnPictures$Route" "things" "[I") (by decide +kernel)) (fun _ h9 => h9) rfl dX5_adds_22 ?_
    refine lv_aload_n hx hb dX5_adds_25 rfl (lv_at hl 0 rfl) ?_
    refine va_get (D := D) (ci := 5) (v := .int v.2.2.2.1) (C := RX5) (T := TX5) (N := 5) hx hb hts iX5_adds_X5 hown hK hP 0 rfl rfl 3 (by decide) (hts (.fieldLink RX5 21 "BarnPictures$Route" "size" "I") (by decide +kernel)) (fun _ h9 => h9) rfl dX5_adds_26 ?_
    refine lv_iload_n hx hb dX5_adds_29 rfl (lv_at hl 2 rfl) ?_
    refine iast_k hx hb hK hP hD hS 2 rfl v.2.2.2.1.toNatClampNeg (ix_vp (vp_rgl 40 hZ (by assumption) rfl)) dX5_adds_30 (fun H locs hP hD hS => ?_)
    have hP : va_P D vwCl [(h, .inr (5, [.ref h1, .ref h2, .ref h3, .int v.2.2.2.1, .int v.2.2.2.2])), (h1, .inl (z.1, 40, .inl (upd v.1 v.2.2.2.1.toNatClampNeg x))), (h2, .inl (z.1, 40, .inl (upd v.2.1 v.2.2.2.1.toNatClampNeg y))), (h3, .inl (z.1, 40, .inl v.2.2.1))] H := hP
    have hD : va_D A [(h, .inr (5, [.ref h1, .ref h2, .ref h3, .int v.2.2.2.1, .int v.2.2.2.2])), (h1, .inl (z.1, 40, .inl (upd v.1 v.2.2.2.1.toNatClampNeg x))), (h2, .inl (z.1, 40, .inl (upd v.2.1 v.2.2.2.1.toNatClampNeg y))), (h3, .inl (z.1, 40, .inl v.2.2.1))] := hD
    refine lv_aload_n hx hb dX5_adds_31 rfl (lv_at hl 0 rfl) ?_
    refine va_get (D := D) (ci := 5) (v := .ref h3) (C := RX5) (T := TX5) (N := 5) hx hb hts iX5_adds_X5 hown hK hP 0 rfl rfl 2 (by decide) (hts (.fieldLink RX5 18 "BarnPictures$Route" "amounts" "[I") (by decide +kernel)) (fun _ h9 => h9) rfl dX5_adds_32 ?_
    refine lv_aload_n hx hb dX5_adds_35 rfl (lv_at hl 0 rfl) ?_
    refine va_get (D := D) (ci := 5) (v := .int v.2.2.2.1) (C := RX5) (T := TX5) (N := 5) hx hb hts iX5_adds_X5 hown hK hP 0 rfl rfl 3 (by decide) (hts (.fieldLink RX5 21 "BarnPictures$Route" "size" "I") (by decide +kernel)) (fun _ h9 => h9) rfl dX5_adds_36 ?_
    refine lv_iload_n hx hb dX5_adds_39 rfl (lv_at hl 3 rfl) ?_
    refine iast_k hx hb hK hP hD hS 3 rfl v.2.2.2.1.toNatClampNeg (ix_vp (vp_rgl 40 hZ (by assumption) rfl)) dX5_adds_40 (fun H locs hP hD hS => ?_)
    have hP : va_P D vwCl [(h, .inr (5, [.ref h1, .ref h2, .ref h3, .int v.2.2.2.1, .int v.2.2.2.2])), (h1, .inl (z.1, 40, .inl (upd v.1 v.2.2.2.1.toNatClampNeg x))), (h2, .inl (z.1, 40, .inl (upd v.2.1 v.2.2.2.1.toNatClampNeg y))), (h3, .inl (z.1, 40, .inl (upd v.2.2.1 v.2.2.2.1.toNatClampNeg w)))] H := hP
    have hD : va_D A [(h, .inr (5, [.ref h1, .ref h2, .ref h3, .int v.2.2.2.1, .int v.2.2.2.2])), (h1, .inl (z.1, 40, .inl (upd v.1 v.2.2.2.1.toNatClampNeg x))), (h2, .inl (z.1, 40, .inl (upd v.2.1 v.2.2.2.1.toNatClampNeg y))), (h3, .inl (z.1, 40, .inl (upd v.2.2.1 v.2.2.2.1.toNatClampNeg w)))] := hD
    refine lv_aload_n hx hb dX5_adds_41 rfl (lv_at hl 0 rfl) ?_
    refine lv_dup hx hb dX5_adds_42 rfl ?_
    refine va_get (D := D) (ci := 5) (v := .int v.2.2.2.1) (C := RX5) (T := TX5) (N := 5) hx hb hts iX5_adds_X5 hown hK hP 0 rfl rfl 3 (by decide) (hts (.fieldLink RX5 21 "BarnPictures$Route" "size" "I") (by decide +kernel)) (fun _ h9 => h9) rfl dX5_adds_43 ?_
    refine lv_iconst (v := 1) hx hb dX5_adds_46 (by decide) ?_
    refine lv_iadd hx hb dX5_adds_47 ?_
    refine va_put (D := D) (ci := 5) (v := .int (v.2.2.2.1 + 1)) (ty := .int) (C := RX5) (T := TX5) (N := 5) hx hb hts iX5_adds_X5 tyX5 tyX5_ok nmX5 hown hK hP hD hS 0 rfl rfl 3 (by decide) (hts (.fieldLink RX5 21 "BarnPictures$Route" "size" "I") (by decide +kernel)) (fun _ h9 => h9) rfl (by decide +kernel) rfl rfl (Nat.le_of_ble_eq_true rfl) dX5_adds_48 (fun H locs hP hD hS => ?_)
    have hP : va_P D vwCl [(h, .inr (5, [.ref h1, .ref h2, .ref h3, .int (v.2.2.2.1 + 1), .int v.2.2.2.2])), (h1, .inl (z.1, 40, .inl (upd v.1 v.2.2.2.1.toNatClampNeg x))), (h2, .inl (z.1, 40, .inl (upd v.2.1 v.2.2.2.1.toNatClampNeg y))), (h3, .inl (z.1, 40, .inl (upd v.2.2.1 v.2.2.2.1.toNatClampNeg w)))] H := hP
    have hD : va_D A [(h, .inr (5, [.ref h1, .ref h2, .ref h3, .int (v.2.2.2.1 + 1), .int v.2.2.2.2])), (h1, .inl (z.1, 40, .inl (upd v.1 v.2.2.2.1.toNatClampNeg x))), (h2, .inl (z.1, 40, .inl (upd v.2.1 v.2.2.2.1.toNatClampNeg y))), (h3, .inl (z.1, 40, .inl (upd v.2.2.1 v.2.2.2.1.toNatClampNeg w)))] := hD
    refine lv_iconst (v := 1) hx hb dX5_adds_51 (by decide) ?_
    subst hQ
    exact ret_z ((upd v.1 v.2.2.2.1.toNatClampNeg x), (upd v.2.1 v.2.2.2.1.toNatClampNeg y), (upd v.2.2.1 v.2.2.2.1.toNatClampNeg w), (v.2.2.2.1 + 1)) hx hb hr rfl hK hP hD hS rfl ⟨(by unfold f_X5_adds; rw [if_pos c_1]; try rfl), (Or.inr rfl)⟩ dX5_adds_52 hlocks
  · refine lv_iconst (v := 0) hx hb dX5_adds_9 (by decide) ?_
    subst hQ
    exact ret_z (v.1, v.2.1, v.2.2.1, v.2.2.2.1) hx hb hr rfl hK hP hD hS rfl ⟨(by unfold f_X5_adds; rw [if_neg c_1]; try rfl), (Or.inl rfl)⟩ dX5_adds_10 hlocks

theorem iX5_digitAt_X5 : ∀ w ∈ wsX50, w ∈ wsX5_digitAt := by decide +kernel
def f_X5_digitAt (v : OV) (v2 : TV) : Int32 := if (f_X8_signAt v2 v.2.2.2.2) < 48 then (-1) else if 57 < (f_X8_signAt v2 v.2.2.2.2) then (-1) else ((f_X8_signAt v2 v.2.2.2.2) - 48)
set_option maxRecDepth 100000 in
set_option maxHeartbeats 1000000 in
theorem c_X5_digitAt (l : Launch) (D : va_G) (z : ClassId × ClassId × ClassId) (h h1 h2 h3 : Nat) (o o1 : Nat) (v : OV) (v2 : TV) (hT : v2.2.toInt ≤ 80) (sz : Nat) : CI l yX5_digitAt wsX5_digitAt 1 21 0 0 [.ref h, .ref o] D z (wX5 z h h1 h2 h3 v ++ wX8 z o o1 v2) sz (E0) (fun (zr : Int32) (_ : Unit) => zr = f_X5_digitAt v v2) (fun _ => wX5 z h h1 h2 h3 v ++ wX8 z o o1 v2) := by
  refine met_i cX5_digitAt 3 (some .int) (by decide) rfl (Nat.le_of_ble_eq_true rfl) ?_
  intro p e s m args below meth c R Q hx hb hr hml hts hown hlocks hin hRf hRl hRc hRs hc0 hs0 A H hA hP hK hD hS hE hQ ls hl
  have hl : lv_has ls 3 [(0, .ref h), (1, .ref o)] := hl
  have hP : va_P D vwCl [(h, .inr (5, [.ref h1, .ref h2, .ref h3, .int v.2.2.2.1, .int v.2.2.2.2])), (h1, .inl (z.1, 40, .inl v.1)), (h2, .inl (z.1, 40, .inl v.2.1)), (h3, .inl (z.1, 40, .inl v.2.2.1)), (o, .inr (8, [.ref o1, .int v2.2])), (o1, .inl (z.2.1, 80, .inl v2.1))] H := hP
  have hD : va_D A [(h, .inr (5, [.ref h1, .ref h2, .ref h3, .int v.2.2.2.1, .int v.2.2.2.2])), (h1, .inl (z.1, 40, .inl v.1)), (h2, .inl (z.1, 40, .inl v.2.1)), (h3, .inl (z.1, 40, .inl v.2.2.1)), (o, .inr (8, [.ref o1, .int v2.2])), (o1, .inl (z.2.1, 80, .inl v2.1))] := hD
  have hown : s.vm.findClass RX5 = some m.cls := hown
  refine lv_aload_n hx hb dX5_digitAt_0 rfl (lv_at hl 1 rfl) ?_
  refine lv_aload_n hx hb dX5_digitAt_1 rfl (lv_at hl 0 rfl) ?_
  refine va_get (D := D) (ci := 5) (v := .int v.2.2.2.2) (C := RX5) (T := TX5) (N := 5) hx hb hts iX5_digitAt_X5 hown hK hP 0 rfl rfl 4 (by decide) (hts (.fieldLink RX5 25 "BarnPictures$Route" "at" "I") (by decide +kernel)) (fun _ h9 => h9) rfl dX5_digitAt_2 ?_
  refine call_i [(h, .inr (5, [.ref h1, .ref h2, .ref h3, .int v.2.2.2.1, .int v.2.2.2.2])), (h1, .inl (z.1, 40, .inl v.1)), (h2, .inl (z.1, 40, .inl v.2.1)), (h3, .inl (z.1, 40, .inl v.2.2.1))] (fun _ => [(h, .inr (5, [.ref h1, .ref h2, .ref h3, .int v.2.2.2.1, .int v.2.2.2.2])), (h1, .inl (z.1, 40, .inl v.1)), (h2, .inl (z.1, 40, .inl v.2.1)), (h3, .inl (z.1, 40, .inl v.2.2.1)), (o, .inr (8, [.ref o1, .int v2.2])), (o1, .inl (z.2.1, 80, .inl v2.1))]) (rV (As := [.int v.2.2.2.2]) (rest := []) ⟨hx, hb, hml, hown, hts⟩ (c_X8_signAt l D z o o1 v2 v.2.2.2.2 (by assumption) H.size) (cwV 1 hts gX5_digitAt_X8_signAt rfl rfl rfl (by decide +kernel) ⟨Nat.le_trans (by decide) hRf, Nat.le_trans (by decide) hRl⟩) e0_ok e_0 hK hP hD [4, 5] (by decide) rfl (va_recv hK hP (ci := 8) (q0 := 4) rfl rfl) rfl hl.1 rfl (Nat.le_of_ble_eq_true rfl) dX5_digitAt_5 ⟨Nat.zero_le _, Nat.zero_le _⟩) hK hP hD hS hA [4, 5] [0, 1, 2, 3] [0, 1, 2, 3, 4, 5] rfl rfl (by decide) (by decide) (by decide) (fun _ => rfl) (fun zr zu H locs hw hP hD hS => ?_)
  subst hw
  have hP : va_P D vwCl [(h, .inr (5, [.ref h1, .ref h2, .ref h3, .int v.2.2.2.1, .int v.2.2.2.2])), (h1, .inl (z.1, 40, .inl v.1)), (h2, .inl (z.1, 40, .inl v.2.1)), (h3, .inl (z.1, 40, .inl v.2.2.1)), (o, .inr (8, [.ref o1, .int v2.2])), (o1, .inl (z.2.1, 80, .inl v2.1))] H := hP
  have hD : va_D A [(h, .inr (5, [.ref h1, .ref h2, .ref h3, .int v.2.2.2.1, .int v.2.2.2.2])), (h1, .inl (z.1, 40, .inl v.1)), (h2, .inl (z.1, 40, .inl v.2.1)), (h3, .inl (z.1, 40, .inl v.2.2.1)), (o, .inr (8, [.ref o1, .int v2.2])), (o1, .inl (z.2.1, 80, .inl v2.1))] := hD
  refine lv_istore_n (lv' := [(2, .int (f_X8_signAt v2 v.2.2.2.2)), (0, .ref h), (1, .ref o)]) hx hb dX5_digitAt_8 rfl hl (by decide) rfl (fun ls hl => ?_)
  refine lv_iload_n hx hb dX5_digitAt_9 rfl (lv_at hl 0 rfl) ?_
  refine lv_bipush (v := 48) hx hb dX5_digitAt_10 (by decide) ?_
  refine lv_icmp_lt (tgt := 28) hx hb dX5_digitAt_12 (by decide) (fun c_1 => ?_) (fun c_1 => ?_)
  · refine lv_iconst (v := (-1)) hx hb dX5_digitAt_28 (by decide) ?_
    subst hQ
    exact ret_i () hx hb hr hK hP hD hS rfl (by unfold f_X5_digitAt; rw [if_pos c_1]; try rfl) dX5_digitAt_29 hlocks
  · refine lv_iload_n hx hb dX5_digitAt_15 rfl (lv_at hl 0 rfl) ?_
    refine lv_bipush (v := 57) hx hb dX5_digitAt_16 (by decide) ?_
    refine lv_icmp_gt (tgt := 28) hx hb dX5_digitAt_18 (by decide) (fun c_2 => ?_) (fun c_2 => ?_)
    · refine lv_iconst (v := (-1)) hx hb dX5_digitAt_28 (by decide) ?_
      subst hQ
      exact ret_i () hx hb hr hK hP hD hS rfl (by unfold f_X5_digitAt; rw [if_neg c_1, if_pos c_2]; try rfl) dX5_digitAt_29 hlocks
    · refine lv_iload_n hx hb dX5_digitAt_21 rfl (lv_at hl 0 rfl) ?_
      refine lv_bipush (v := 48) hx hb dX5_digitAt_22 (by decide) ?_
      refine lv_isub hx hb dX5_digitAt_24 ?_
      refine lv_goto (tgt := 29) hx hb dX5_digitAt_25 (by decide) ?_
      subst hQ
      exact ret_i () hx hb hr hK hP hD hS rfl (by unfold f_X5_digitAt; rw [if_neg c_1, if_neg c_2]; try rfl) dX5_digitAt_29 hlocks

theorem iX5_readsSign_X5 : ∀ w ∈ wsX50, w ∈ wsX5_readsSign := by decide +kernel
def f_X5_readsSign (v : OV) (v2 : TV) (x : Int32) : Int32 × Int32 := if (f_X8_signAt v2 v.2.2.2.2) = x then (1, (v.2.2.2.2 + 1)) else (0, v.2.2.2.2)
set_option maxRecDepth 100000 in
set_option maxHeartbeats 1000000 in
theorem c_X5_readsSign (l : Launch) (D : va_G) (z : ClassId × ClassId × ClassId) (h h1 h2 h3 : Nat) (o o1 : Nat) (v : OV) (v2 : TV) (x : Int32) (hT : v2.2.toInt ≤ 80) (sz : Nat) : CI l yX5_readsSign wsX5_readsSign 1 21 0 0 [.ref h, .ref o, .int x] D z (wX5 z h h1 h2 h3 v ++ wX8 z o o1 v2) sz (E0) (fun (zr : Int32) (zu : Int32) => (zr, zu) = f_X5_readsSign v v2 x ∧ (zr = 0 ∨ zr = 1)) (fun zu => wX5 z h h1 h2 h3 (v.1, v.2.1, v.2.2.1, v.2.2.2.1, zu) ++ wX8 z o o1 v2) := by
  refine met_i cX5_readsSign 3 (some .boolean) (by decide) rfl (Nat.le_of_ble_eq_true rfl) ?_
  intro p e s m args below meth c R Q hx hb hr hml hts hown hlocks hin hRf hRl hRc hRs hc0 hs0 A H hA hP hK hD hS hE hQ ls hl
  have hl : lv_has ls 3 [(0, .ref h), (1, .ref o), (2, .int x)] := hl
  have hP : va_P D vwCl [(h, .inr (5, [.ref h1, .ref h2, .ref h3, .int v.2.2.2.1, .int v.2.2.2.2])), (h1, .inl (z.1, 40, .inl v.1)), (h2, .inl (z.1, 40, .inl v.2.1)), (h3, .inl (z.1, 40, .inl v.2.2.1)), (o, .inr (8, [.ref o1, .int v2.2])), (o1, .inl (z.2.1, 80, .inl v2.1))] H := hP
  have hD : va_D A [(h, .inr (5, [.ref h1, .ref h2, .ref h3, .int v.2.2.2.1, .int v.2.2.2.2])), (h1, .inl (z.1, 40, .inl v.1)), (h2, .inl (z.1, 40, .inl v.2.1)), (h3, .inl (z.1, 40, .inl v.2.2.1)), (o, .inr (8, [.ref o1, .int v2.2])), (o1, .inl (z.2.1, 80, .inl v2.1))] := hD
  have hown : s.vm.findClass RX5 = some m.cls := hown
  refine lv_aload_n hx hb dX5_readsSign_0 rfl (lv_at hl 1 rfl) ?_
  refine lv_aload_n hx hb dX5_readsSign_1 rfl (lv_at hl 0 rfl) ?_
  refine va_get (D := D) (ci := 5) (v := .int v.2.2.2.2) (C := RX5) (T := TX5) (N := 5) hx hb hts iX5_readsSign_X5 hown hK hP 0 rfl rfl 4 (by decide) (hts (.fieldLink RX5 25 "BarnPictures$Route" "at" "I") (by decide +kernel)) (fun _ h9 => h9) rfl dX5_readsSign_2 ?_
  refine call_i [(h, .inr (5, [.ref h1, .ref h2, .ref h3, .int v.2.2.2.1, .int v.2.2.2.2])), (h1, .inl (z.1, 40, .inl v.1)), (h2, .inl (z.1, 40, .inl v.2.1)), (h3, .inl (z.1, 40, .inl v.2.2.1))] (fun _ => [(h, .inr (5, [.ref h1, .ref h2, .ref h3, .int v.2.2.2.1, .int v.2.2.2.2])), (h1, .inl (z.1, 40, .inl v.1)), (h2, .inl (z.1, 40, .inl v.2.1)), (h3, .inl (z.1, 40, .inl v.2.2.1)), (o, .inr (8, [.ref o1, .int v2.2])), (o1, .inl (z.2.1, 80, .inl v2.1))]) (rV (As := [.int v.2.2.2.2]) (rest := []) ⟨hx, hb, hml, hown, hts⟩ (c_X8_signAt l D z o o1 v2 v.2.2.2.2 (by assumption) H.size) (cwV 1 hts gX5_readsSign_X8_signAt rfl rfl rfl (by decide +kernel) ⟨Nat.le_trans (by decide) hRf, Nat.le_trans (by decide) hRl⟩) e0_ok e_0 hK hP hD [4, 5] (by decide) rfl (va_recv hK hP (ci := 8) (q0 := 4) rfl rfl) rfl hl.1 rfl (Nat.le_of_ble_eq_true rfl) dX5_readsSign_5 ⟨Nat.zero_le _, Nat.zero_le _⟩) hK hP hD hS hA [4, 5] [0, 1, 2, 3] [0, 1, 2, 3, 4, 5] rfl rfl (by decide) (by decide) (by decide) (fun _ => rfl) (fun zr zu H locs hw hP hD hS => ?_)
  subst hw
  have hP : va_P D vwCl [(h, .inr (5, [.ref h1, .ref h2, .ref h3, .int v.2.2.2.1, .int v.2.2.2.2])), (h1, .inl (z.1, 40, .inl v.1)), (h2, .inl (z.1, 40, .inl v.2.1)), (h3, .inl (z.1, 40, .inl v.2.2.1)), (o, .inr (8, [.ref o1, .int v2.2])), (o1, .inl (z.2.1, 80, .inl v2.1))] H := hP
  have hD : va_D A [(h, .inr (5, [.ref h1, .ref h2, .ref h3, .int v.2.2.2.1, .int v.2.2.2.2])), (h1, .inl (z.1, 40, .inl v.1)), (h2, .inl (z.1, 40, .inl v.2.1)), (h3, .inl (z.1, 40, .inl v.2.2.1)), (o, .inr (8, [.ref o1, .int v2.2])), (o1, .inl (z.2.1, 80, .inl v2.1))] := hD
  refine lv_iload_n hx hb dX5_readsSign_8 rfl (lv_at hl 2 rfl) ?_
  refine lv_icmp_eq (tgt := 14) hx hb dX5_readsSign_9 (by decide) (fun c_1 => ?_) (fun c_1 => ?_)
  · refine lv_aload_n hx hb dX5_readsSign_14 rfl (lv_at hl 0 rfl) ?_
    refine lv_dup hx hb dX5_readsSign_15 rfl ?_
    refine va_get (D := D) (ci := 5) (v := .int v.2.2.2.2) (C := RX5) (T := TX5) (N := 5) hx hb hts iX5_readsSign_X5 hown hK hP 0 rfl rfl 4 (by decide) (hts (.fieldLink RX5 25 "BarnPictures$Route" "at" "I") (by decide +kernel)) (fun _ h9 => h9) rfl dX5_readsSign_16 ?_
    refine lv_iconst (v := 1) hx hb dX5_readsSign_19 (by decide) ?_
    refine lv_iadd hx hb dX5_readsSign_20 ?_
    refine va_put (D := D) (ci := 5) (v := .int (v.2.2.2.2 + 1)) (ty := .int) (C := RX5) (T := TX5) (N := 5) hx hb hts iX5_readsSign_X5 tyX5 tyX5_ok nmX5 hown hK hP hD hS 0 rfl rfl 4 (by decide) (hts (.fieldLink RX5 25 "BarnPictures$Route" "at" "I") (by decide +kernel)) (fun _ h9 => h9) rfl (by decide +kernel) rfl rfl (Nat.le_of_ble_eq_true rfl) dX5_readsSign_21 (fun H locs hP hD hS => ?_)
    have hP : va_P D vwCl [(h, .inr (5, [.ref h1, .ref h2, .ref h3, .int v.2.2.2.1, .int (v.2.2.2.2 + 1)])), (h1, .inl (z.1, 40, .inl v.1)), (h2, .inl (z.1, 40, .inl v.2.1)), (h3, .inl (z.1, 40, .inl v.2.2.1)), (o, .inr (8, [.ref o1, .int v2.2])), (o1, .inl (z.2.1, 80, .inl v2.1))] H := hP
    have hD : va_D A [(h, .inr (5, [.ref h1, .ref h2, .ref h3, .int v.2.2.2.1, .int (v.2.2.2.2 + 1)])), (h1, .inl (z.1, 40, .inl v.1)), (h2, .inl (z.1, 40, .inl v.2.1)), (h3, .inl (z.1, 40, .inl v.2.2.1)), (o, .inr (8, [.ref o1, .int v2.2])), (o1, .inl (z.2.1, 80, .inl v2.1))] := hD
    refine lv_iconst (v := 1) hx hb dX5_readsSign_24 (by decide) ?_
    subst hQ
    exact ret_z (v.2.2.2.2 + 1) hx hb hr rfl hK hP hD hS rfl ⟨(by unfold f_X5_readsSign; rw [if_pos c_1]; try rfl), (Or.inr rfl)⟩ dX5_readsSign_25 hlocks
  · refine lv_iconst (v := 0) hx hb dX5_readsSign_12 (by decide) ?_
    subst hQ
    exact ret_z v.2.2.2.2 hx hb hr rfl hK hP hD hS rfl ⟨(by unfold f_X5_readsSign; rw [if_neg c_1]; try rfl), (Or.inl rfl)⟩ dX5_readsSign_13 hlocks

theorem iX5_readMinutes_X5 : ∀ w ∈ wsX50, w ∈ wsX5_readMinutes := by decide +kernel
def st_X5_readMinutes_4 (v : OV) (v2 : TV) (q4 : Int32 × Int32) : (Int32 × Int32) ⊕ (Int32 × Int32) := if (f_X5_digitAt (v.1, v.2.1, v.2.2.1, v.2.2.2.1, q4.2) v2) = (-1) then if (f_X9_isFuelOnSale q4.1) = 0 then Sum.inr ((-1), q4.2) else Sum.inr (q4.1, q4.2) else if ((q4.1 * 10) + (f_X5_digitAt (v.1, v.2.1, v.2.2.1, v.2.2.2.1, q4.2) v2)) = 0 then if (f_X9_isFuelOnSale q4.1) = 0 then Sum.inr ((-1), q4.2) else Sum.inr (q4.1, q4.2) else if ((q4.1 * 10) + (f_X5_digitAt (v.1, v.2.1, v.2.2.1, v.2.2.2.1, q4.2) v2)) ≤ 500 then Sum.inl (((q4.1 * 10) + (f_X5_digitAt (v.1, v.2.1, v.2.2.1, v.2.2.2.1, q4.2) v2)), (q4.2 + 1)) else if (f_X9_isFuelOnSale q4.1) = 0 then Sum.inr ((-1), q4.2) else Sum.inr (q4.1, q4.2)
def wl_X5_readMinutes_4 (v : OV) (v2 : TV) : Nat → Int32 × Int32 → Int32 × Int32
  | 0, q4 => if (f_X9_isFuelOnSale q4.1) = 0 then ((-1), q4.2) else (q4.1, q4.2)
  | n4 + 1, q4 => Sum.elim (fun q9 => wl_X5_readMinutes_4 v v2 n4 q9) id (st_X5_readMinutes_4 v v2 q4)
theorem wl_X5_readMinutes_4_0 (v : OV) (v2 : TV) (q4 : Int32 × Int32) : wl_X5_readMinutes_4 v v2 0 q4 = if (f_X9_isFuelOnSale q4.1) = 0 then ((-1), q4.2) else (q4.1, q4.2) := rfl
theorem wl_X5_readMinutes_4_s (v : OV) (v2 : TV) (n4 : Nat) (q4 : Int32 × Int32) : wl_X5_readMinutes_4 v v2 (n4 + 1) q4 = Sum.elim (fun q9 => wl_X5_readMinutes_4 v v2 n4 q9) id (st_X5_readMinutes_4 v v2 q4) := rfl
def f_X5_readMinutes (v : OV) (v2 : TV) : Int32 × Int32 := wl_X5_readMinutes_4 v v2 80 (0, v.2.2.2.2)
set_option maxRecDepth 100000 in
set_option maxHeartbeats 1000000 in
theorem c_X5_readMinutes (l : Launch) (D : va_G) (z : ClassId × ClassId × ClassId) (tM tS : Nat) (h h1 h2 h3 : Nat) (o o1 : Nat) (v : OV) (v2 : TV) (hT : v2.2.toInt ≤ 80) (sz : Nat) : CI l yX5_readMinutes wsX5_readMinutes 2 43 0 0 [.ref h, .ref o] D z (wX5 z h h1 h2 h3 v ++ wX8 z o o1 v2) sz (EV tM tS) (fun (zr : Int32) (zu : Int32) => (zr, zu) = f_X5_readMinutes v v2) (fun zu => wX5 z h h1 h2 h3 (v.1, v.2.1, v.2.2.1, v.2.2.2.1, zu) ++ wX8 z o o1 v2) := by
  refine met_i cX5_readMinutes 6 (some .int) (by decide) rfl (Nat.le_of_ble_eq_true rfl) ?_
  intro p e s m args below meth c R Q hx hb hr hml hts hown hlocks hin hRf hRl hRc hRs hc0 hs0 A H hA hP hK hD hS hE hQ ls hl
  have hl : lv_has ls 6 [(0, .ref h), (1, .ref o)] := hl
  have hP : va_P D vwCl [(h, .inr (5, [.ref h1, .ref h2, .ref h3, .int v.2.2.2.1, .int v.2.2.2.2])), (h1, .inl (z.1, 40, .inl v.1)), (h2, .inl (z.1, 40, .inl v.2.1)), (h3, .inl (z.1, 40, .inl v.2.2.1)), (o, .inr (8, [.ref o1, .int v2.2])), (o1, .inl (z.2.1, 80, .inl v2.1))] H := hP
  have hD : va_D A [(h, .inr (5, [.ref h1, .ref h2, .ref h3, .int v.2.2.2.1, .int v.2.2.2.2])), (h1, .inl (z.1, 40, .inl v.1)), (h2, .inl (z.1, 40, .inl v.2.1)), (h3, .inl (z.1, 40, .inl v.2.2.1)), (o, .inr (8, [.ref o1, .int v2.2])), (o1, .inl (z.2.1, 80, .inl v2.1))] := hD
  have hown : s.vm.findClass RX5 = some m.cls := hown
  refine lv_iconst (v := 0) hx hb dX5_readMinutes_0 (by decide) ?_
  refine lv_istore_n (lv' := [(2, .int 0), (0, .ref h), (1, .ref o)]) hx hb dX5_readMinutes_1 rfl hl (by decide) rfl (fun ls hl => ?_)
  refine lv_iconst (v := 0) hx hb dX5_readMinutes_2 (by decide) ?_
  refine lv_istore_n (lv' := [(3, .int 0), (2, .int 0), (0, .ref h), (1, .ref o)]) hx hb dX5_readMinutes_3 rfl hl (by decide) rfl (fun ls hl => ?_)
  have L4 : ∀ (n4 : Nat) (q4 : Int32 × Int32), f_X5_readMinutes v v2 = wl_X5_readMinutes_4 v v2 n4 q4 → n4 ≤ 80 → ∀ (H : Heap) (locs : List Loc) (ls : Array Slot), va_P D vwCl [(h, .inr (5, [.ref h1, .ref h2, .ref h3, .int v.2.2.2.1, .int q4.2])), (h1, .inl (z.1, 40, .inl v.1)), (h2, .inl (z.1, 40, .inl v.2.1)), (h3, .inl (z.1, 40, .inl v.2.2.1)), (o, .inr (8, [.ref o1, .int v2.2])), (o1, .inl (z.2.1, 80, .inl v2.1))] H → va_D A [(h, .inr (5, [.ref h1, .ref h2, .ref h3, .int v.2.2.2.1, .int q4.2])), (h1, .inl (z.1, 40, .inl v.1)), (h2, .inl (z.1, 40, .inl v.2.1)), (h3, .inl (z.1, 40, .inl v.2.2.1)), (o, .inr (8, [.ref o1, .int v2.2])), (o1, .inl (z.2.1, 80, .inl v2.1))] → va_S A s.heap H locs → lv_has ls 6 [(3, .int (nI (80 - n4))), (2, .int q4.1), (0, .ref h), (1, .ref o)] → W p l e R s m args below meth c H locs 0 0 Q (F0 m 4 ls []) := by
    intro n4
    induction n4 with
    | zero =>
      intro q4 hq4 hn4 H locs ls hP hD hS hl
      refine lv_iload_n hx hb dX5_readMinutes_4 rfl (lv_at hl 0 rfl) ?_
      refine lv_bipush (v := 80) hx hb dX5_readMinutes_5 (by decide) ?_
      refine lv_icmp_ge (tgt := 67) hx hb dX5_readMinutes_7 (by decide) (fun c_2 => ?_) (fun c_2 => absurd (nI_le (a := 80) (b := (80 - 0)) (by omega) (by omega)) c_2)
      refine lv_iload_n hx hb dX5_readMinutes_67 rfl (lv_at hl 1 rfl) ?_
      refine call_i [(h, .inr (5, [.ref h1, .ref h2, .ref h3, .int v.2.2.2.1, .int q4.2])), (h1, .inl (z.1, 40, .inl v.1)), (h2, .inl (z.1, 40, .inl v.2.1)), (h3, .inl (z.1, 40, .inl v.2.2.1)), (o, .inr (8, [.ref o1, .int v2.2])), (o1, .inl (z.2.1, 80, .inl v2.1))] (fun _ => [(h, .inr (5, [.ref h1, .ref h2, .ref h3, .int v.2.2.2.1, .int q4.2])), (h1, .inl (z.1, 40, .inl v.1)), (h2, .inl (z.1, 40, .inl v.2.1)), (h3, .inl (z.1, 40, .inl v.2.2.1)), (o, .inr (8, [.ref o1, .int v2.2])), (o1, .inl (z.2.1, 80, .inl v2.1))]) (rSN (As := [.int q4.1]) (rest := []) ⟨hx, hb, hml, hown, hts⟩ (c_X9_isFuelOnSale l D z q4.1 H.size) ⟨va_cnB 1 hts gX5_readMinutes_X9_isFuelOnSale_n68 rfl rfl rfl hE.1.2.2.2.2.2.2.2.2.2.2.2.2.2.2.2 (hts (.initialized RX9) (by decide +kernel)) (by decide +kernel) ⟨Nat.le_trans (by decide) hRf, Nat.le_trans (by decide) hRl⟩, hts (.static yX9_isFuelOnSale) (by decide +kernel), trivial⟩ e0_ok e_0 hK hP hD [] (by decide) rfl rfl hl.1 rfl (Nat.le_of_ble_eq_true rfl) dX5_readMinutes_68 ⟨Nat.zero_le _, Nat.zero_le _⟩) hK hP hD hS hA [] [0, 1, 2, 3, 4, 5] [0, 1, 2, 3, 4, 5] rfl rfl (by decide) (by decide) (by decide) (fun _ => rfl) (fun zr zu H locs hw hP hD hS => ?_)
      obtain ⟨hw, hz_3⟩ := hw
      subst hw
      have hP : va_P D vwCl [(h, .inr (5, [.ref h1, .ref h2, .ref h3, .int v.2.2.2.1, .int q4.2])), (h1, .inl (z.1, 40, .inl v.1)), (h2, .inl (z.1, 40, .inl v.2.1)), (h3, .inl (z.1, 40, .inl v.2.2.1)), (o, .inr (8, [.ref o1, .int v2.2])), (o1, .inl (z.2.1, 80, .inl v2.1))] H := hP
      have hD : va_D A [(h, .inr (5, [.ref h1, .ref h2, .ref h3, .int v.2.2.2.1, .int q4.2])), (h1, .inl (z.1, 40, .inl v.1)), (h2, .inl (z.1, 40, .inl v.2.1)), (h3, .inl (z.1, 40, .inl v.2.2.1)), (o, .inr (8, [.ref o1, .int v2.2])), (o1, .inl (z.2.1, 80, .inl v2.1))] := hD
      refine lv_if_eq (tgt := 78) hx hb dX5_readMinutes_71 (by decide) (fun c_4 => ?_) (fun c_4 => ?_)
      · refine lv_iconst (v := (-1)) hx hb dX5_readMinutes_78 (by decide) ?_
        subst hQ
        exact ret_i q4.2 hx hb hr hK hP hD hS rfl (by rw [hq4, wl_X5_readMinutes_4_0]; rw [if_pos c_4]; try rfl) dX5_readMinutes_79 hlocks
      · refine lv_iload_n hx hb dX5_readMinutes_74 rfl (lv_at hl 1 rfl) ?_
        refine lv_goto (tgt := 79) hx hb dX5_readMinutes_75 (by decide) ?_
        subst hQ
        exact ret_i q4.2 hx hb hr hK hP hD hS rfl (by rw [hq4, wl_X5_readMinutes_4_0]; rw [if_neg c_4]; try rfl) dX5_readMinutes_79 hlocks
    | succ n4 ih4 =>
      intro q4 hq4 hn4 H locs ls hP hD hS hl
      refine lv_iload_n hx hb dX5_readMinutes_4 rfl (lv_at hl 0 rfl) ?_
      refine lv_bipush (v := 80) hx hb dX5_readMinutes_5 (by decide) ?_
      refine lv_icmp_ge (tgt := 67) hx hb dX5_readMinutes_7 (by decide) (fun c_6 => absurd c_6 (nI_ge (a := (80 - (n4 + 1))) (b := 80) (by omega) (by omega))) (fun c_6 => ?_)
      refine lv_aload_n hx hb dX5_readMinutes_10 rfl (lv_at hl 2 rfl) ?_
      refine lv_aload_n hx hb dX5_readMinutes_11 rfl (lv_at hl 3 rfl) ?_
      refine call_i [] (fun _ => [(h, .inr (5, [.ref h1, .ref h2, .ref h3, .int v.2.2.2.1, .int q4.2])), (h1, .inl (z.1, 40, .inl v.1)), (h2, .inl (z.1, 40, .inl v.2.1)), (h3, .inl (z.1, 40, .inl v.2.2.1)), (o, .inr (8, [.ref o1, .int v2.2])), (o1, .inl (z.2.1, 80, .inl v2.1))]) (rV (As := [.ref o]) (rest := []) ⟨hx, hb, hml, hown, hts⟩ (c_X5_digitAt l D z h h1 h2 h3 o o1 (v.1, v.2.1, v.2.2.1, v.2.2.2.1, q4.2) v2 (by assumption) H.size) (cwV 1 hts gX5_readMinutes_X5_digitAt rfl rfl rfl (by decide +kernel) ⟨Nat.le_trans (by decide) hRf, Nat.le_trans (by decide) hRl⟩) e0_ok e_0 hK hP hD [0, 1, 2, 3, 4, 5] (by decide) rfl (va_recv hK hP (ci := 5) (q0 := 0) rfl rfl) rfl hl.1 rfl (Nat.le_of_ble_eq_true rfl) dX5_readMinutes_12 ⟨Nat.zero_le _, Nat.zero_le _⟩) hK hP hD hS hA [0, 1, 2, 3, 4, 5] [] [0, 1, 2, 3, 4, 5] rfl rfl (by decide) (by decide) (by decide) (fun _ => rfl) (fun zr zu H locs hw hP hD hS => ?_)
      subst hw
      have hP : va_P D vwCl [(h, .inr (5, [.ref h1, .ref h2, .ref h3, .int v.2.2.2.1, .int q4.2])), (h1, .inl (z.1, 40, .inl v.1)), (h2, .inl (z.1, 40, .inl v.2.1)), (h3, .inl (z.1, 40, .inl v.2.2.1)), (o, .inr (8, [.ref o1, .int v2.2])), (o1, .inl (z.2.1, 80, .inl v2.1))] H := hP
      have hD : va_D A [(h, .inr (5, [.ref h1, .ref h2, .ref h3, .int v.2.2.2.1, .int q4.2])), (h1, .inl (z.1, 40, .inl v.1)), (h2, .inl (z.1, 40, .inl v.2.1)), (h3, .inl (z.1, 40, .inl v.2.2.1)), (o, .inr (8, [.ref o1, .int v2.2])), (o1, .inl (z.2.1, 80, .inl v2.1))] := hD
      refine lv_istore (lv' := [(4, .int (f_X5_digitAt (v.1, v.2.1, v.2.2.1, v.2.2.2.1, q4.2) v2)), (3, .int (nI (80 - (n4 + 1)))), (2, .int q4.1), (0, .ref h), (1, .ref o)]) hx hb dX5_readMinutes_15 hl (by decide) rfl (fun ls hl => ?_)
      refine lv_iload_n hx hb dX5_readMinutes_17 rfl (lv_at hl 2 rfl) ?_
      refine lv_bipush (v := 10) hx hb dX5_readMinutes_18 (by decide) ?_
      refine lv_imul hx hb dX5_readMinutes_20 ?_
      refine lv_iload hx hb dX5_readMinutes_21 (lv_at hl 0 rfl) ?_
      refine lv_iadd hx hb dX5_readMinutes_23 ?_
      refine lv_istore (lv' := [(5, .int ((q4.1 * 10) + (f_X5_digitAt (v.1, v.2.1, v.2.2.1, v.2.2.2.1, q4.2) v2))), (4, .int (f_X5_digitAt (v.1, v.2.1, v.2.2.1, v.2.2.2.1, q4.2) v2)), (3, .int (nI (80 - (n4 + 1)))), (2, .int q4.1), (0, .ref h), (1, .ref o)]) hx hb dX5_readMinutes_24 hl (by decide) rfl (fun ls hl => ?_)
      refine lv_iload hx hb dX5_readMinutes_26 (lv_at hl 1 rfl) ?_
      refine lv_iconst (v := (-1)) hx hb dX5_readMinutes_28 (by decide) ?_
      refine lv_icmp_eq (tgt := 67) hx hb dX5_readMinutes_29 (by decide) (fun c_7 => ?_) (fun c_7 => ?_)
      · refine lv_iload_n hx hb dX5_readMinutes_67 rfl (lv_at hl 3 rfl) ?_
        refine call_i [(h, .inr (5, [.ref h1, .ref h2, .ref h3, .int v.2.2.2.1, .int q4.2])), (h1, .inl (z.1, 40, .inl v.1)), (h2, .inl (z.1, 40, .inl v.2.1)), (h3, .inl (z.1, 40, .inl v.2.2.1)), (o, .inr (8, [.ref o1, .int v2.2])), (o1, .inl (z.2.1, 80, .inl v2.1))] (fun _ => [(h, .inr (5, [.ref h1, .ref h2, .ref h3, .int v.2.2.2.1, .int q4.2])), (h1, .inl (z.1, 40, .inl v.1)), (h2, .inl (z.1, 40, .inl v.2.1)), (h3, .inl (z.1, 40, .inl v.2.2.1)), (o, .inr (8, [.ref o1, .int v2.2])), (o1, .inl (z.2.1, 80, .inl v2.1))]) (rSN (As := [.int q4.1]) (rest := []) ⟨hx, hb, hml, hown, hts⟩ (c_X9_isFuelOnSale l D z q4.1 H.size) ⟨va_cnB 1 hts gX5_readMinutes_X9_isFuelOnSale_n68 rfl rfl rfl hE.1.2.2.2.2.2.2.2.2.2.2.2.2.2.2.2 (hts (.initialized RX9) (by decide +kernel)) (by decide +kernel) ⟨Nat.le_trans (by decide) hRf, Nat.le_trans (by decide) hRl⟩, hts (.static yX9_isFuelOnSale) (by decide +kernel), trivial⟩ e0_ok e_0 hK hP hD [] (by decide) rfl rfl hl.1 rfl (Nat.le_of_ble_eq_true rfl) dX5_readMinutes_68 ⟨Nat.zero_le _, Nat.zero_le _⟩) hK hP hD hS hA [] [0, 1, 2, 3, 4, 5] [0, 1, 2, 3, 4, 5] rfl rfl (by decide) (by decide) (by decide) (fun _ => rfl) (fun zr zu H locs hw hP hD hS => ?_)
        obtain ⟨hw, hz_8⟩ := hw
        subst hw
        have hP : va_P D vwCl [(h, .inr (5, [.ref h1, .ref h2, .ref h3, .int v.2.2.2.1, .int q4.2])), (h1, .inl (z.1, 40, .inl v.1)), (h2, .inl (z.1, 40, .inl v.2.1)), (h3, .inl (z.1, 40, .inl v.2.2.1)), (o, .inr (8, [.ref o1, .int v2.2])), (o1, .inl (z.2.1, 80, .inl v2.1))] H := hP
        have hD : va_D A [(h, .inr (5, [.ref h1, .ref h2, .ref h3, .int v.2.2.2.1, .int q4.2])), (h1, .inl (z.1, 40, .inl v.1)), (h2, .inl (z.1, 40, .inl v.2.1)), (h3, .inl (z.1, 40, .inl v.2.2.1)), (o, .inr (8, [.ref o1, .int v2.2])), (o1, .inl (z.2.1, 80, .inl v2.1))] := hD
        refine lv_if_eq (tgt := 78) hx hb dX5_readMinutes_71 (by decide) (fun c_9 => ?_) (fun c_9 => ?_)
        · refine lv_iconst (v := (-1)) hx hb dX5_readMinutes_78 (by decide) ?_
          subst hQ
          exact ret_i q4.2 hx hb hr hK hP hD hS rfl (by rw [hq4, wl_X5_readMinutes_4_s, (show st_X5_readMinutes_4 v v2 q4 = Sum.inr ((-1), q4.2) from by unfold st_X5_readMinutes_4; rw [if_pos c_7, if_pos c_9]; try rfl)]; try rfl) dX5_readMinutes_79 hlocks
        · refine lv_iload_n hx hb dX5_readMinutes_74 rfl (lv_at hl 3 rfl) ?_
          refine lv_goto (tgt := 79) hx hb dX5_readMinutes_75 (by decide) ?_
          subst hQ
          exact ret_i q4.2 hx hb hr hK hP hD hS rfl (by rw [hq4, wl_X5_readMinutes_4_s, (show st_X5_readMinutes_4 v v2 q4 = Sum.inr (q4.1, q4.2) from by unfold st_X5_readMinutes_4; rw [if_pos c_7, if_neg c_9]; try rfl)]; try rfl) dX5_readMinutes_79 hlocks
      · refine lv_iload hx hb dX5_readMinutes_32 (lv_at hl 0 rfl) ?_
        refine lv_if_eq (tgt := 67) hx hb dX5_readMinutes_34 (by decide) (fun c_10 => ?_) (fun c_10 => ?_)
        · refine lv_iload_n hx hb dX5_readMinutes_67 rfl (lv_at hl 3 rfl) ?_
          refine call_i [(h, .inr (5, [.ref h1, .ref h2, .ref h3, .int v.2.2.2.1, .int q4.2])), (h1, .inl (z.1, 40, .inl v.1)), (h2, .inl (z.1, 40, .inl v.2.1)), (h3, .inl (z.1, 40, .inl v.2.2.1)), (o, .inr (8, [.ref o1, .int v2.2])), (o1, .inl (z.2.1, 80, .inl v2.1))] (fun _ => [(h, .inr (5, [.ref h1, .ref h2, .ref h3, .int v.2.2.2.1, .int q4.2])), (h1, .inl (z.1, 40, .inl v.1)), (h2, .inl (z.1, 40, .inl v.2.1)), (h3, .inl (z.1, 40, .inl v.2.2.1)), (o, .inr (8, [.ref o1, .int v2.2])), (o1, .inl (z.2.1, 80, .inl v2.1))]) (rSN (As := [.int q4.1]) (rest := []) ⟨hx, hb, hml, hown, hts⟩ (c_X9_isFuelOnSale l D z q4.1 H.size) ⟨va_cnB 1 hts gX5_readMinutes_X9_isFuelOnSale_n68 rfl rfl rfl hE.1.2.2.2.2.2.2.2.2.2.2.2.2.2.2.2 (hts (.initialized RX9) (by decide +kernel)) (by decide +kernel) ⟨Nat.le_trans (by decide) hRf, Nat.le_trans (by decide) hRl⟩, hts (.static yX9_isFuelOnSale) (by decide +kernel), trivial⟩ e0_ok e_0 hK hP hD [] (by decide) rfl rfl hl.1 rfl (Nat.le_of_ble_eq_true rfl) dX5_readMinutes_68 ⟨Nat.zero_le _, Nat.zero_le _⟩) hK hP hD hS hA [] [0, 1, 2, 3, 4, 5] [0, 1, 2, 3, 4, 5] rfl rfl (by decide) (by decide) (by decide) (fun _ => rfl) (fun zr zu H locs hw hP hD hS => ?_)
          obtain ⟨hw, hz_11⟩ := hw
          subst hw
          have hP : va_P D vwCl [(h, .inr (5, [.ref h1, .ref h2, .ref h3, .int v.2.2.2.1, .int q4.2])), (h1, .inl (z.1, 40, .inl v.1)), (h2, .inl (z.1, 40, .inl v.2.1)), (h3, .inl (z.1, 40, .inl v.2.2.1)), (o, .inr (8, [.ref o1, .int v2.2])), (o1, .inl (z.2.1, 80, .inl v2.1))] H := hP
          have hD : va_D A [(h, .inr (5, [.ref h1, .ref h2, .ref h3, .int v.2.2.2.1, .int q4.2])), (h1, .inl (z.1, 40, .inl v.1)), (h2, .inl (z.1, 40, .inl v.2.1)), (h3, .inl (z.1, 40, .inl v.2.2.1)), (o, .inr (8, [.ref o1, .int v2.2])), (o1, .inl (z.2.1, 80, .inl v2.1))] := hD
          refine lv_if_eq (tgt := 78) hx hb dX5_readMinutes_71 (by decide) (fun c_12 => ?_) (fun c_12 => ?_)
          · refine lv_iconst (v := (-1)) hx hb dX5_readMinutes_78 (by decide) ?_
            subst hQ
            exact ret_i q4.2 hx hb hr hK hP hD hS rfl (by rw [hq4, wl_X5_readMinutes_4_s, (show st_X5_readMinutes_4 v v2 q4 = Sum.inr ((-1), q4.2) from by unfold st_X5_readMinutes_4; rw [if_neg c_7, if_pos c_10, if_pos c_12]; try rfl)]; try rfl) dX5_readMinutes_79 hlocks
          · refine lv_iload_n hx hb dX5_readMinutes_74 rfl (lv_at hl 3 rfl) ?_
            refine lv_goto (tgt := 79) hx hb dX5_readMinutes_75 (by decide) ?_
            subst hQ
            exact ret_i q4.2 hx hb hr hK hP hD hS rfl (by rw [hq4, wl_X5_readMinutes_4_s, (show st_X5_readMinutes_4 v v2 q4 = Sum.inr (q4.1, q4.2) from by unfold st_X5_readMinutes_4; rw [if_neg c_7, if_pos c_10, if_neg c_12]; try rfl)]; try rfl) dX5_readMinutes_79 hlocks
        · refine lv_iload hx hb dX5_readMinutes_37 (lv_at hl 0 rfl) ?_
          refine lv_sipush (v := 500) hx hb dX5_readMinutes_39 (by decide) ?_
          refine lv_icmp_le (tgt := 48) hx hb dX5_readMinutes_42 (by decide) (fun c_13 => ?_) (fun c_13 => ?_)
          · refine lv_iload hx hb dX5_readMinutes_48 (lv_at hl 0 rfl) ?_
            refine lv_istore_n (lv' := [(2, .int ((q4.1 * 10) + (f_X5_digitAt (v.1, v.2.1, v.2.2.1, v.2.2.2.1, q4.2) v2))), (5, .int ((q4.1 * 10) + (f_X5_digitAt (v.1, v.2.1, v.2.2.1, v.2.2.2.1, q4.2) v2))), (4, .int (f_X5_digitAt (v.1, v.2.1, v.2.2.1, v.2.2.2.1, q4.2) v2)), (3, .int (nI (80 - (n4 + 1)))), (0, .ref h), (1, .ref o)]) hx hb dX5_readMinutes_50 rfl hl (by decide) rfl (fun ls hl => ?_)
            refine lv_aload_n hx hb dX5_readMinutes_51 rfl (lv_at hl 4 rfl) ?_
            refine lv_dup hx hb dX5_readMinutes_52 rfl ?_
            refine va_get (D := D) (ci := 5) (v := .int q4.2) (C := RX5) (T := TX5) (N := 5) hx hb hts iX5_readMinutes_X5 hown hK hP 0 rfl rfl 4 (by decide) (hts (.fieldLink RX5 25 "BarnPictures$Route" "at" "I") (by decide +kernel)) (fun _ h9 => h9) rfl dX5_readMinutes_53 ?_
            refine lv_iconst (v := 1) hx hb dX5_readMinutes_56 (by decide) ?_
            refine lv_iadd hx hb dX5_readMinutes_57 ?_
            refine va_put (D := D) (ci := 5) (v := .int (q4.2 + 1)) (ty := .int) (C := RX5) (T := TX5) (N := 5) hx hb hts iX5_readMinutes_X5 tyX5 tyX5_ok nmX5 hown hK hP hD hS 0 rfl rfl 4 (by decide) (hts (.fieldLink RX5 25 "BarnPictures$Route" "at" "I") (by decide +kernel)) (fun _ h9 => h9) rfl (by decide +kernel) rfl rfl (Nat.le_of_ble_eq_true rfl) dX5_readMinutes_58 (fun H locs hP hD hS => ?_)
            have hP : va_P D vwCl [(h, .inr (5, [.ref h1, .ref h2, .ref h3, .int v.2.2.2.1, .int (q4.2 + 1)])), (h1, .inl (z.1, 40, .inl v.1)), (h2, .inl (z.1, 40, .inl v.2.1)), (h3, .inl (z.1, 40, .inl v.2.2.1)), (o, .inr (8, [.ref o1, .int v2.2])), (o1, .inl (z.2.1, 80, .inl v2.1))] H := hP
            have hD : va_D A [(h, .inr (5, [.ref h1, .ref h2, .ref h3, .int v.2.2.2.1, .int (q4.2 + 1)])), (h1, .inl (z.1, 40, .inl v.1)), (h2, .inl (z.1, 40, .inl v.2.1)), (h3, .inl (z.1, 40, .inl v.2.2.1)), (o, .inr (8, [.ref o1, .int v2.2])), (o1, .inl (z.2.1, 80, .inl v2.1))] := hD
            refine lv_iinc (v := nI ((80 - (n4 + 1)) + 1)) (lv' := [(3, .int (nI ((80 - (n4 + 1)) + 1))), (2, .int ((q4.1 * 10) + (f_X5_digitAt (v.1, v.2.1, v.2.2.1, v.2.2.2.1, q4.2) v2))), (5, .int ((q4.1 * 10) + (f_X5_digitAt (v.1, v.2.1, v.2.2.1, v.2.2.2.1, q4.2) v2))), (4, .int (f_X5_digitAt (v.1, v.2.1, v.2.2.1, v.2.2.2.1, q4.2) v2)), (0, .ref h), (1, .ref o)]) hx hb dX5_readMinutes_61 hl (k := 3) rfl (nI_add (80 - (n4 + 1)) 1) (by decide) rfl (fun ls hl => ?_)
            refine lv_goto (tgt := 4) hx hb dX5_readMinutes_64 (by decide) ?_
            rw [show ((80 - (n4 + 1)) + 1) = (80 - n4) from by omega] at hl
            exact ih4 (((q4.1 * 10) + (f_X5_digitAt (v.1, v.2.1, v.2.2.1, v.2.2.2.1, q4.2) v2)), (q4.2 + 1)) (by rw [hq4, wl_X5_readMinutes_4_s, (show st_X5_readMinutes_4 v v2 q4 = Sum.inl (((q4.1 * 10) + (f_X5_digitAt (v.1, v.2.1, v.2.2.1, v.2.2.2.1, q4.2) v2)), (q4.2 + 1)) from by unfold st_X5_readMinutes_4; rw [if_neg c_7, if_neg c_10, if_pos c_13]; try rfl)]; try rfl) (by omega) _ _ _ hP hD hS (lv_sub hl [0, 1, 4, 5] rfl)
          · refine lv_goto (tgt := 67) hx hb dX5_readMinutes_45 (by decide) ?_
            refine lv_iload_n hx hb dX5_readMinutes_67 rfl (lv_at hl 3 rfl) ?_
            refine call_i [(h, .inr (5, [.ref h1, .ref h2, .ref h3, .int v.2.2.2.1, .int q4.2])), (h1, .inl (z.1, 40, .inl v.1)), (h2, .inl (z.1, 40, .inl v.2.1)), (h3, .inl (z.1, 40, .inl v.2.2.1)), (o, .inr (8, [.ref o1, .int v2.2])), (o1, .inl (z.2.1, 80, .inl v2.1))] (fun _ => [(h, .inr (5, [.ref h1, .ref h2, .ref h3, .int v.2.2.2.1, .int q4.2])), (h1, .inl (z.1, 40, .inl v.1)), (h2, .inl (z.1, 40, .inl v.2.1)), (h3, .inl (z.1, 40, .inl v.2.2.1)), (o, .inr (8, [.ref o1, .int v2.2])), (o1, .inl (z.2.1, 80, .inl v2.1))]) (rSN (As := [.int q4.1]) (rest := []) ⟨hx, hb, hml, hown, hts⟩ (c_X9_isFuelOnSale l D z q4.1 H.size) ⟨va_cnB 1 hts gX5_readMinutes_X9_isFuelOnSale_n68 rfl rfl rfl hE.1.2.2.2.2.2.2.2.2.2.2.2.2.2.2.2 (hts (.initialized RX9) (by decide +kernel)) (by decide +kernel) ⟨Nat.le_trans (by decide) hRf, Nat.le_trans (by decide) hRl⟩, hts (.static yX9_isFuelOnSale) (by decide +kernel), trivial⟩ e0_ok e_0 hK hP hD [] (by decide) rfl rfl hl.1 rfl (Nat.le_of_ble_eq_true rfl) dX5_readMinutes_68 ⟨Nat.zero_le _, Nat.zero_le _⟩) hK hP hD hS hA [] [0, 1, 2, 3, 4, 5] [0, 1, 2, 3, 4, 5] rfl rfl (by decide) (by decide) (by decide) (fun _ => rfl) (fun zr zu H locs hw hP hD hS => ?_)
            obtain ⟨hw, hz_14⟩ := hw
            subst hw
            have hP : va_P D vwCl [(h, .inr (5, [.ref h1, .ref h2, .ref h3, .int v.2.2.2.1, .int q4.2])), (h1, .inl (z.1, 40, .inl v.1)), (h2, .inl (z.1, 40, .inl v.2.1)), (h3, .inl (z.1, 40, .inl v.2.2.1)), (o, .inr (8, [.ref o1, .int v2.2])), (o1, .inl (z.2.1, 80, .inl v2.1))] H := hP
            have hD : va_D A [(h, .inr (5, [.ref h1, .ref h2, .ref h3, .int v.2.2.2.1, .int q4.2])), (h1, .inl (z.1, 40, .inl v.1)), (h2, .inl (z.1, 40, .inl v.2.1)), (h3, .inl (z.1, 40, .inl v.2.2.1)), (o, .inr (8, [.ref o1, .int v2.2])), (o1, .inl (z.2.1, 80, .inl v2.1))] := hD
            refine lv_if_eq (tgt := 78) hx hb dX5_readMinutes_71 (by decide) (fun c_15 => ?_) (fun c_15 => ?_)
            · refine lv_iconst (v := (-1)) hx hb dX5_readMinutes_78 (by decide) ?_
              subst hQ
              exact ret_i q4.2 hx hb hr hK hP hD hS rfl (by rw [hq4, wl_X5_readMinutes_4_s, (show st_X5_readMinutes_4 v v2 q4 = Sum.inr ((-1), q4.2) from by unfold st_X5_readMinutes_4; rw [if_neg c_7, if_neg c_10, if_neg c_13, if_pos c_15]; try rfl)]; try rfl) dX5_readMinutes_79 hlocks
            · refine lv_iload_n hx hb dX5_readMinutes_74 rfl (lv_at hl 3 rfl) ?_
              refine lv_goto (tgt := 79) hx hb dX5_readMinutes_75 (by decide) ?_
              subst hQ
              exact ret_i q4.2 hx hb hr hK hP hD hS rfl (by rw [hq4, wl_X5_readMinutes_4_s, (show st_X5_readMinutes_4 v v2 q4 = Sum.inr (q4.1, q4.2) from by unfold st_X5_readMinutes_4; rw [if_neg c_7, if_neg c_10, if_neg c_13, if_neg c_15]; try rfl)]; try rfl) dX5_readMinutes_79 hlocks
  exact L4 80 (0, v.2.2.2.2) (by unfold f_X5_readMinutes; try rfl) (Nat.le_refl _) _ _ _ hP hD hS (lv_sub hl [0, 1, 2, 3] rfl)

theorem iX5_readsWithThing_X5 : ∀ w ∈ wsX50, w ∈ wsX5_readsWithThing := by decide +kernel
def f_X5_readsWithThing_q46 (v : OV) (v2 : TV) (x : Int32) (y : Int32) (q46 : Int32 × (Nat → Int32) × (Nat → Int32) × (Nat → Int32) × Int32) : Int32 × OV := (q46.1, (q46.2.1, q46.2.2.1, q46.2.2.2.1, q46.2.2.2.2, ((v.2.2.2.2 + 1) + 1)))
def f_X5_readsWithThing (v : OV) (v2 : TV) (x : Int32) (y : Int32) : Int32 × OV := if (f_X5_digitAt (v.1, v.2.1, v.2.2.1, v.2.2.2.1, (v.2.2.2.2 + 1)) v2) = (-1) then (0, (v.1, v.2.1, v.2.2.1, v.2.2.2.1, (v.2.2.2.2 + 1))) else if (f_X5_digitAt (v.1, v.2.1, v.2.2.1, v.2.2.2.1, (v.2.2.2.2 + 1)) v2) < y then f_X5_readsWithThing_q46 v v2 x y (f_X5_adds (v.1, v.2.1, v.2.2.1, v.2.2.2.1, ((v.2.2.2.2 + 1) + 1)) x (f_X5_digitAt (v.1, v.2.1, v.2.2.1, v.2.2.2.1, (v.2.2.2.2 + 1)) v2) 0) else (0, (v.1, v.2.1, v.2.2.1, v.2.2.2.1, (v.2.2.2.2 + 1)))
set_option maxRecDepth 100000 in
set_option maxHeartbeats 1000000 in
theorem c_X5_readsWithThing (l : Launch) (D : va_G) (z : ClassId × ClassId × ClassId) (h h1 h2 h3 : Nat) (o o1 : Nat) (v : OV) (v2 : TV) (x : Int32) (y : Int32) (hT : v2.2.toInt ≤ 80) (hZ : ¬ v.2.2.2.1 < 0) (sz : Nat) : CI l yX5_readsWithThing wsX5_readsWithThing 2 43 0 0 [.ref h, .ref o, .int x, .int y] D z (wX5 z h h1 h2 h3 v ++ wX8 z o o1 v2) sz (E0) (fun (zr : Int32) (zu : OV) => (zr, zu) = f_X5_readsWithThing v v2 x y ∧ (zr = 0 ∨ zr = 1)) (fun zu => wX5 z h h1 h2 h3 zu ++ wX8 z o o1 v2) := by
  refine met_i cX5_readsWithThing 5 (some .boolean) (by decide) rfl (Nat.le_of_ble_eq_true rfl) ?_
  intro p e s m args below meth c R Q hx hb hr hml hts hown hlocks hin hRf hRl hRc hRs hc0 hs0 A H hA hP hK hD hS hE hQ ls hl
  have hl : lv_has ls 5 [(0, .ref h), (1, .ref o), (2, .int x), (3, .int y)] := hl
  have hP : va_P D vwCl [(h, .inr (5, [.ref h1, .ref h2, .ref h3, .int v.2.2.2.1, .int v.2.2.2.2])), (h1, .inl (z.1, 40, .inl v.1)), (h2, .inl (z.1, 40, .inl v.2.1)), (h3, .inl (z.1, 40, .inl v.2.2.1)), (o, .inr (8, [.ref o1, .int v2.2])), (o1, .inl (z.2.1, 80, .inl v2.1))] H := hP
  have hD : va_D A [(h, .inr (5, [.ref h1, .ref h2, .ref h3, .int v.2.2.2.1, .int v.2.2.2.2])), (h1, .inl (z.1, 40, .inl v.1)), (h2, .inl (z.1, 40, .inl v.2.1)), (h3, .inl (z.1, 40, .inl v.2.2.1)), (o, .inr (8, [.ref o1, .int v2.2])), (o1, .inl (z.2.1, 80, .inl v2.1))] := hD
  have hown : s.vm.findClass RX5 = some m.cls := hown
  refine lv_aload_n hx hb dX5_readsWithThing_0 rfl (lv_at hl 0 rfl) ?_
  refine lv_dup hx hb dX5_readsWithThing_1 rfl ?_
  refine va_get (D := D) (ci := 5) (v := .int v.2.2.2.2) (C := RX5) (T := TX5) (N := 5) hx hb hts iX5_readsWithThing_X5 hown hK hP 0 rfl rfl 4 (by decide) (hts (.fieldLink RX5 25 "BarnPictures$Route" "at" "I") (by decide +kernel)) (fun _ h9 => h9) rfl dX5_readsWithThing_2 ?_
  refine lv_iconst (v := 1) hx hb dX5_readsWithThing_5 (by decide) ?_
  refine lv_iadd hx hb dX5_readsWithThing_6 ?_
  refine va_put (D := D) (ci := 5) (v := .int (v.2.2.2.2 + 1)) (ty := .int) (C := RX5) (T := TX5) (N := 5) hx hb hts iX5_readsWithThing_X5 tyX5 tyX5_ok nmX5 hown hK hP hD hS 0 rfl rfl 4 (by decide) (hts (.fieldLink RX5 25 "BarnPictures$Route" "at" "I") (by decide +kernel)) (fun _ h9 => h9) rfl (by decide +kernel) rfl rfl (Nat.le_of_ble_eq_true rfl) dX5_readsWithThing_7 (fun H locs hP hD hS => ?_)
  have hP : va_P D vwCl [(h, .inr (5, [.ref h1, .ref h2, .ref h3, .int v.2.2.2.1, .int (v.2.2.2.2 + 1)])), (h1, .inl (z.1, 40, .inl v.1)), (h2, .inl (z.1, 40, .inl v.2.1)), (h3, .inl (z.1, 40, .inl v.2.2.1)), (o, .inr (8, [.ref o1, .int v2.2])), (o1, .inl (z.2.1, 80, .inl v2.1))] H := hP
  have hD : va_D A [(h, .inr (5, [.ref h1, .ref h2, .ref h3, .int v.2.2.2.1, .int (v.2.2.2.2 + 1)])), (h1, .inl (z.1, 40, .inl v.1)), (h2, .inl (z.1, 40, .inl v.2.1)), (h3, .inl (z.1, 40, .inl v.2.2.1)), (o, .inr (8, [.ref o1, .int v2.2])), (o1, .inl (z.2.1, 80, .inl v2.1))] := hD
  refine lv_aload_n hx hb dX5_readsWithThing_10 rfl (lv_at hl 0 rfl) ?_
  refine lv_aload_n hx hb dX5_readsWithThing_11 rfl (lv_at hl 1 rfl) ?_
  refine call_i [] (fun _ => [(h, .inr (5, [.ref h1, .ref h2, .ref h3, .int v.2.2.2.1, .int (v.2.2.2.2 + 1)])), (h1, .inl (z.1, 40, .inl v.1)), (h2, .inl (z.1, 40, .inl v.2.1)), (h3, .inl (z.1, 40, .inl v.2.2.1)), (o, .inr (8, [.ref o1, .int v2.2])), (o1, .inl (z.2.1, 80, .inl v2.1))]) (rV (As := [.ref o]) (rest := []) ⟨hx, hb, hml, hown, hts⟩ (c_X5_digitAt l D z h h1 h2 h3 o o1 (v.1, v.2.1, v.2.2.1, v.2.2.2.1, (v.2.2.2.2 + 1)) v2 (by assumption) H.size) (cwV 1 hts gX5_readsWithThing_X5_digitAt rfl rfl rfl (by decide +kernel) ⟨Nat.le_trans (by decide) hRf, Nat.le_trans (by decide) hRl⟩) e0_ok e_0 hK hP hD [0, 1, 2, 3, 4, 5] (by decide) rfl (va_recv hK hP (ci := 5) (q0 := 0) rfl rfl) rfl hl.1 rfl (Nat.le_of_ble_eq_true rfl) dX5_readsWithThing_12 ⟨Nat.zero_le _, Nat.zero_le _⟩) hK hP hD hS hA [0, 1, 2, 3, 4, 5] [] [0, 1, 2, 3, 4, 5] rfl rfl (by decide) (by decide) (by decide) (fun _ => rfl) (fun zr zu H locs hw hP hD hS => ?_)
  subst hw
  have hP : va_P D vwCl [(h, .inr (5, [.ref h1, .ref h2, .ref h3, .int v.2.2.2.1, .int (v.2.2.2.2 + 1)])), (h1, .inl (z.1, 40, .inl v.1)), (h2, .inl (z.1, 40, .inl v.2.1)), (h3, .inl (z.1, 40, .inl v.2.2.1)), (o, .inr (8, [.ref o1, .int v2.2])), (o1, .inl (z.2.1, 80, .inl v2.1))] H := hP
  have hD : va_D A [(h, .inr (5, [.ref h1, .ref h2, .ref h3, .int v.2.2.2.1, .int (v.2.2.2.2 + 1)])), (h1, .inl (z.1, 40, .inl v.1)), (h2, .inl (z.1, 40, .inl v.2.1)), (h3, .inl (z.1, 40, .inl v.2.2.1)), (o, .inr (8, [.ref o1, .int v2.2])), (o1, .inl (z.2.1, 80, .inl v2.1))] := hD
  refine lv_istore (lv' := [(4, .int (f_X5_digitAt (v.1, v.2.1, v.2.2.1, v.2.2.2.1, (v.2.2.2.2 + 1)) v2)), (0, .ref h), (1, .ref o), (2, .int x), (3, .int y)]) hx hb dX5_readsWithThing_15 hl (by decide) rfl (fun ls hl => ?_)
  refine lv_iload hx hb dX5_readsWithThing_17 (lv_at hl 0 rfl) ?_
  refine lv_iconst (v := (-1)) hx hb dX5_readsWithThing_19 (by decide) ?_
  refine lv_icmp_eq (tgt := 29) hx hb dX5_readsWithThing_20 (by decide) (fun c_1 => ?_) (fun c_1 => ?_)
  · refine lv_iconst (v := 0) hx hb dX5_readsWithThing_29 (by decide) ?_
    subst hQ
    exact ret_z (v.1, v.2.1, v.2.2.1, v.2.2.2.1, (v.2.2.2.2 + 1)) hx hb hr rfl hK hP hD hS rfl ⟨(by unfold f_X5_readsWithThing; rw [if_pos c_1]; try rfl), (Or.inl rfl)⟩ dX5_readsWithThing_30 hlocks
  · refine lv_iload hx hb dX5_readsWithThing_23 (lv_at hl 0 rfl) ?_
    refine lv_iload_n hx hb dX5_readsWithThing_25 rfl (lv_at hl 4 rfl) ?_
    refine lv_icmp_lt (tgt := 31) hx hb dX5_readsWithThing_26 (by decide) (fun c_2 => ?_) (fun c_2 => ?_)
    · refine lv_aload_n hx hb dX5_readsWithThing_31 rfl (lv_at hl 1 rfl) ?_
      refine lv_dup hx hb dX5_readsWithThing_32 rfl ?_
      refine va_get (D := D) (ci := 5) (v := .int (v.2.2.2.2 + 1)) (C := RX5) (T := TX5) (N := 5) hx hb hts iX5_readsWithThing_X5 hown hK hP 0 rfl rfl 4 (by decide) (hts (.fieldLink RX5 25 "BarnPictures$Route" "at" "I") (by decide +kernel)) (fun _ h9 => h9) rfl dX5_readsWithThing_33 ?_
      refine lv_iconst (v := 1) hx hb dX5_readsWithThing_36 (by decide) ?_
      refine lv_iadd hx hb dX5_readsWithThing_37 ?_
      refine va_put (D := D) (ci := 5) (v := .int ((v.2.2.2.2 + 1) + 1)) (ty := .int) (C := RX5) (T := TX5) (N := 5) hx hb hts iX5_readsWithThing_X5 tyX5 tyX5_ok nmX5 hown hK hP hD hS 0 rfl rfl 4 (by decide) (hts (.fieldLink RX5 25 "BarnPictures$Route" "at" "I") (by decide +kernel)) (fun _ h9 => h9) rfl (by decide +kernel) rfl rfl (Nat.le_of_ble_eq_true rfl) dX5_readsWithThing_38 (fun H locs hP hD hS => ?_)
      have hP : va_P D vwCl [(h, .inr (5, [.ref h1, .ref h2, .ref h3, .int v.2.2.2.1, .int ((v.2.2.2.2 + 1) + 1)])), (h1, .inl (z.1, 40, .inl v.1)), (h2, .inl (z.1, 40, .inl v.2.1)), (h3, .inl (z.1, 40, .inl v.2.2.1)), (o, .inr (8, [.ref o1, .int v2.2])), (o1, .inl (z.2.1, 80, .inl v2.1))] H := hP
      have hD : va_D A [(h, .inr (5, [.ref h1, .ref h2, .ref h3, .int v.2.2.2.1, .int ((v.2.2.2.2 + 1) + 1)])), (h1, .inl (z.1, 40, .inl v.1)), (h2, .inl (z.1, 40, .inl v.2.1)), (h3, .inl (z.1, 40, .inl v.2.2.1)), (o, .inr (8, [.ref o1, .int v2.2])), (o1, .inl (z.2.1, 80, .inl v2.1))] := hD
      refine lv_aload_n hx hb dX5_readsWithThing_41 rfl (lv_at hl 1 rfl) ?_
      refine lv_iload_n hx hb dX5_readsWithThing_42 rfl (lv_at hl 3 rfl) ?_
      refine lv_iload hx hb dX5_readsWithThing_43 (lv_at hl 0 rfl) ?_
      refine lv_iconst (v := 0) hx hb dX5_readsWithThing_45 (by decide) ?_
      refine call_i [(o, .inr (8, [.ref o1, .int v2.2])), (o1, .inl (z.2.1, 80, .inl v2.1))] (fun zu => [(h, .inr (5, [.ref h1, .ref h2, .ref h3, .int zu.2.2.2, .int ((v.2.2.2.2 + 1) + 1)])), (h1, .inl (z.1, 40, .inl zu.1)), (h2, .inl (z.1, 40, .inl zu.2.1)), (h3, .inl (z.1, 40, .inl zu.2.2.1)), (o, .inr (8, [.ref o1, .int v2.2])), (o1, .inl (z.2.1, 80, .inl v2.1))]) (rV (As := [.int x, .int (f_X5_digitAt (v.1, v.2.1, v.2.2.1, v.2.2.2.1, (v.2.2.2.2 + 1)) v2), .int 0]) (rest := []) ⟨hx, hb, hml, hown, hts⟩ (c_X5_adds l D z h h1 h2 h3 (v.1, v.2.1, v.2.2.1, v.2.2.2.1, ((v.2.2.2.2 + 1) + 1)) x (f_X5_digitAt (v.1, v.2.1, v.2.2.1, v.2.2.2.1, (v.2.2.2.2 + 1)) v2) 0 (by assumption) H.size) (cwV 3 hts gX5_readsWithThing_X5_adds rfl rfl rfl (by decide +kernel) ⟨Nat.le_trans (by decide) hRf, Nat.le_trans (by decide) hRl⟩) e0_ok e_0 hK hP hD [0, 1, 2, 3] (by decide) rfl (va_recv hK hP (ci := 5) (q0 := 0) rfl rfl) rfl hl.1 rfl (Nat.le_of_ble_eq_true rfl) dX5_readsWithThing_46 ⟨Nat.zero_le _, Nat.zero_le _⟩) hK hP hD hS hA [0, 1, 2, 3] [4, 5] [2, 3, 4, 5, 0, 1] rfl rfl (by decide) (by decide) (by decide) (fun _ => rfl) (fun zr zu H locs hw hP hD hS => ?_)
      obtain ⟨hw, hz_3⟩ := hw
      obtain ⟨q46, hq46⟩ : ∃ q9, q9 = (f_X5_adds (v.1, v.2.1, v.2.2.1, v.2.2.2.1, ((v.2.2.2.2 + 1) + 1)) x (f_X5_digitAt (v.1, v.2.1, v.2.2.1, v.2.2.2.1, (v.2.2.2.2 + 1)) v2) 0) := ⟨_, rfl⟩
      rw [← hq46] at hw
      obtain ⟨rfl, rfl⟩ := pe hw
      have hP : va_P D vwCl [(h, .inr (5, [.ref h1, .ref h2, .ref h3, .int q46.2.2.2.2, .int ((v.2.2.2.2 + 1) + 1)])), (h1, .inl (z.1, 40, .inl q46.2.1)), (h2, .inl (z.1, 40, .inl q46.2.2.1)), (h3, .inl (z.1, 40, .inl q46.2.2.2.1)), (o, .inr (8, [.ref o1, .int v2.2])), (o1, .inl (z.2.1, 80, .inl v2.1))] H := hP
      have hD : va_D A [(h, .inr (5, [.ref h1, .ref h2, .ref h3, .int q46.2.2.2.2, .int ((v.2.2.2.2 + 1) + 1)])), (h1, .inl (z.1, 40, .inl q46.2.1)), (h2, .inl (z.1, 40, .inl q46.2.2.1)), (h3, .inl (z.1, 40, .inl q46.2.2.2.1)), (o, .inr (8, [.ref o1, .int v2.2])), (o1, .inl (z.2.1, 80, .inl v2.1))] := hD
      subst hQ
      exact ret_z (q46.2.1, q46.2.2.1, q46.2.2.2.1, q46.2.2.2.2, ((v.2.2.2.2 + 1) + 1)) hx hb hr (bz hz_3) hK hP hD hS rfl ⟨(by unfold f_X5_readsWithThing; rw [if_neg c_1, if_pos c_2, ← hq46]; unfold f_X5_readsWithThing_q46; try rfl), hz_3⟩ dX5_readsWithThing_49 hlocks
    · refine lv_iconst (v := 0) hx hb dX5_readsWithThing_29 (by decide) ?_
      subst hQ
      exact ret_z (v.1, v.2.1, v.2.2.1, v.2.2.2.1, (v.2.2.2.2 + 1)) hx hb hr rfl hK hP hD hS rfl ⟨(by unfold f_X5_readsWithThing; rw [if_neg c_1, if_neg c_2]; try rfl), (Or.inl rfl)⟩ dX5_readsWithThing_30 hlocks

theorem iX5_readsFuel_X5 : ∀ w ∈ wsX50, w ∈ wsX5_readsFuel := by decide +kernel
def f_X5_readsFuel_q63 (v : OV) (v2 : TV) (q17 : Int32) (q39 : Int32 × Int32) (q49 : Int32 × Int32) (q63 : Int32 × (Nat → Int32) × (Nat → Int32) × (Nat → Int32) × Int32) : Int32 × OV := if q63.1 = 0 then (0, (q63.2.1, q63.2.2.1, q63.2.2.2.1, q63.2.2.2.2, q49.2)) else (1, (q63.2.1, q63.2.2.1, q63.2.2.2.1, q63.2.2.2.2, q49.2))
def f_X5_readsFuel_q49 (v : OV) (v2 : TV) (q17 : Int32) (q39 : Int32 × Int32) (q49 : Int32 × Int32) : Int32 × OV := if q49.1 = (-1) then (0, (v.1, v.2.1, v.2.2.1, v.2.2.2.1, q49.2)) else f_X5_readsFuel_q63 v v2 q17 q39 q49 (f_X5_adds (v.1, v.2.1, v.2.2.1, v.2.2.2.1, q49.2) 102 (f_X5_digitAt (v.1, v.2.1, v.2.2.1, v.2.2.2.1, (v.2.2.2.2 + 1)) v2) q49.1)
def f_X5_readsFuel_q39 (v : OV) (v2 : TV) (q17 : Int32) (q39 : Int32 × Int32) : Int32 × OV := if q39.1 = 0 then (0, (v.1, v.2.1, v.2.2.1, v.2.2.2.1, q39.2)) else f_X5_readsFuel_q49 v v2 q17 q39 (f_X5_readMinutes (v.1, v.2.1, v.2.2.1, v.2.2.2.1, q39.2) v2)
def f_X5_readsFuel_q17 (v : OV) (v2 : TV) (q17 : Int32) : Int32 × OV := if q17 = 0 then (0, (v.1, v.2.1, v.2.2.1, v.2.2.2.1, (v.2.2.2.2 + 1))) else f_X5_readsFuel_q39 v v2 q17 (f_X5_readsSign (v.1, v.2.1, v.2.2.1, v.2.2.2.1, ((v.2.2.2.2 + 1) + 1)) v2 58)
def f_X5_readsFuel (v : OV) (v2 : TV) : Int32 × OV := f_X5_readsFuel_q17 v v2 (f_X9_isGenerator (f_X5_digitAt (v.1, v.2.1, v.2.2.1, v.2.2.2.1, (v.2.2.2.2 + 1)) v2))
set_option maxRecDepth 100000 in
set_option maxHeartbeats 1000000 in
theorem c_X5_readsFuel (l : Launch) (D : va_G) (z : ClassId × ClassId × ClassId) (tM tS : Nat) (h h1 h2 h3 : Nat) (o o1 : Nat) (v : OV) (v2 : TV) (hT : v2.2.toInt ≤ 80) (hZ : ¬ v.2.2.2.1 < 0) (sz : Nat) : CI l yX5_readsFuel wsX5_readsFuel 3 68 0 0 [.ref h, .ref o] D z (wX5 z h h1 h2 h3 v ++ wX8 z o o1 v2) sz (EV tM tS) (fun (zr : Int32) (zu : OV) => (zr, zu) = f_X5_readsFuel v v2 ∧ (zr = 0 ∨ zr = 1)) (fun zu => wX5 z h h1 h2 h3 zu ++ wX8 z o o1 v2) := by
  refine met_i cX5_readsFuel 4 (some .boolean) (by decide) rfl (Nat.le_of_ble_eq_true rfl) ?_
  intro p e s m args below meth c R Q hx hb hr hml hts hown hlocks hin hRf hRl hRc hRs hc0 hs0 A H hA hP hK hD hS hE hQ ls hl
  have hl : lv_has ls 4 [(0, .ref h), (1, .ref o)] := hl
  have hP : va_P D vwCl [(h, .inr (5, [.ref h1, .ref h2, .ref h3, .int v.2.2.2.1, .int v.2.2.2.2])), (h1, .inl (z.1, 40, .inl v.1)), (h2, .inl (z.1, 40, .inl v.2.1)), (h3, .inl (z.1, 40, .inl v.2.2.1)), (o, .inr (8, [.ref o1, .int v2.2])), (o1, .inl (z.2.1, 80, .inl v2.1))] H := hP
  have hD : va_D A [(h, .inr (5, [.ref h1, .ref h2, .ref h3, .int v.2.2.2.1, .int v.2.2.2.2])), (h1, .inl (z.1, 40, .inl v.1)), (h2, .inl (z.1, 40, .inl v.2.1)), (h3, .inl (z.1, 40, .inl v.2.2.1)), (o, .inr (8, [.ref o1, .int v2.2])), (o1, .inl (z.2.1, 80, .inl v2.1))] := hD
  have hown : s.vm.findClass RX5 = some m.cls := hown
  refine lv_aload_n hx hb dX5_readsFuel_0 rfl (lv_at hl 0 rfl) ?_
  refine lv_dup hx hb dX5_readsFuel_1 rfl ?_
  refine va_get (D := D) (ci := 5) (v := .int v.2.2.2.2) (C := RX5) (T := TX5) (N := 5) hx hb hts iX5_readsFuel_X5 hown hK hP 0 rfl rfl 4 (by decide) (hts (.fieldLink RX5 25 "BarnPictures$Route" "at" "I") (by decide +kernel)) (fun _ h9 => h9) rfl dX5_readsFuel_2 ?_
  refine lv_iconst (v := 1) hx hb dX5_readsFuel_5 (by decide) ?_
  refine lv_iadd hx hb dX5_readsFuel_6 ?_
  refine va_put (D := D) (ci := 5) (v := .int (v.2.2.2.2 + 1)) (ty := .int) (C := RX5) (T := TX5) (N := 5) hx hb hts iX5_readsFuel_X5 tyX5 tyX5_ok nmX5 hown hK hP hD hS 0 rfl rfl 4 (by decide) (hts (.fieldLink RX5 25 "BarnPictures$Route" "at" "I") (by decide +kernel)) (fun _ h9 => h9) rfl (by decide +kernel) rfl rfl (Nat.le_of_ble_eq_true rfl) dX5_readsFuel_7 (fun H locs hP hD hS => ?_)
  have hP : va_P D vwCl [(h, .inr (5, [.ref h1, .ref h2, .ref h3, .int v.2.2.2.1, .int (v.2.2.2.2 + 1)])), (h1, .inl (z.1, 40, .inl v.1)), (h2, .inl (z.1, 40, .inl v.2.1)), (h3, .inl (z.1, 40, .inl v.2.2.1)), (o, .inr (8, [.ref o1, .int v2.2])), (o1, .inl (z.2.1, 80, .inl v2.1))] H := hP
  have hD : va_D A [(h, .inr (5, [.ref h1, .ref h2, .ref h3, .int v.2.2.2.1, .int (v.2.2.2.2 + 1)])), (h1, .inl (z.1, 40, .inl v.1)), (h2, .inl (z.1, 40, .inl v.2.1)), (h3, .inl (z.1, 40, .inl v.2.2.1)), (o, .inr (8, [.ref o1, .int v2.2])), (o1, .inl (z.2.1, 80, .inl v2.1))] := hD
  refine lv_aload_n hx hb dX5_readsFuel_10 rfl (lv_at hl 0 rfl) ?_
  refine lv_aload_n hx hb dX5_readsFuel_11 rfl (lv_at hl 1 rfl) ?_
  refine call_i [] (fun _ => [(h, .inr (5, [.ref h1, .ref h2, .ref h3, .int v.2.2.2.1, .int (v.2.2.2.2 + 1)])), (h1, .inl (z.1, 40, .inl v.1)), (h2, .inl (z.1, 40, .inl v.2.1)), (h3, .inl (z.1, 40, .inl v.2.2.1)), (o, .inr (8, [.ref o1, .int v2.2])), (o1, .inl (z.2.1, 80, .inl v2.1))]) (rV (As := [.ref o]) (rest := []) ⟨hx, hb, hml, hown, hts⟩ (c_X5_digitAt l D z h h1 h2 h3 o o1 (v.1, v.2.1, v.2.2.1, v.2.2.2.1, (v.2.2.2.2 + 1)) v2 (by assumption) H.size) (cwV 1 hts gX5_readsFuel_X5_digitAt rfl rfl rfl (by decide +kernel) ⟨Nat.le_trans (by decide) hRf, Nat.le_trans (by decide) hRl⟩) e0_ok e_0 hK hP hD [0, 1, 2, 3, 4, 5] (by decide) rfl (va_recv hK hP (ci := 5) (q0 := 0) rfl rfl) rfl hl.1 rfl (Nat.le_of_ble_eq_true rfl) dX5_readsFuel_12 ⟨Nat.zero_le _, Nat.zero_le _⟩) hK hP hD hS hA [0, 1, 2, 3, 4, 5] [] [0, 1, 2, 3, 4, 5] rfl rfl (by decide) (by decide) (by decide) (fun _ => rfl) (fun zr zu H locs hw hP hD hS => ?_)
  subst hw
  have hP : va_P D vwCl [(h, .inr (5, [.ref h1, .ref h2, .ref h3, .int v.2.2.2.1, .int (v.2.2.2.2 + 1)])), (h1, .inl (z.1, 40, .inl v.1)), (h2, .inl (z.1, 40, .inl v.2.1)), (h3, .inl (z.1, 40, .inl v.2.2.1)), (o, .inr (8, [.ref o1, .int v2.2])), (o1, .inl (z.2.1, 80, .inl v2.1))] H := hP
  have hD : va_D A [(h, .inr (5, [.ref h1, .ref h2, .ref h3, .int v.2.2.2.1, .int (v.2.2.2.2 + 1)])), (h1, .inl (z.1, 40, .inl v.1)), (h2, .inl (z.1, 40, .inl v.2.1)), (h3, .inl (z.1, 40, .inl v.2.2.1)), (o, .inr (8, [.ref o1, .int v2.2])), (o1, .inl (z.2.1, 80, .inl v2.1))] := hD
  refine lv_istore_n (lv' := [(2, .int (f_X5_digitAt (v.1, v.2.1, v.2.2.1, v.2.2.2.1, (v.2.2.2.2 + 1)) v2)), (0, .ref h), (1, .ref o)]) hx hb dX5_readsFuel_15 rfl hl (by decide) rfl (fun ls hl => ?_)
  refine lv_iload_n hx hb dX5_readsFuel_16 rfl (lv_at hl 0 rfl) ?_
  refine call_i [(h, .inr (5, [.ref h1, .ref h2, .ref h3, .int v.2.2.2.1, .int (v.2.2.2.2 + 1)])), (h1, .inl (z.1, 40, .inl v.1)), (h2, .inl (z.1, 40, .inl v.2.1)), (h3, .inl (z.1, 40, .inl v.2.2.1)), (o, .inr (8, [.ref o1, .int v2.2])), (o1, .inl (z.2.1, 80, .inl v2.1))] (fun _ => [(h, .inr (5, [.ref h1, .ref h2, .ref h3, .int v.2.2.2.1, .int (v.2.2.2.2 + 1)])), (h1, .inl (z.1, 40, .inl v.1)), (h2, .inl (z.1, 40, .inl v.2.1)), (h3, .inl (z.1, 40, .inl v.2.2.1)), (o, .inr (8, [.ref o1, .int v2.2])), (o1, .inl (z.2.1, 80, .inl v2.1))]) (rSN (As := [.int (f_X5_digitAt (v.1, v.2.1, v.2.2.1, v.2.2.2.1, (v.2.2.2.2 + 1)) v2)]) (rest := []) ⟨hx, hb, hml, hown, hts⟩ (c_X9_isGenerator l D z (f_X5_digitAt (v.1, v.2.1, v.2.2.1, v.2.2.2.1, (v.2.2.2.2 + 1)) v2) H.size) ⟨va_cnB 1 hts gX5_readsFuel_X9_isGenerator_n61 rfl rfl rfl hE.1.2.2.2.2.2.2.2.2.2.2.2.2.2.2.1 (hts (.initialized RX9) (by decide +kernel)) (by decide +kernel) ⟨Nat.le_trans (by decide) hRf, Nat.le_trans (by decide) hRl⟩, hts (.static yX9_isGenerator) (by decide +kernel), trivial⟩ e0_ok e_0 hK hP hD [] (by decide) rfl rfl hl.1 rfl (Nat.le_of_ble_eq_true rfl) dX5_readsFuel_17 ⟨Nat.zero_le _, Nat.zero_le _⟩) hK hP hD hS hA [] [0, 1, 2, 3, 4, 5] [0, 1, 2, 3, 4, 5] rfl rfl (by decide) (by decide) (by decide) (fun _ => rfl) (fun q17 zu H locs hq17 hP hD hS => ?_)
  obtain ⟨hq17, hz_1⟩ := hq17
  have hP : va_P D vwCl [(h, .inr (5, [.ref h1, .ref h2, .ref h3, .int v.2.2.2.1, .int (v.2.2.2.2 + 1)])), (h1, .inl (z.1, 40, .inl v.1)), (h2, .inl (z.1, 40, .inl v.2.1)), (h3, .inl (z.1, 40, .inl v.2.2.1)), (o, .inr (8, [.ref o1, .int v2.2])), (o1, .inl (z.2.1, 80, .inl v2.1))] H := hP
  have hD : va_D A [(h, .inr (5, [.ref h1, .ref h2, .ref h3, .int v.2.2.2.1, .int (v.2.2.2.2 + 1)])), (h1, .inl (z.1, 40, .inl v.1)), (h2, .inl (z.1, 40, .inl v.2.1)), (h3, .inl (z.1, 40, .inl v.2.2.1)), (o, .inr (8, [.ref o1, .int v2.2])), (o1, .inl (z.2.1, 80, .inl v2.1))] := hD
  refine lv_if_ne (tgt := 25) hx hb dX5_readsFuel_20 (by decide) (fun c_2 => ?_) (fun c_2 => ?_)
  · refine lv_aload_n hx hb dX5_readsFuel_25 rfl (lv_at hl 1 rfl) ?_
    refine lv_dup hx hb dX5_readsFuel_26 rfl ?_
    refine va_get (D := D) (ci := 5) (v := .int (v.2.2.2.2 + 1)) (C := RX5) (T := TX5) (N := 5) hx hb hts iX5_readsFuel_X5 hown hK hP 0 rfl rfl 4 (by decide) (hts (.fieldLink RX5 25 "BarnPictures$Route" "at" "I") (by decide +kernel)) (fun _ h9 => h9) rfl dX5_readsFuel_27 ?_
    refine lv_iconst (v := 1) hx hb dX5_readsFuel_30 (by decide) ?_
    refine lv_iadd hx hb dX5_readsFuel_31 ?_
    refine va_put (D := D) (ci := 5) (v := .int ((v.2.2.2.2 + 1) + 1)) (ty := .int) (C := RX5) (T := TX5) (N := 5) hx hb hts iX5_readsFuel_X5 tyX5 tyX5_ok nmX5 hown hK hP hD hS 0 rfl rfl 4 (by decide) (hts (.fieldLink RX5 25 "BarnPictures$Route" "at" "I") (by decide +kernel)) (fun _ h9 => h9) rfl (by decide +kernel) rfl rfl (Nat.le_of_ble_eq_true rfl) dX5_readsFuel_32 (fun H locs hP hD hS => ?_)
    have hP : va_P D vwCl [(h, .inr (5, [.ref h1, .ref h2, .ref h3, .int v.2.2.2.1, .int ((v.2.2.2.2 + 1) + 1)])), (h1, .inl (z.1, 40, .inl v.1)), (h2, .inl (z.1, 40, .inl v.2.1)), (h3, .inl (z.1, 40, .inl v.2.2.1)), (o, .inr (8, [.ref o1, .int v2.2])), (o1, .inl (z.2.1, 80, .inl v2.1))] H := hP
    have hD : va_D A [(h, .inr (5, [.ref h1, .ref h2, .ref h3, .int v.2.2.2.1, .int ((v.2.2.2.2 + 1) + 1)])), (h1, .inl (z.1, 40, .inl v.1)), (h2, .inl (z.1, 40, .inl v.2.1)), (h3, .inl (z.1, 40, .inl v.2.2.1)), (o, .inr (8, [.ref o1, .int v2.2])), (o1, .inl (z.2.1, 80, .inl v2.1))] := hD
    refine lv_aload_n hx hb dX5_readsFuel_35 rfl (lv_at hl 1 rfl) ?_
    refine lv_aload_n hx hb dX5_readsFuel_36 rfl (lv_at hl 2 rfl) ?_
    refine lv_bipush (v := 58) hx hb dX5_readsFuel_37 (by decide) ?_
    refine call_i [] (fun zu => [(h, .inr (5, [.ref h1, .ref h2, .ref h3, .int v.2.2.2.1, .int zu])), (h1, .inl (z.1, 40, .inl v.1)), (h2, .inl (z.1, 40, .inl v.2.1)), (h3, .inl (z.1, 40, .inl v.2.2.1)), (o, .inr (8, [.ref o1, .int v2.2])), (o1, .inl (z.2.1, 80, .inl v2.1))]) (rV (As := [.ref o, .int 58]) (rest := []) ⟨hx, hb, hml, hown, hts⟩ (c_X5_readsSign l D z h h1 h2 h3 o o1 (v.1, v.2.1, v.2.2.1, v.2.2.2.1, ((v.2.2.2.2 + 1) + 1)) v2 58 (by assumption) H.size) (cwV 2 hts gX5_readsFuel_X5_readsSign rfl rfl rfl (by decide +kernel) ⟨Nat.le_trans (by decide) hRf, Nat.le_trans (by decide) hRl⟩) e0_ok e_0 hK hP hD [0, 1, 2, 3, 4, 5] (by decide) rfl (va_recv hK hP (ci := 5) (q0 := 0) rfl rfl) rfl hl.1 rfl (Nat.le_of_ble_eq_true rfl) dX5_readsFuel_39 ⟨Nat.zero_le _, Nat.zero_le _⟩) hK hP hD hS hA [0, 1, 2, 3, 4, 5] [] [0, 1, 2, 3, 4, 5] rfl rfl (by decide) (by decide) (by decide) (fun _ => rfl) (fun zr zu H locs hw hP hD hS => ?_)
    obtain ⟨hw, hz_3⟩ := hw
    obtain ⟨q39, hq39⟩ : ∃ q9, q9 = (f_X5_readsSign (v.1, v.2.1, v.2.2.1, v.2.2.2.1, ((v.2.2.2.2 + 1) + 1)) v2 58) := ⟨_, rfl⟩
    rw [← hq39] at hw
    obtain ⟨rfl, rfl⟩ := pe hw
    have hP : va_P D vwCl [(h, .inr (5, [.ref h1, .ref h2, .ref h3, .int v.2.2.2.1, .int q39.2])), (h1, .inl (z.1, 40, .inl v.1)), (h2, .inl (z.1, 40, .inl v.2.1)), (h3, .inl (z.1, 40, .inl v.2.2.1)), (o, .inr (8, [.ref o1, .int v2.2])), (o1, .inl (z.2.1, 80, .inl v2.1))] H := hP
    have hD : va_D A [(h, .inr (5, [.ref h1, .ref h2, .ref h3, .int v.2.2.2.1, .int q39.2])), (h1, .inl (z.1, 40, .inl v.1)), (h2, .inl (z.1, 40, .inl v.2.1)), (h3, .inl (z.1, 40, .inl v.2.2.1)), (o, .inr (8, [.ref o1, .int v2.2])), (o1, .inl (z.2.1, 80, .inl v2.1))] := hD
    refine lv_if_ne (tgt := 47) hx hb dX5_readsFuel_42 (by decide) (fun c_4 => ?_) (fun c_4 => ?_)
    · refine lv_aload_n hx hb dX5_readsFuel_47 rfl (lv_at hl 1 rfl) ?_
      refine lv_aload_n hx hb dX5_readsFuel_48 rfl (lv_at hl 2 rfl) ?_
      refine call_i [] (fun zu => [(h, .inr (5, [.ref h1, .ref h2, .ref h3, .int v.2.2.2.1, .int zu])), (h1, .inl (z.1, 40, .inl v.1)), (h2, .inl (z.1, 40, .inl v.2.1)), (h3, .inl (z.1, 40, .inl v.2.2.1)), (o, .inr (8, [.ref o1, .int v2.2])), (o1, .inl (z.2.1, 80, .inl v2.1))]) (rV (As := [.ref o]) (rest := []) ⟨hx, hb, hml, hown, hts⟩ (c_X5_readMinutes l D z tM tS h h1 h2 h3 o o1 (v.1, v.2.1, v.2.2.1, v.2.2.2.1, q39.2) v2 (by assumption) H.size) (cwV 1 hts gX5_readsFuel_X5_readMinutes rfl rfl rfl (by decide +kernel) ⟨Nat.le_trans (by decide) hRf, Nat.le_trans (by decide) hRl⟩) (ev_ok tM tS) (e_go (ev_ok tM tS) hE hD hS hA [0, 1, 2, 3, 4, 5] rfl) hK hP hD [0, 1, 2, 3, 4, 5] (by decide) rfl (va_recv hK hP (ci := 5) (q0 := 0) rfl rfl) rfl hl.1 rfl (Nat.le_of_ble_eq_true rfl) dX5_readsFuel_49 ⟨Nat.zero_le _, Nat.zero_le _⟩) hK hP hD hS hA [0, 1, 2, 3, 4, 5] [] [0, 1, 2, 3, 4, 5] rfl rfl (by decide) (by decide) (by decide) (fun _ => rfl) (fun zr zu H locs hw hP hD hS => ?_)
      obtain ⟨q49, hq49⟩ : ∃ q9, q9 = (f_X5_readMinutes (v.1, v.2.1, v.2.2.1, v.2.2.2.1, q39.2) v2) := ⟨_, rfl⟩
      rw [← hq49] at hw
      obtain ⟨rfl, rfl⟩ := pe hw
      have hP : va_P D vwCl [(h, .inr (5, [.ref h1, .ref h2, .ref h3, .int v.2.2.2.1, .int q49.2])), (h1, .inl (z.1, 40, .inl v.1)), (h2, .inl (z.1, 40, .inl v.2.1)), (h3, .inl (z.1, 40, .inl v.2.2.1)), (o, .inr (8, [.ref o1, .int v2.2])), (o1, .inl (z.2.1, 80, .inl v2.1))] H := hP
      have hD : va_D A [(h, .inr (5, [.ref h1, .ref h2, .ref h3, .int v.2.2.2.1, .int q49.2])), (h1, .inl (z.1, 40, .inl v.1)), (h2, .inl (z.1, 40, .inl v.2.1)), (h3, .inl (z.1, 40, .inl v.2.2.1)), (o, .inr (8, [.ref o1, .int v2.2])), (o1, .inl (z.2.1, 80, .inl v2.1))] := hD
      refine lv_istore_n (lv' := [(3, .int q49.1), (2, .int (f_X5_digitAt (v.1, v.2.1, v.2.2.1, v.2.2.2.1, (v.2.2.2.2 + 1)) v2)), (0, .ref h), (1, .ref o)]) hx hb dX5_readsFuel_52 rfl hl (by decide) rfl (fun ls hl => ?_)
      refine lv_iload_n hx hb dX5_readsFuel_53 rfl (lv_at hl 0 rfl) ?_
      refine lv_iconst (v := (-1)) hx hb dX5_readsFuel_54 (by decide) ?_
      refine lv_icmp_eq (tgt := 73) hx hb dX5_readsFuel_55 (by decide) (fun c_5 => ?_) (fun c_5 => ?_)
      · refine lv_iconst (v := 0) hx hb dX5_readsFuel_73 (by decide) ?_
        subst hQ
        exact ret_z (v.1, v.2.1, v.2.2.1, v.2.2.2.1, q49.2) hx hb hr rfl hK hP hD hS rfl ⟨(by unfold f_X5_readsFuel; rw [← hq17]; unfold f_X5_readsFuel_q17; rw [if_neg c_2, ← hq39]; unfold f_X5_readsFuel_q39; rw [if_neg c_4, ← hq49]; unfold f_X5_readsFuel_q49; rw [if_pos c_5]; try rfl), (Or.inl rfl)⟩ dX5_readsFuel_74 hlocks
      · refine lv_aload_n hx hb dX5_readsFuel_58 rfl (lv_at hl 2 rfl) ?_
        refine lv_bipush (v := 102) hx hb dX5_readsFuel_59 (by decide) ?_
        refine lv_iload_n hx hb dX5_readsFuel_61 rfl (lv_at hl 1 rfl) ?_
        refine lv_iload_n hx hb dX5_readsFuel_62 rfl (lv_at hl 0 rfl) ?_
        refine call_i [(o, .inr (8, [.ref o1, .int v2.2])), (o1, .inl (z.2.1, 80, .inl v2.1))] (fun zu => [(h, .inr (5, [.ref h1, .ref h2, .ref h3, .int zu.2.2.2, .int q49.2])), (h1, .inl (z.1, 40, .inl zu.1)), (h2, .inl (z.1, 40, .inl zu.2.1)), (h3, .inl (z.1, 40, .inl zu.2.2.1)), (o, .inr (8, [.ref o1, .int v2.2])), (o1, .inl (z.2.1, 80, .inl v2.1))]) (rV (As := [.int 102, .int (f_X5_digitAt (v.1, v.2.1, v.2.2.1, v.2.2.2.1, (v.2.2.2.2 + 1)) v2), .int q49.1]) (rest := []) ⟨hx, hb, hml, hown, hts⟩ (c_X5_adds l D z h h1 h2 h3 (v.1, v.2.1, v.2.2.1, v.2.2.2.1, q49.2) 102 (f_X5_digitAt (v.1, v.2.1, v.2.2.1, v.2.2.2.1, (v.2.2.2.2 + 1)) v2) q49.1 (by assumption) H.size) (cwV 3 hts gX5_readsFuel_X5_adds rfl rfl rfl (by decide +kernel) ⟨Nat.le_trans (by decide) hRf, Nat.le_trans (by decide) hRl⟩) e0_ok e_0 hK hP hD [0, 1, 2, 3] (by decide) rfl (va_recv hK hP (ci := 5) (q0 := 0) rfl rfl) rfl hl.1 rfl (Nat.le_of_ble_eq_true rfl) dX5_readsFuel_63 ⟨Nat.zero_le _, Nat.zero_le _⟩) hK hP hD hS hA [0, 1, 2, 3] [4, 5] [2, 3, 4, 5, 0, 1] rfl rfl (by decide) (by decide) (by decide) (fun _ => rfl) (fun zr zu H locs hw hP hD hS => ?_)
        obtain ⟨hw, hz_6⟩ := hw
        obtain ⟨q63, hq63⟩ : ∃ q9, q9 = (f_X5_adds (v.1, v.2.1, v.2.2.1, v.2.2.2.1, q49.2) 102 (f_X5_digitAt (v.1, v.2.1, v.2.2.1, v.2.2.2.1, (v.2.2.2.2 + 1)) v2) q49.1) := ⟨_, rfl⟩
        rw [← hq63] at hw
        obtain ⟨rfl, rfl⟩ := pe hw
        have hP : va_P D vwCl [(h, .inr (5, [.ref h1, .ref h2, .ref h3, .int q63.2.2.2.2, .int q49.2])), (h1, .inl (z.1, 40, .inl q63.2.1)), (h2, .inl (z.1, 40, .inl q63.2.2.1)), (h3, .inl (z.1, 40, .inl q63.2.2.2.1)), (o, .inr (8, [.ref o1, .int v2.2])), (o1, .inl (z.2.1, 80, .inl v2.1))] H := hP
        have hD : va_D A [(h, .inr (5, [.ref h1, .ref h2, .ref h3, .int q63.2.2.2.2, .int q49.2])), (h1, .inl (z.1, 40, .inl q63.2.1)), (h2, .inl (z.1, 40, .inl q63.2.2.1)), (h3, .inl (z.1, 40, .inl q63.2.2.2.1)), (o, .inr (8, [.ref o1, .int v2.2])), (o1, .inl (z.2.1, 80, .inl v2.1))] := hD
        refine lv_if_eq (tgt := 73) hx hb dX5_readsFuel_66 (by decide) (fun c_7 => ?_) (fun c_7 => ?_)
        · refine lv_iconst (v := 0) hx hb dX5_readsFuel_73 (by decide) ?_
          subst hQ
          exact ret_z (q63.2.1, q63.2.2.1, q63.2.2.2.1, q63.2.2.2.2, q49.2) hx hb hr rfl hK hP hD hS rfl ⟨(by unfold f_X5_readsFuel; rw [← hq17]; unfold f_X5_readsFuel_q17; rw [if_neg c_2, ← hq39]; unfold f_X5_readsFuel_q39; rw [if_neg c_4, ← hq49]; unfold f_X5_readsFuel_q49; rw [if_neg c_5, ← hq63]; unfold f_X5_readsFuel_q63; rw [if_pos c_7]; try rfl), (Or.inl rfl)⟩ dX5_readsFuel_74 hlocks
        · refine lv_iconst (v := 1) hx hb dX5_readsFuel_69 (by decide) ?_
          refine lv_goto (tgt := 74) hx hb dX5_readsFuel_70 (by decide) ?_
          subst hQ
          exact ret_z (q63.2.1, q63.2.2.1, q63.2.2.2.1, q63.2.2.2.2, q49.2) hx hb hr rfl hK hP hD hS rfl ⟨(by unfold f_X5_readsFuel; rw [← hq17]; unfold f_X5_readsFuel_q17; rw [if_neg c_2, ← hq39]; unfold f_X5_readsFuel_q39; rw [if_neg c_4, ← hq49]; unfold f_X5_readsFuel_q49; rw [if_neg c_5, ← hq63]; unfold f_X5_readsFuel_q63; rw [if_neg c_7]; try rfl), (Or.inr rfl)⟩ dX5_readsFuel_74 hlocks
    · refine lv_iconst (v := 0) hx hb dX5_readsFuel_45 (by decide) ?_
      subst hQ
      exact ret_z (v.1, v.2.1, v.2.2.1, v.2.2.2.1, q39.2) hx hb hr rfl hK hP hD hS rfl ⟨(by unfold f_X5_readsFuel; rw [← hq17]; unfold f_X5_readsFuel_q17; rw [if_neg c_2, ← hq39]; unfold f_X5_readsFuel_q39; rw [if_pos c_4]; try rfl), (Or.inl rfl)⟩ dX5_readsFuel_46 hlocks
  · refine lv_iconst (v := 0) hx hb dX5_readsFuel_23 (by decide) ?_
    subst hQ
    exact ret_z (v.1, v.2.1, v.2.2.1, v.2.2.2.1, (v.2.2.2.2 + 1)) hx hb hr rfl hK hP hD hS rfl ⟨(by unfold f_X5_readsFuel; rw [← hq17]; unfold f_X5_readsFuel_q17; rw [if_pos c_2]; try rfl), (Or.inl rfl)⟩ dX5_readsFuel_24 hlocks

theorem iX5_readsCommand_X5 : ∀ w ∈ wsX50, w ∈ wsX5_readsCommand := by decide +kernel
def f_X5_readsCommand_q89 (v : OV) (v2 : TV) (q89 : Int32 × OV) : Int32 × OV := (q89.1, q89.2)
def f_X5_readsCommand_q89_1 (v : OV) (v2 : TV) (q89_1 : Int32 × OV) : Int32 × OV := (q89_1.1, q89_1.2)
def f_X5_readsCommand_q121 (v : OV) (v2 : TV) (q121 : Int32 × (Nat → Int32) × (Nat → Int32) × (Nat → Int32) × Int32) : Int32 × OV := (q121.1, (q121.2.1, q121.2.2.1, q121.2.2.2.1, q121.2.2.2.2, (v.2.2.2.2 + 1)))
def f_X5_readsCommand_q103 (v : OV) (v2 : TV) (q103 : Int32 × OV) : Int32 × OV := (q103.1, q103.2)
def f_X5_readsCommand_q97 (v : OV) (v2 : TV) (q97 : Int32 × OV) : Int32 × OV := (q97.1, q97.2)
def f_X5_readsCommand_q121_5 (v : OV) (v2 : TV) (q121_5 : Int32 × (Nat → Int32) × (Nat → Int32) × (Nat → Int32) × Int32) : Int32 × OV := (q121_5.1, (q121_5.2.1, q121_5.2.2.1, q121_5.2.2.2.1, q121_5.2.2.2.2, (v.2.2.2.2 + 1)))
def f_X5_readsCommand_q80 (v : OV) (v2 : TV) (q80 : Int32 × OV) : Int32 × OV := (q80.1, q80.2)
def f_X5_readsCommand (v : OV) (v2 : TV) : Int32 × OV := if (f_X8_signAt v2 v.2.2.2.2) = 43 then f_X5_readsCommand_q89 v v2 (f_X5_readsWithThing v v2 (f_X8_signAt v2 v.2.2.2.2) 10) else if (f_X8_signAt v2 v.2.2.2.2) = 45 then f_X5_readsCommand_q89_1 v v2 (f_X5_readsWithThing v v2 (f_X8_signAt v2 v.2.2.2.2) 10) else if (f_X8_signAt v2 v.2.2.2.2) = 100 then f_X5_readsCommand_q121 v v2 (f_X5_adds (v.1, v.2.1, v.2.2.1, v.2.2.2.1, (v.2.2.2.2 + 1)) (f_X8_signAt v2 v.2.2.2.2) 0 0) else if (f_X8_signAt v2 v.2.2.2.2) = 102 then f_X5_readsCommand_q103 v v2 (f_X5_readsFuel v v2) else if (f_X8_signAt v2 v.2.2.2.2) = 103 then f_X5_readsCommand_q97 v v2 (f_X5_readsWithThing v v2 (f_X8_signAt v2 v.2.2.2.2) 2) else if (f_X8_signAt v2 v.2.2.2.2) = 115 then f_X5_readsCommand_q121_5 v v2 (f_X5_adds (v.1, v.2.1, v.2.2.1, v.2.2.2.1, (v.2.2.2.2 + 1)) (f_X8_signAt v2 v.2.2.2.2) 0 0) else if (f_X8_signAt v2 v.2.2.2.2) = 118 then f_X5_readsCommand_q80 v v2 (f_X5_readsWithThing v v2 (f_X8_signAt v2 v.2.2.2.2) 5) else (0, v)
set_option maxRecDepth 100000 in
set_option maxHeartbeats 1000000 in
theorem c_X5_readsCommand (l : Launch) (D : va_G) (z : ClassId × ClassId × ClassId) (tM tS : Nat) (h h1 h2 h3 : Nat) (o o1 : Nat) (v : OV) (v2 : TV) (hT : v2.2.toInt ≤ 80) (hZ : ¬ v.2.2.2.1 < 0) (sz : Nat) : CI l yX5_readsCommand wsX5_readsCommand 4 91 0 0 [.ref h, .ref o] D z (wX5 z h h1 h2 h3 v ++ wX8 z o o1 v2) sz (EV tM tS) (fun (zr : Int32) (zu : OV) => (zr, zu) = f_X5_readsCommand v v2 ∧ (zr = 0 ∨ zr = 1)) (fun zu => wX5 z h h1 h2 h3 zu ++ wX8 z o o1 v2) := by
  refine met_i cX5_readsCommand 3 (some .boolean) (by decide) rfl (Nat.le_of_ble_eq_true rfl) ?_
  intro p e s m args below meth c R Q hx hb hr hml hts hown hlocks hin hRf hRl hRc hRs hc0 hs0 A H hA hP hK hD hS hE hQ ls hl
  have hl : lv_has ls 3 [(0, .ref h), (1, .ref o)] := hl
  have hP : va_P D vwCl [(h, .inr (5, [.ref h1, .ref h2, .ref h3, .int v.2.2.2.1, .int v.2.2.2.2])), (h1, .inl (z.1, 40, .inl v.1)), (h2, .inl (z.1, 40, .inl v.2.1)), (h3, .inl (z.1, 40, .inl v.2.2.1)), (o, .inr (8, [.ref o1, .int v2.2])), (o1, .inl (z.2.1, 80, .inl v2.1))] H := hP
  have hD : va_D A [(h, .inr (5, [.ref h1, .ref h2, .ref h3, .int v.2.2.2.1, .int v.2.2.2.2])), (h1, .inl (z.1, 40, .inl v.1)), (h2, .inl (z.1, 40, .inl v.2.1)), (h3, .inl (z.1, 40, .inl v.2.2.1)), (o, .inr (8, [.ref o1, .int v2.2])), (o1, .inl (z.2.1, 80, .inl v2.1))] := hD
  have hown : s.vm.findClass RX5 = some m.cls := hown
  refine lv_aload_n hx hb dX5_readsCommand_0 rfl (lv_at hl 1 rfl) ?_
  refine lv_aload_n hx hb dX5_readsCommand_1 rfl (lv_at hl 0 rfl) ?_
  refine va_get (D := D) (ci := 5) (v := .int v.2.2.2.2) (C := RX5) (T := TX5) (N := 5) hx hb hts iX5_readsCommand_X5 hown hK hP 0 rfl rfl 4 (by decide) (hts (.fieldLink RX5 25 "BarnPictures$Route" "at" "I") (by decide +kernel)) (fun _ h9 => h9) rfl dX5_readsCommand_2 ?_
  refine call_i [(h, .inr (5, [.ref h1, .ref h2, .ref h3, .int v.2.2.2.1, .int v.2.2.2.2])), (h1, .inl (z.1, 40, .inl v.1)), (h2, .inl (z.1, 40, .inl v.2.1)), (h3, .inl (z.1, 40, .inl v.2.2.1))] (fun _ => [(h, .inr (5, [.ref h1, .ref h2, .ref h3, .int v.2.2.2.1, .int v.2.2.2.2])), (h1, .inl (z.1, 40, .inl v.1)), (h2, .inl (z.1, 40, .inl v.2.1)), (h3, .inl (z.1, 40, .inl v.2.2.1)), (o, .inr (8, [.ref o1, .int v2.2])), (o1, .inl (z.2.1, 80, .inl v2.1))]) (rV (As := [.int v.2.2.2.2]) (rest := []) ⟨hx, hb, hml, hown, hts⟩ (c_X8_signAt l D z o o1 v2 v.2.2.2.2 (by assumption) H.size) (cwV 1 hts gX5_readsCommand_X8_signAt rfl rfl rfl (by decide +kernel) ⟨Nat.le_trans (by decide) hRf, Nat.le_trans (by decide) hRl⟩) e0_ok e_0 hK hP hD [4, 5] (by decide) rfl (va_recv hK hP (ci := 8) (q0 := 4) rfl rfl) rfl hl.1 rfl (Nat.le_of_ble_eq_true rfl) dX5_readsCommand_5 ⟨Nat.zero_le _, Nat.zero_le _⟩) hK hP hD hS hA [4, 5] [0, 1, 2, 3] [0, 1, 2, 3, 4, 5] rfl rfl (by decide) (by decide) (by decide) (fun _ => rfl) (fun zr zu H locs hw hP hD hS => ?_)
  subst hw
  have hP : va_P D vwCl [(h, .inr (5, [.ref h1, .ref h2, .ref h3, .int v.2.2.2.1, .int v.2.2.2.2])), (h1, .inl (z.1, 40, .inl v.1)), (h2, .inl (z.1, 40, .inl v.2.1)), (h3, .inl (z.1, 40, .inl v.2.2.1)), (o, .inr (8, [.ref o1, .int v2.2])), (o1, .inl (z.2.1, 80, .inl v2.1))] H := hP
  have hD : va_D A [(h, .inr (5, [.ref h1, .ref h2, .ref h3, .int v.2.2.2.1, .int v.2.2.2.2])), (h1, .inl (z.1, 40, .inl v.1)), (h2, .inl (z.1, 40, .inl v.2.1)), (h3, .inl (z.1, 40, .inl v.2.2.1)), (o, .inr (8, [.ref o1, .int v2.2])), (o1, .inl (z.2.1, 80, .inl v2.1))] := hD
  refine lv_istore_n (lv' := [(2, .int (f_X8_signAt v2 v.2.2.2.2)), (0, .ref h), (1, .ref o)]) hx hb dX5_readsCommand_8 rfl hl (by decide) rfl (fun ls hl => ?_)
  refine lv_iload_n hx hb dX5_readsCommand_9 rfl (lv_at hl 0 rfl) ?_
  by_cases w_1 : (f_X8_signAt v2 v.2.2.2.2) = 43
  · refine lv_lookup (off := 74) (tgt := 84) hx hb dX5_readsCommand_10 (by decide) (by rw [w_1]; rfl) (by decide) ?_
    refine lv_aload_n hx hb dX5_readsCommand_84 rfl (lv_at hl 1 rfl) ?_
    refine lv_aload_n hx hb dX5_readsCommand_85 rfl (lv_at hl 2 rfl) ?_
    refine lv_iload_n hx hb dX5_readsCommand_86 rfl (lv_at hl 0 rfl) ?_
    refine lv_bipush (v := 10) hx hb dX5_readsCommand_87 (by decide) ?_
    refine call_i [] (fun zu => [(h, .inr (5, [.ref h1, .ref h2, .ref h3, .int zu.2.2.2.1, .int zu.2.2.2.2])), (h1, .inl (z.1, 40, .inl zu.1)), (h2, .inl (z.1, 40, .inl zu.2.1)), (h3, .inl (z.1, 40, .inl zu.2.2.1)), (o, .inr (8, [.ref o1, .int v2.2])), (o1, .inl (z.2.1, 80, .inl v2.1))]) (rV (As := [.ref o, .int (f_X8_signAt v2 v.2.2.2.2), .int 10]) (rest := []) ⟨hx, hb, hml, hown, hts⟩ (c_X5_readsWithThing l D z h h1 h2 h3 o o1 v v2 (f_X8_signAt v2 v.2.2.2.2) 10 (by assumption) (by assumption) H.size) (cwV 3 hts gX5_readsCommand_X5_readsWithThing rfl rfl rfl (by decide +kernel) ⟨Nat.le_trans (by decide) hRf, Nat.le_trans (by decide) hRl⟩) e0_ok e_0 hK hP hD [0, 1, 2, 3, 4, 5] (by decide) rfl (va_recv hK hP (ci := 5) (q0 := 0) rfl rfl) rfl hl.1 rfl (Nat.le_of_ble_eq_true rfl) dX5_readsCommand_89 ⟨Nat.zero_le _, Nat.zero_le _⟩) hK hP hD hS hA [0, 1, 2, 3, 4, 5] [] [0, 1, 2, 3, 4, 5] rfl rfl (by decide) (by decide) (by decide) (fun _ => rfl) (fun zr zu H locs hw hP hD hS => ?_)
    obtain ⟨hw, hz_2⟩ := hw
    obtain ⟨q89, hq89⟩ : ∃ q9, q9 = (f_X5_readsWithThing v v2 (f_X8_signAt v2 v.2.2.2.2) 10) := ⟨_, rfl⟩
    rw [← hq89] at hw
    obtain ⟨rfl, rfl⟩ := pe hw
    have hP : va_P D vwCl [(h, .inr (5, [.ref h1, .ref h2, .ref h3, .int q89.2.2.2.2.1, .int q89.2.2.2.2.2])), (h1, .inl (z.1, 40, .inl q89.2.1)), (h2, .inl (z.1, 40, .inl q89.2.2.1)), (h3, .inl (z.1, 40, .inl q89.2.2.2.1)), (o, .inr (8, [.ref o1, .int v2.2])), (o1, .inl (z.2.1, 80, .inl v2.1))] H := hP
    have hD : va_D A [(h, .inr (5, [.ref h1, .ref h2, .ref h3, .int q89.2.2.2.2.1, .int q89.2.2.2.2.2])), (h1, .inl (z.1, 40, .inl q89.2.1)), (h2, .inl (z.1, 40, .inl q89.2.2.1)), (h3, .inl (z.1, 40, .inl q89.2.2.2.1)), (o, .inr (8, [.ref o1, .int v2.2])), (o1, .inl (z.2.1, 80, .inl v2.1))] := hD
    subst hQ
    exact ret_z q89.2 hx hb hr (bz hz_2) hK hP hD hS rfl ⟨(by unfold f_X5_readsCommand; rw [if_pos w_1, ← hq89]; unfold f_X5_readsCommand_q89; try rfl), hz_2⟩ dX5_readsCommand_92 hlocks
  · by_cases w_3 : (f_X8_signAt v2 v.2.2.2.2) = 45
    · refine lv_lookup (off := 74) (tgt := 84) hx hb dX5_readsCommand_10 (by decide) (by rw [w_3]; rfl) (by decide) ?_
      refine lv_aload_n hx hb dX5_readsCommand_84 rfl (lv_at hl 1 rfl) ?_
      refine lv_aload_n hx hb dX5_readsCommand_85 rfl (lv_at hl 2 rfl) ?_
      refine lv_iload_n hx hb dX5_readsCommand_86 rfl (lv_at hl 0 rfl) ?_
      refine lv_bipush (v := 10) hx hb dX5_readsCommand_87 (by decide) ?_
      refine call_i [] (fun zu => [(h, .inr (5, [.ref h1, .ref h2, .ref h3, .int zu.2.2.2.1, .int zu.2.2.2.2])), (h1, .inl (z.1, 40, .inl zu.1)), (h2, .inl (z.1, 40, .inl zu.2.1)), (h3, .inl (z.1, 40, .inl zu.2.2.1)), (o, .inr (8, [.ref o1, .int v2.2])), (o1, .inl (z.2.1, 80, .inl v2.1))]) (rV (As := [.ref o, .int (f_X8_signAt v2 v.2.2.2.2), .int 10]) (rest := []) ⟨hx, hb, hml, hown, hts⟩ (c_X5_readsWithThing l D z h h1 h2 h3 o o1 v v2 (f_X8_signAt v2 v.2.2.2.2) 10 (by assumption) (by assumption) H.size) (cwV 3 hts gX5_readsCommand_X5_readsWithThing rfl rfl rfl (by decide +kernel) ⟨Nat.le_trans (by decide) hRf, Nat.le_trans (by decide) hRl⟩) e0_ok e_0 hK hP hD [0, 1, 2, 3, 4, 5] (by decide) rfl (va_recv hK hP (ci := 5) (q0 := 0) rfl rfl) rfl hl.1 rfl (Nat.le_of_ble_eq_true rfl) dX5_readsCommand_89 ⟨Nat.zero_le _, Nat.zero_le _⟩) hK hP hD hS hA [0, 1, 2, 3, 4, 5] [] [0, 1, 2, 3, 4, 5] rfl rfl (by decide) (by decide) (by decide) (fun _ => rfl) (fun zr zu H locs hw hP hD hS => ?_)
      obtain ⟨hw, hz_4⟩ := hw
      obtain ⟨q89_1, hq89_1⟩ : ∃ q9, q9 = (f_X5_readsWithThing v v2 (f_X8_signAt v2 v.2.2.2.2) 10) := ⟨_, rfl⟩
      rw [← hq89_1] at hw
      obtain ⟨rfl, rfl⟩ := pe hw
      have hP : va_P D vwCl [(h, .inr (5, [.ref h1, .ref h2, .ref h3, .int q89_1.2.2.2.2.1, .int q89_1.2.2.2.2.2])), (h1, .inl (z.1, 40, .inl q89_1.2.1)), (h2, .inl (z.1, 40, .inl q89_1.2.2.1)), (h3, .inl (z.1, 40, .inl q89_1.2.2.2.1)), (o, .inr (8, [.ref o1, .int v2.2])), (o1, .inl (z.2.1, 80, .inl v2.1))] H := hP
      have hD : va_D A [(h, .inr (5, [.ref h1, .ref h2, .ref h3, .int q89_1.2.2.2.2.1, .int q89_1.2.2.2.2.2])), (h1, .inl (z.1, 40, .inl q89_1.2.1)), (h2, .inl (z.1, 40, .inl q89_1.2.2.1)), (h3, .inl (z.1, 40, .inl q89_1.2.2.2.1)), (o, .inr (8, [.ref o1, .int v2.2])), (o1, .inl (z.2.1, 80, .inl v2.1))] := hD
      subst hQ
      exact ret_z q89_1.2 hx hb hr (bz hz_4) hK hP hD hS rfl ⟨(by unfold f_X5_readsCommand; rw [if_neg w_1, if_pos w_3, ← hq89_1]; unfold f_X5_readsCommand_q89_1; try rfl), hz_4⟩ dX5_readsCommand_92 hlocks
    · by_cases w_5 : (f_X8_signAt v2 v.2.2.2.2) = 100
      · refine lv_lookup (off := 97) (tgt := 107) hx hb dX5_readsCommand_10 (by decide) (by rw [w_5]; rfl) (by decide) ?_
        refine lv_aload_n hx hb dX5_readsCommand_107 rfl (lv_at hl 1 rfl) ?_
        refine lv_dup hx hb dX5_readsCommand_108 rfl ?_
        refine va_get (D := D) (ci := 5) (v := .int v.2.2.2.2) (C := RX5) (T := TX5) (N := 5) hx hb hts iX5_readsCommand_X5 hown hK hP 0 rfl rfl 4 (by decide) (hts (.fieldLink RX5 25 "BarnPictures$Route" "at" "I") (by decide +kernel)) (fun _ h9 => h9) rfl dX5_readsCommand_109 ?_
        refine lv_iconst (v := 1) hx hb dX5_readsCommand_112 (by decide) ?_
        refine lv_iadd hx hb dX5_readsCommand_113 ?_
        refine va_put (D := D) (ci := 5) (v := .int (v.2.2.2.2 + 1)) (ty := .int) (C := RX5) (T := TX5) (N := 5) hx hb hts iX5_readsCommand_X5 tyX5 tyX5_ok nmX5 hown hK hP hD hS 0 rfl rfl 4 (by decide) (hts (.fieldLink RX5 25 "BarnPictures$Route" "at" "I") (by decide +kernel)) (fun _ h9 => h9) rfl (by decide +kernel) rfl rfl (Nat.le_of_ble_eq_true rfl) dX5_readsCommand_114 (fun H locs hP hD hS => ?_)
        have hP : va_P D vwCl [(h, .inr (5, [.ref h1, .ref h2, .ref h3, .int v.2.2.2.1, .int (v.2.2.2.2 + 1)])), (h1, .inl (z.1, 40, .inl v.1)), (h2, .inl (z.1, 40, .inl v.2.1)), (h3, .inl (z.1, 40, .inl v.2.2.1)), (o, .inr (8, [.ref o1, .int v2.2])), (o1, .inl (z.2.1, 80, .inl v2.1))] H := hP
        have hD : va_D A [(h, .inr (5, [.ref h1, .ref h2, .ref h3, .int v.2.2.2.1, .int (v.2.2.2.2 + 1)])), (h1, .inl (z.1, 40, .inl v.1)), (h2, .inl (z.1, 40, .inl v.2.1)), (h3, .inl (z.1, 40, .inl v.2.2.1)), (o, .inr (8, [.ref o1, .int v2.2])), (o1, .inl (z.2.1, 80, .inl v2.1))] := hD
        refine lv_aload_n hx hb dX5_readsCommand_117 rfl (lv_at hl 1 rfl) ?_
        refine lv_iload_n hx hb dX5_readsCommand_118 rfl (lv_at hl 0 rfl) ?_
        refine lv_iconst (v := 0) hx hb dX5_readsCommand_119 (by decide) ?_
        refine lv_iconst (v := 0) hx hb dX5_readsCommand_120 (by decide) ?_
        refine call_i [(o, .inr (8, [.ref o1, .int v2.2])), (o1, .inl (z.2.1, 80, .inl v2.1))] (fun zu => [(h, .inr (5, [.ref h1, .ref h2, .ref h3, .int zu.2.2.2, .int (v.2.2.2.2 + 1)])), (h1, .inl (z.1, 40, .inl zu.1)), (h2, .inl (z.1, 40, .inl zu.2.1)), (h3, .inl (z.1, 40, .inl zu.2.2.1)), (o, .inr (8, [.ref o1, .int v2.2])), (o1, .inl (z.2.1, 80, .inl v2.1))]) (rV (As := [.int (f_X8_signAt v2 v.2.2.2.2), .int 0, .int 0]) (rest := []) ⟨hx, hb, hml, hown, hts⟩ (c_X5_adds l D z h h1 h2 h3 (v.1, v.2.1, v.2.2.1, v.2.2.2.1, (v.2.2.2.2 + 1)) (f_X8_signAt v2 v.2.2.2.2) 0 0 (by assumption) H.size) (cwV 3 hts gX5_readsCommand_X5_adds rfl rfl rfl (by decide +kernel) ⟨Nat.le_trans (by decide) hRf, Nat.le_trans (by decide) hRl⟩) e0_ok e_0 hK hP hD [0, 1, 2, 3] (by decide) rfl (va_recv hK hP (ci := 5) (q0 := 0) rfl rfl) rfl hl.1 rfl (Nat.le_of_ble_eq_true rfl) dX5_readsCommand_121 ⟨Nat.zero_le _, Nat.zero_le _⟩) hK hP hD hS hA [0, 1, 2, 3] [4, 5] [2, 3, 4, 5, 0, 1] rfl rfl (by decide) (by decide) (by decide) (fun _ => rfl) (fun zr zu H locs hw hP hD hS => ?_)
        obtain ⟨hw, hz_6⟩ := hw
        obtain ⟨q121, hq121⟩ : ∃ q9, q9 = (f_X5_adds (v.1, v.2.1, v.2.2.1, v.2.2.2.1, (v.2.2.2.2 + 1)) (f_X8_signAt v2 v.2.2.2.2) 0 0) := ⟨_, rfl⟩
        rw [← hq121] at hw
        obtain ⟨rfl, rfl⟩ := pe hw
        have hP : va_P D vwCl [(h, .inr (5, [.ref h1, .ref h2, .ref h3, .int q121.2.2.2.2, .int (v.2.2.2.2 + 1)])), (h1, .inl (z.1, 40, .inl q121.2.1)), (h2, .inl (z.1, 40, .inl q121.2.2.1)), (h3, .inl (z.1, 40, .inl q121.2.2.2.1)), (o, .inr (8, [.ref o1, .int v2.2])), (o1, .inl (z.2.1, 80, .inl v2.1))] H := hP
        have hD : va_D A [(h, .inr (5, [.ref h1, .ref h2, .ref h3, .int q121.2.2.2.2, .int (v.2.2.2.2 + 1)])), (h1, .inl (z.1, 40, .inl q121.2.1)), (h2, .inl (z.1, 40, .inl q121.2.2.1)), (h3, .inl (z.1, 40, .inl q121.2.2.2.1)), (o, .inr (8, [.ref o1, .int v2.2])), (o1, .inl (z.2.1, 80, .inl v2.1))] := hD
        subst hQ
        exact ret_z (q121.2.1, q121.2.2.1, q121.2.2.2.1, q121.2.2.2.2, (v.2.2.2.2 + 1)) hx hb hr (bz hz_6) hK hP hD hS rfl ⟨(by unfold f_X5_readsCommand; rw [if_neg w_1, if_neg w_3, if_pos w_5, ← hq121]; unfold f_X5_readsCommand_q121; try rfl), hz_6⟩ dX5_readsCommand_124 hlocks
      · by_cases w_7 : (f_X8_signAt v2 v.2.2.2.2) = 102
        · refine lv_lookup (off := 91) (tgt := 101) hx hb dX5_readsCommand_10 (by decide) (by rw [w_7]; rfl) (by decide) ?_
          refine lv_aload_n hx hb dX5_readsCommand_101 rfl (lv_at hl 1 rfl) ?_
          refine lv_aload_n hx hb dX5_readsCommand_102 rfl (lv_at hl 2 rfl) ?_
          refine call_i [] (fun zu => [(h, .inr (5, [.ref h1, .ref h2, .ref h3, .int zu.2.2.2.1, .int zu.2.2.2.2])), (h1, .inl (z.1, 40, .inl zu.1)), (h2, .inl (z.1, 40, .inl zu.2.1)), (h3, .inl (z.1, 40, .inl zu.2.2.1)), (o, .inr (8, [.ref o1, .int v2.2])), (o1, .inl (z.2.1, 80, .inl v2.1))]) (rV (As := [.ref o]) (rest := []) ⟨hx, hb, hml, hown, hts⟩ (c_X5_readsFuel l D z tM tS h h1 h2 h3 o o1 v v2 (by assumption) (by assumption) H.size) (cwV 1 hts gX5_readsCommand_X5_readsFuel rfl rfl rfl (by decide +kernel) ⟨Nat.le_trans (by decide) hRf, Nat.le_trans (by decide) hRl⟩) (ev_ok tM tS) (e_go (ev_ok tM tS) hE hD hS hA [0, 1, 2, 3, 4, 5] rfl) hK hP hD [0, 1, 2, 3, 4, 5] (by decide) rfl (va_recv hK hP (ci := 5) (q0 := 0) rfl rfl) rfl hl.1 rfl (Nat.le_of_ble_eq_true rfl) dX5_readsCommand_103 ⟨Nat.zero_le _, Nat.zero_le _⟩) hK hP hD hS hA [0, 1, 2, 3, 4, 5] [] [0, 1, 2, 3, 4, 5] rfl rfl (by decide) (by decide) (by decide) (fun _ => rfl) (fun zr zu H locs hw hP hD hS => ?_)
          obtain ⟨hw, hz_8⟩ := hw
          obtain ⟨q103, hq103⟩ : ∃ q9, q9 = (f_X5_readsFuel v v2) := ⟨_, rfl⟩
          rw [← hq103] at hw
          obtain ⟨rfl, rfl⟩ := pe hw
          have hP : va_P D vwCl [(h, .inr (5, [.ref h1, .ref h2, .ref h3, .int q103.2.2.2.2.1, .int q103.2.2.2.2.2])), (h1, .inl (z.1, 40, .inl q103.2.1)), (h2, .inl (z.1, 40, .inl q103.2.2.1)), (h3, .inl (z.1, 40, .inl q103.2.2.2.1)), (o, .inr (8, [.ref o1, .int v2.2])), (o1, .inl (z.2.1, 80, .inl v2.1))] H := hP
          have hD : va_D A [(h, .inr (5, [.ref h1, .ref h2, .ref h3, .int q103.2.2.2.2.1, .int q103.2.2.2.2.2])), (h1, .inl (z.1, 40, .inl q103.2.1)), (h2, .inl (z.1, 40, .inl q103.2.2.1)), (h3, .inl (z.1, 40, .inl q103.2.2.2.1)), (o, .inr (8, [.ref o1, .int v2.2])), (o1, .inl (z.2.1, 80, .inl v2.1))] := hD
          subst hQ
          exact ret_z q103.2 hx hb hr (bz hz_8) hK hP hD hS rfl ⟨(by unfold f_X5_readsCommand; rw [if_neg w_1, if_neg w_3, if_neg w_5, if_pos w_7, ← hq103]; unfold f_X5_readsCommand_q103; try rfl), hz_8⟩ dX5_readsCommand_106 hlocks
        · by_cases w_9 : (f_X8_signAt v2 v.2.2.2.2) = 103
          · refine lv_lookup (off := 83) (tgt := 93) hx hb dX5_readsCommand_10 (by decide) (by rw [w_9]; rfl) (by decide) ?_
            refine lv_aload_n hx hb dX5_readsCommand_93 rfl (lv_at hl 1 rfl) ?_
            refine lv_aload_n hx hb dX5_readsCommand_94 rfl (lv_at hl 2 rfl) ?_
            refine lv_iload_n hx hb dX5_readsCommand_95 rfl (lv_at hl 0 rfl) ?_
            refine lv_iconst (v := 2) hx hb dX5_readsCommand_96 (by decide) ?_
            refine call_i [] (fun zu => [(h, .inr (5, [.ref h1, .ref h2, .ref h3, .int zu.2.2.2.1, .int zu.2.2.2.2])), (h1, .inl (z.1, 40, .inl zu.1)), (h2, .inl (z.1, 40, .inl zu.2.1)), (h3, .inl (z.1, 40, .inl zu.2.2.1)), (o, .inr (8, [.ref o1, .int v2.2])), (o1, .inl (z.2.1, 80, .inl v2.1))]) (rV (As := [.ref o, .int (f_X8_signAt v2 v.2.2.2.2), .int 2]) (rest := []) ⟨hx, hb, hml, hown, hts⟩ (c_X5_readsWithThing l D z h h1 h2 h3 o o1 v v2 (f_X8_signAt v2 v.2.2.2.2) 2 (by assumption) (by assumption) H.size) (cwV 3 hts gX5_readsCommand_X5_readsWithThing rfl rfl rfl (by decide +kernel) ⟨Nat.le_trans (by decide) hRf, Nat.le_trans (by decide) hRl⟩) e0_ok e_0 hK hP hD [0, 1, 2, 3, 4, 5] (by decide) rfl (va_recv hK hP (ci := 5) (q0 := 0) rfl rfl) rfl hl.1 rfl (Nat.le_of_ble_eq_true rfl) dX5_readsCommand_97 ⟨Nat.zero_le _, Nat.zero_le _⟩) hK hP hD hS hA [0, 1, 2, 3, 4, 5] [] [0, 1, 2, 3, 4, 5] rfl rfl (by decide) (by decide) (by decide) (fun _ => rfl) (fun zr zu H locs hw hP hD hS => ?_)
            obtain ⟨hw, hz_10⟩ := hw
            obtain ⟨q97, hq97⟩ : ∃ q9, q9 = (f_X5_readsWithThing v v2 (f_X8_signAt v2 v.2.2.2.2) 2) := ⟨_, rfl⟩
            rw [← hq97] at hw
            obtain ⟨rfl, rfl⟩ := pe hw
            have hP : va_P D vwCl [(h, .inr (5, [.ref h1, .ref h2, .ref h3, .int q97.2.2.2.2.1, .int q97.2.2.2.2.2])), (h1, .inl (z.1, 40, .inl q97.2.1)), (h2, .inl (z.1, 40, .inl q97.2.2.1)), (h3, .inl (z.1, 40, .inl q97.2.2.2.1)), (o, .inr (8, [.ref o1, .int v2.2])), (o1, .inl (z.2.1, 80, .inl v2.1))] H := hP
            have hD : va_D A [(h, .inr (5, [.ref h1, .ref h2, .ref h3, .int q97.2.2.2.2.1, .int q97.2.2.2.2.2])), (h1, .inl (z.1, 40, .inl q97.2.1)), (h2, .inl (z.1, 40, .inl q97.2.2.1)), (h3, .inl (z.1, 40, .inl q97.2.2.2.1)), (o, .inr (8, [.ref o1, .int v2.2])), (o1, .inl (z.2.1, 80, .inl v2.1))] := hD
            subst hQ
            exact ret_z q97.2 hx hb hr (bz hz_10) hK hP hD hS rfl ⟨(by unfold f_X5_readsCommand; rw [if_neg w_1, if_neg w_3, if_neg w_5, if_neg w_7, if_pos w_9, ← hq97]; unfold f_X5_readsCommand_q97; try rfl), hz_10⟩ dX5_readsCommand_100 hlocks
          · by_cases w_11 : (f_X8_signAt v2 v.2.2.2.2) = 115
            · refine lv_lookup (off := 97) (tgt := 107) hx hb dX5_readsCommand_10 (by decide) (by rw [w_11]; rfl) (by decide) ?_
              refine lv_aload_n hx hb dX5_readsCommand_107 rfl (lv_at hl 1 rfl) ?_
              refine lv_dup hx hb dX5_readsCommand_108 rfl ?_
              refine va_get (D := D) (ci := 5) (v := .int v.2.2.2.2) (C := RX5) (T := TX5) (N := 5) hx hb hts iX5_readsCommand_X5 hown hK hP 0 rfl rfl 4 (by decide) (hts (.fieldLink RX5 25 "BarnPictures$Route" "at" "I") (by decide +kernel)) (fun _ h9 => h9) rfl dX5_readsCommand_109 ?_
              refine lv_iconst (v := 1) hx hb dX5_readsCommand_112 (by decide) ?_
              refine lv_iadd hx hb dX5_readsCommand_113 ?_
              refine va_put (D := D) (ci := 5) (v := .int (v.2.2.2.2 + 1)) (ty := .int) (C := RX5) (T := TX5) (N := 5) hx hb hts iX5_readsCommand_X5 tyX5 tyX5_ok nmX5 hown hK hP hD hS 0 rfl rfl 4 (by decide) (hts (.fieldLink RX5 25 "BarnPictures$Route" "at" "I") (by decide +kernel)) (fun _ h9 => h9) rfl (by decide +kernel) rfl rfl (Nat.le_of_ble_eq_true rfl) dX5_readsCommand_114 (fun H locs hP hD hS => ?_)
              have hP : va_P D vwCl [(h, .inr (5, [.ref h1, .ref h2, .ref h3, .int v.2.2.2.1, .int (v.2.2.2.2 + 1)])), (h1, .inl (z.1, 40, .inl v.1)), (h2, .inl (z.1, 40, .inl v.2.1)), (h3, .inl (z.1, 40, .inl v.2.2.1)), (o, .inr (8, [.ref o1, .int v2.2])), (o1, .inl (z.2.1, 80, .inl v2.1))] H := hP
              have hD : va_D A [(h, .inr (5, [.ref h1, .ref h2, .ref h3, .int v.2.2.2.1, .int (v.2.2.2.2 + 1)])), (h1, .inl (z.1, 40, .inl v.1)), (h2, .inl (z.1, 40, .inl v.2.1)), (h3, .inl (z.1, 40, .inl v.2.2.1)), (o, .inr (8, [.ref o1, .int v2.2])), (o1, .inl (z.2.1, 80, .inl v2.1))] := hD
              refine lv_aload_n hx hb dX5_readsCommand_117 rfl (lv_at hl 1 rfl) ?_
              refine lv_iload_n hx hb dX5_readsCommand_118 rfl (lv_at hl 0 rfl) ?_
              refine lv_iconst (v := 0) hx hb dX5_readsCommand_119 (by decide) ?_
              refine lv_iconst (v := 0) hx hb dX5_readsCommand_120 (by decide) ?_
              refine call_i [(o, .inr (8, [.ref o1, .int v2.2])), (o1, .inl (z.2.1, 80, .inl v2.1))] (fun zu => [(h, .inr (5, [.ref h1, .ref h2, .ref h3, .int zu.2.2.2, .int (v.2.2.2.2 + 1)])), (h1, .inl (z.1, 40, .inl zu.1)), (h2, .inl (z.1, 40, .inl zu.2.1)), (h3, .inl (z.1, 40, .inl zu.2.2.1)), (o, .inr (8, [.ref o1, .int v2.2])), (o1, .inl (z.2.1, 80, .inl v2.1))]) (rV (As := [.int (f_X8_signAt v2 v.2.2.2.2), .int 0, .int 0]) (rest := []) ⟨hx, hb, hml, hown, hts⟩ (c_X5_adds l D z h h1 h2 h3 (v.1, v.2.1, v.2.2.1, v.2.2.2.1, (v.2.2.2.2 + 1)) (f_X8_signAt v2 v.2.2.2.2) 0 0 (by assumption) H.size) (cwV 3 hts gX5_readsCommand_X5_adds rfl rfl rfl (by decide +kernel) ⟨Nat.le_trans (by decide) hRf, Nat.le_trans (by decide) hRl⟩) e0_ok e_0 hK hP hD [0, 1, 2, 3] (by decide) rfl (va_recv hK hP (ci := 5) (q0 := 0) rfl rfl) rfl hl.1 rfl (Nat.le_of_ble_eq_true rfl) dX5_readsCommand_121 ⟨Nat.zero_le _, Nat.zero_le _⟩) hK hP hD hS hA [0, 1, 2, 3] [4, 5] [2, 3, 4, 5, 0, 1] rfl rfl (by decide) (by decide) (by decide) (fun _ => rfl) (fun zr zu H locs hw hP hD hS => ?_)
              obtain ⟨hw, hz_12⟩ := hw
              obtain ⟨q121_5, hq121_5⟩ : ∃ q9, q9 = (f_X5_adds (v.1, v.2.1, v.2.2.1, v.2.2.2.1, (v.2.2.2.2 + 1)) (f_X8_signAt v2 v.2.2.2.2) 0 0) := ⟨_, rfl⟩
              rw [← hq121_5] at hw
              obtain ⟨rfl, rfl⟩ := pe hw
              have hP : va_P D vwCl [(h, .inr (5, [.ref h1, .ref h2, .ref h3, .int q121_5.2.2.2.2, .int (v.2.2.2.2 + 1)])), (h1, .inl (z.1, 40, .inl q121_5.2.1)), (h2, .inl (z.1, 40, .inl q121_5.2.2.1)), (h3, .inl (z.1, 40, .inl q121_5.2.2.2.1)), (o, .inr (8, [.ref o1, .int v2.2])), (o1, .inl (z.2.1, 80, .inl v2.1))] H := hP
              have hD : va_D A [(h, .inr (5, [.ref h1, .ref h2, .ref h3, .int q121_5.2.2.2.2, .int (v.2.2.2.2 + 1)])), (h1, .inl (z.1, 40, .inl q121_5.2.1)), (h2, .inl (z.1, 40, .inl q121_5.2.2.1)), (h3, .inl (z.1, 40, .inl q121_5.2.2.2.1)), (o, .inr (8, [.ref o1, .int v2.2])), (o1, .inl (z.2.1, 80, .inl v2.1))] := hD
              subst hQ
              exact ret_z (q121_5.2.1, q121_5.2.2.1, q121_5.2.2.2.1, q121_5.2.2.2.2, (v.2.2.2.2 + 1)) hx hb hr (bz hz_12) hK hP hD hS rfl ⟨(by unfold f_X5_readsCommand; rw [if_neg w_1, if_neg w_3, if_neg w_5, if_neg w_7, if_neg w_9, if_pos w_11, ← hq121_5]; unfold f_X5_readsCommand_q121_5; try rfl), hz_12⟩ dX5_readsCommand_124 hlocks
            · by_cases w_13 : (f_X8_signAt v2 v.2.2.2.2) = 118
              · refine lv_lookup (off := 66) (tgt := 76) hx hb dX5_readsCommand_10 (by decide) (by rw [w_13]; rfl) (by decide) ?_
                refine lv_aload_n hx hb dX5_readsCommand_76 rfl (lv_at hl 1 rfl) ?_
                refine lv_aload_n hx hb dX5_readsCommand_77 rfl (lv_at hl 2 rfl) ?_
                refine lv_iload_n hx hb dX5_readsCommand_78 rfl (lv_at hl 0 rfl) ?_
                refine lv_iconst (v := 5) hx hb dX5_readsCommand_79 (by decide) ?_
                refine call_i [] (fun zu => [(h, .inr (5, [.ref h1, .ref h2, .ref h3, .int zu.2.2.2.1, .int zu.2.2.2.2])), (h1, .inl (z.1, 40, .inl zu.1)), (h2, .inl (z.1, 40, .inl zu.2.1)), (h3, .inl (z.1, 40, .inl zu.2.2.1)), (o, .inr (8, [.ref o1, .int v2.2])), (o1, .inl (z.2.1, 80, .inl v2.1))]) (rV (As := [.ref o, .int (f_X8_signAt v2 v.2.2.2.2), .int 5]) (rest := []) ⟨hx, hb, hml, hown, hts⟩ (c_X5_readsWithThing l D z h h1 h2 h3 o o1 v v2 (f_X8_signAt v2 v.2.2.2.2) 5 (by assumption) (by assumption) H.size) (cwV 3 hts gX5_readsCommand_X5_readsWithThing rfl rfl rfl (by decide +kernel) ⟨Nat.le_trans (by decide) hRf, Nat.le_trans (by decide) hRl⟩) e0_ok e_0 hK hP hD [0, 1, 2, 3, 4, 5] (by decide) rfl (va_recv hK hP (ci := 5) (q0 := 0) rfl rfl) rfl hl.1 rfl (Nat.le_of_ble_eq_true rfl) dX5_readsCommand_80 ⟨Nat.zero_le _, Nat.zero_le _⟩) hK hP hD hS hA [0, 1, 2, 3, 4, 5] [] [0, 1, 2, 3, 4, 5] rfl rfl (by decide) (by decide) (by decide) (fun _ => rfl) (fun zr zu H locs hw hP hD hS => ?_)
                obtain ⟨hw, hz_14⟩ := hw
                obtain ⟨q80, hq80⟩ : ∃ q9, q9 = (f_X5_readsWithThing v v2 (f_X8_signAt v2 v.2.2.2.2) 5) := ⟨_, rfl⟩
                rw [← hq80] at hw
                obtain ⟨rfl, rfl⟩ := pe hw
                have hP : va_P D vwCl [(h, .inr (5, [.ref h1, .ref h2, .ref h3, .int q80.2.2.2.2.1, .int q80.2.2.2.2.2])), (h1, .inl (z.1, 40, .inl q80.2.1)), (h2, .inl (z.1, 40, .inl q80.2.2.1)), (h3, .inl (z.1, 40, .inl q80.2.2.2.1)), (o, .inr (8, [.ref o1, .int v2.2])), (o1, .inl (z.2.1, 80, .inl v2.1))] H := hP
                have hD : va_D A [(h, .inr (5, [.ref h1, .ref h2, .ref h3, .int q80.2.2.2.2.1, .int q80.2.2.2.2.2])), (h1, .inl (z.1, 40, .inl q80.2.1)), (h2, .inl (z.1, 40, .inl q80.2.2.1)), (h3, .inl (z.1, 40, .inl q80.2.2.2.1)), (o, .inr (8, [.ref o1, .int v2.2])), (o1, .inl (z.2.1, 80, .inl v2.1))] := hD
                subst hQ
                exact ret_z q80.2 hx hb hr (bz hz_14) hK hP hD hS rfl ⟨(by unfold f_X5_readsCommand; rw [if_neg w_1, if_neg w_3, if_neg w_5, if_neg w_7, if_neg w_9, if_neg w_11, if_pos w_13, ← hq80]; unfold f_X5_readsCommand_q80; try rfl), hz_14⟩ dX5_readsCommand_83 hlocks
              · refine lv_lookup (off := 115) (tgt := 125) hx hb dX5_readsCommand_10 (by decide) (by have e0_ : ¬ ((43 : Int) = (f_X8_signAt v2 v.2.2.2.2).toInt) := Ne.symm (i_ne w_1); have e1_ : ¬ ((45 : Int) = (f_X8_signAt v2 v.2.2.2.2).toInt) := Ne.symm (i_ne w_3); have e2_ : ¬ ((100 : Int) = (f_X8_signAt v2 v.2.2.2.2).toInt) := Ne.symm (i_ne w_5); have e3_ : ¬ ((102 : Int) = (f_X8_signAt v2 v.2.2.2.2).toInt) := Ne.symm (i_ne w_7); have e4_ : ¬ ((103 : Int) = (f_X8_signAt v2 v.2.2.2.2).toInt) := Ne.symm (i_ne w_9); have e5_ : ¬ ((115 : Int) = (f_X8_signAt v2 v.2.2.2.2).toInt) := Ne.symm (i_ne w_11); have e6_ : ¬ ((118 : Int) = (f_X8_signAt v2 v.2.2.2.2).toInt) := Ne.symm (i_ne w_13); simp only [Op.lookupswitch.offset_cons, Op.lookupswitch.offset_nil]; rw [if_neg e0_, if_neg e1_, if_neg e2_, if_neg e3_, if_neg e4_, if_neg e5_, if_neg e6_]) (by decide) ?_
                refine lv_iconst (v := 0) hx hb dX5_readsCommand_125 (by decide) ?_
                subst hQ
                exact ret_z v hx hb hr rfl hK hP hD hS rfl ⟨(by unfold f_X5_readsCommand; rw [if_neg w_1, if_neg w_3, if_neg w_5, if_neg w_7, if_neg w_9, if_neg w_11, if_neg w_13]; try rfl), (Or.inl rfl)⟩ dX5_readsCommand_126 hlocks

