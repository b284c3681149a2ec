theorem iX2_copyFrom_X2 : ∀ w ∈ wsX20, w ∈ wsX2_copyFrom := by decide +kernel
def f_X2_copyFrom (v : GV) (v2 : GV) : GV := (v2.1, v2.2)
set_option maxRecDepth 100000 in
set_option maxHeartbeats 1000000 in
theorem c_X2_copyFrom (l : Launch) (D : va_G) (z : ClassId × ClassId × ClassId) (h h1 h2 : Nat) (o o1 o2 : Nat) (v : GV) (v2 : GV) (sz : Nat) : CV l yX2_copyFrom wsX2_copyFrom 1 48 0 0 [.ref h, .ref o] D z (wX2 z h h1 h2 v ++ wX2 z o o1 o2 v2) sz (E0) (fun (zu : GV) => zu = f_X2_copyFrom v v2) (fun zu => wX2 z h h1 h2 zu ++ wX2 z o o1 o2 v2) := by
  refine met_v cX2_copyFrom 2 (by decide) rfl (Nat.le_of_ble_eq_true rfl) ?_
  intro p e s m args below meth c R Q hx hb hr hml hts hown hlocks hin hRf hRl hRc hRs hc0 hs0 A H hA hP hK hD hS hE hQ ls hl
  have hl : lv_has ls 2 [(0, .ref h), (1, .ref o)] := hl
  have hP : va_P D vwCl [(h, .inr (2, [.ref h1, .ref h2])), (h1, .inl (z.1, 2, .inl v.1)), (h2, .inl (z.1, 2, .inl v.2)), (o, .inr (2, [.ref o1, .ref o2])), (o1, .inl (z.1, 2, .inl v2.1)), (o2, .inl (z.1, 2, .inl v2.2))] H := hP
  have hD : va_D A [(h, .inr (2, [.ref h1, .ref h2])), (h1, .inl (z.1, 2, .inl v.1)), (h2, .inl (z.1, 2, .inl v.2)), (o, .inr (2, [.ref o1, .ref o2])), (o1, .inl (z.1, 2, .inl v2.1)), (o2, .inl (z.1, 2, .inl v2.2))] := hD
  have hown : s.vm.findClass RX2 = some m.cls := hown
  refine lv_aload_n hx hb dX2_copyFrom_0 rfl (lv_at hl 1 rfl) ?_
  refine va_get (D := D) (ci := 2) (v := .ref o1) (C := RX2) (T := TX2) (N := 2) hx hb hts iX2_copyFrom_X2 hown hK hP 3 rfl rfl 0 (by decide) (hts (.fieldLink RX2 9 "BarnPictures$Generators" "place" "[I") (by decide +kernel)) (fun _ h9 => h9) rfl dX2_copyFrom_1 ?_
  refine lv_iconst (v := 0) hx hb dX2_copyFrom_4 (by decide) ?_
  refine lv_aload_n hx hb dX2_copyFrom_5 rfl (lv_at hl 0 rfl) ?_
  refine va_get (D := D) (ci := 2) (v := .ref h1) (C := RX2) (T := TX2) (N := 2) hx hb hts iX2_copyFrom_X2 hown hK hP 0 rfl rfl 0 (by decide) (hts (.fieldLink RX2 9 "BarnPictures$Generators" "place" "[I") (by decide +kernel)) (fun _ h9 => h9) rfl dX2_copyFrom_6 ?_
  refine lv_iconst (v := 0) hx hb dX2_copyFrom_9 (by decide) ?_
  refine lv_iconst (v := 2) hx hb dX2_copyFrom_10 (by decide) ?_
  refine copy_k hx hb (hml.trans hl.1.symm) hown (hts (.methodLink RX2 18 arraycopyName) (by decide +kernel)) (hts (.native arraycopyName) (by decide +kernel)) (hts (.static arraycopyName) (by decide +kernel)) (hts (.initialized "java/lang/System") (by decide +kernel)) hK hP hD hS 4 1 2 rfl rfl (by decide) (by decide) (Nat.le_trans (by decide) hRf) (Nat.le_trans (Nat.le_of_ble_eq_true rfl) hRl) dX2_copyFrom_11 (fun H locs hP hD hS => ?_)
  have hP : va_P D vwCl [(h, .inr (2, [.ref h1, .ref h2])), (h1, .inl (z.1, 2, .inl v2.1)), (h2, .inl (z.1, 2, .inl v.2)), (o, .inr (2, [.ref o1, .ref o2])), (o1, .inl (z.1, 2, .inl v2.1)), (o2, .inl (z.1, 2, .inl v2.2))] H := hP
  have hD : va_D A [(h, .inr (2, [.ref h1, .ref h2])), (h1, .inl (z.1, 2, .inl v2.1)), (h2, .inl (z.1, 2, .inl v.2)), (o, .inr (2, [.ref o1, .ref o2])), (o1, .inl (z.1, 2, .inl v2.1)), (o2, .inl (z.1, 2, .inl v2.2))] := hD
  refine lv_aload_n hx hb dX2_copyFrom_14 rfl (lv_at hl 1 rfl) ?_
  refine va_get (D := D) (ci := 2) (v := .ref o2) (C := RX2) (T := TX2) (N := 2) hx hb hts iX2_copyFrom_X2 hown hK hP 3 rfl rfl 1 (by decide) (hts (.fieldLink RX2 15 "BarnPictures$Generators" "minutes" "[I") (by decide +kernel)) (fun _ h9 => h9) rfl dX2_copyFrom_15 ?_
  refine lv_iconst (v := 0) hx hb dX2_copyFrom_18 (by decide) ?_
  refine lv_aload_n hx hb dX2_copyFrom_19 rfl (lv_at hl 0 rfl) ?_
  refine va_get (D := D) (ci := 2) (v := .ref h2) (C := RX2) (T := TX2) (N := 2) hx hb hts iX2_copyFrom_X2 hown hK hP 0 rfl rfl 1 (by decide) (hts (.fieldLink RX2 15 "BarnPictures$Generators" "minutes" "[I") (by decide +kernel)) (fun _ h9 => h9) rfl dX2_copyFrom_20 ?_
  refine lv_iconst (v := 0) hx hb dX2_copyFrom_23 (by decide) ?_
  refine lv_iconst (v := 2) hx hb dX2_copyFrom_24 (by decide) ?_
  refine copy_k hx hb (hml.trans hl.1.symm) hown (hts (.methodLink RX2 18 arraycopyName) (by decide +kernel)) (hts (.native arraycopyName) (by decide +kernel)) (hts (.static arraycopyName) (by decide +kernel)) (hts (.initialized "java/lang/System") (by decide +kernel)) hK hP hD hS 5 2 2 rfl rfl (by decide) (by decide) (Nat.le_trans (by decide) hRf) (Nat.le_trans (Nat.le_of_ble_eq_true rfl) hRl) dX2_copyFrom_25 (fun H locs hP hD hS => ?_)
  have hP : va_P D vwCl [(h, .inr (2, [.ref h1, .ref h2])), (h1, .inl (z.1, 2, .inl v2.1)), (h2, .inl (z.1, 2, .inl v2.2)), (o, .inr (2, [.ref o1, .ref o2])), (o1, .inl (z.1, 2, .inl v2.1)), (o2, .inl (z.1, 2, .inl v2.2))] H := hP
  have hD : va_D A [(h, .inr (2, [.ref h1, .ref h2])), (h1, .inl (z.1, 2, .inl v2.1)), (h2, .inl (z.1, 2, .inl v2.2)), (o, .inr (2, [.ref o1, .ref o2])), (o1, .inl (z.1, 2, .inl v2.1)), (o2, .inl (z.1, 2, .inl v2.2))] := hD
  subst hQ
  exact ret_v (v2.1, v2.2) hx hb hr hK hP hD hS rfl rfl dX2_copyFrom_28 hlocks

theorem iX2_placeOf_X2 : ∀ w ∈ wsX20, w ∈ wsX2_placeOf := by decide +kernel
def f_X2_placeOf (v : GV) (g : Int32) (gn : Nat) : Int32 := (v.1 gn)
set_option maxRecDepth 100000 in
set_option maxHeartbeats 1000000 in
theorem c_X2_placeOf (l : Launch) (D : va_G) (z : ClassId × ClassId × ClassId) (h h1 h2 : Nat) (v : GV) (g : Int32) (gn : Nat) (ee_g : g = nI gn) (bb_g : gn < 2) (sz : Nat) : CI l yX2_placeOf wsX2_placeOf 0 0 0 0 [.ref h, .int g] D z (wX2 z h h1 h2 v) sz (E0) (fun (zr : Int32) (_ : Unit) => zr = f_X2_placeOf v g gn) (fun _ => wX2 z h h1 h2 v) := by
  refine met_i cX2_placeOf 2 (some .int) (by decide) rfl (Nat.le_of_ble_eq_true rfl) ?_
  intro p e s m args below meth c R Q hx hb hr hml hts hown hlocks hin hRf hRl hRc hRs hc0 hs0 A H hA hP hK hD hS hE hQ ls hl
  have hl : lv_has ls 2 [(0, .ref h), (1, .int g)] := hl
  have hP : va_P D vwCl [(h, .inr (2, [.ref h1, .ref h2])), (h1, .inl (z.1, 2, .inl v.1)), (h2, .inl (z.1, 2, .inl v.2))] H := hP
  have hD : va_D A [(h, .inr (2, [.ref h1, .ref h2])), (h1, .inl (z.1, 2, .inl v.1)), (h2, .inl (z.1, 2, .inl v.2))] := hD
  have hown : s.vm.findClass RX2 = some m.cls := hown
  refine lv_aload_n hx hb dX2_placeOf_0 rfl (lv_at hl 0 rfl) ?_
  refine va_get (D := D) (ci := 2) (v := .ref h1) (C := RX2) (T := TX2) (N := 2) hx hb hts iX2_placeOf_X2 hown hK hP 0 rfl rfl 0 (by decide) (hts (.fieldLink RX2 9 "BarnPictures$Generators" "place" "[I") (by decide +kernel)) (fun _ h9 => h9) rfl dX2_placeOf_1 ?_
  refine lv_iload_n hx hb dX2_placeOf_4 rfl (lv_at hl 1 rfl) ?_
  refine iald_k hx hb hK hP 1 rfl gn (ix_of ee_g (by omega) (by decide)) dX2_placeOf_5 ?_
  subst hQ
  exact ret_i () hx hb hr hK hP hD hS rfl rfl dX2_placeOf_6 hlocks

theorem iX2_minutesOf_X2 : ∀ w ∈ wsX20, w ∈ wsX2_minutesOf := by decide +kernel
def f_X2_minutesOf (v : GV) (g : Int32) (gn : Nat) : Int32 := (v.2 gn)
set_option maxRecDepth 100000 in
set_option maxHeartbeats 1000000 in
theorem c_X2_minutesOf (l : Launch) (D : va_G) (z : ClassId × ClassId × ClassId) (h h1 h2 : Nat) (v : GV) (g : Int32) (gn : Nat) (ee_g : g = nI gn) (bb_g : gn < 2) (sz : Nat) : CI l yX2_minutesOf wsX2_minutesOf 0 0 0 0 [.ref h, .int g] D z (wX2 z h h1 h2 v) sz (E0) (fun (zr : Int32) (_ : Unit) => zr = f_X2_minutesOf v g gn) (fun _ => wX2 z h h1 h2 v) := by
  refine met_i cX2_minutesOf 2 (some .int) (by decide) rfl (Nat.le_of_ble_eq_true rfl) ?_
  intro p e s m args below meth c R Q hx hb hr hml hts hown hlocks hin hRf hRl hRc hRs hc0 hs0 A H hA hP hK hD hS hE hQ ls hl
  have hl : lv_has ls 2 [(0, .ref h), (1, .int g)] := hl
  have hP : va_P D vwCl [(h, .inr (2, [.ref h1, .ref h2])), (h1, .inl (z.1, 2, .inl v.1)), (h2, .inl (z.1, 2, .inl v.2))] H := hP
  have hD : va_D A [(h, .inr (2, [.ref h1, .ref h2])), (h1, .inl (z.1, 2, .inl v.1)), (h2, .inl (z.1, 2, .inl v.2))] := hD
  have hown : s.vm.findClass RX2 = some m.cls := hown
  refine lv_aload_n hx hb dX2_minutesOf_0 rfl (lv_at hl 0 rfl) ?_
  refine va_get (D := D) (ci := 2) (v := .ref h2) (C := RX2) (T := TX2) (N := 2) hx hb hts iX2_minutesOf_X2 hown hK hP 0 rfl rfl 1 (by decide) (hts (.fieldLink RX2 15 "BarnPictures$Generators" "minutes" "[I") (by decide +kernel)) (fun _ h9 => h9) rfl dX2_minutesOf_1 ?_
  refine lv_iload_n hx hb dX2_minutesOf_4 rfl (lv_at hl 1 rfl) ?_
  refine iald_k hx hb hK hP 2 rfl gn (ix_of ee_g (by omega) (by decide)) dX2_minutesOf_5 ?_
  subst hQ
  exact ret_i () hx hb hr hK hP hD hS rfl rfl dX2_minutesOf_6 hlocks

theorem iX2_put_X2 : ∀ w ∈ wsX20, w ∈ wsX2_put := by decide +kernel
def f_X2_put (v : GV) (g : Int32) (gn : Nat) (x : Int32) : GV := ((upd v.1 gn x), v.2)
set_option maxRecDepth 100000 in
set_option maxHeartbeats 1000000 in
theorem c_X2_put (l : Launch) (D : va_G) (z : ClassId × ClassId × ClassId) (h h1 h2 : Nat) (v : GV) (g : Int32) (gn : Nat) (ee_g : g = nI gn) (bb_g : gn < 2) (x : Int32) (sz : Nat) : CV l yX2_put wsX2_put 0 0 0 0 [.ref h, .int g, .int x] D z (wX2 z h h1 h2 v) sz (E0) (fun (zu : GV) => zu = f_X2_put v g gn x) (fun zu => wX2 z h h1 h2 zu) := by
  refine met_v cX2_put 3 (by decide) rfl (Nat.le_of_ble_eq_true rfl) ?_
  intro p e s m args below meth c R Q hx hb hr hml hts hown hlocks hin hRf hRl hRc hRs hc0 hs0 A H hA hP hK hD hS hE hQ ls hl
  have hl : lv_has ls 3 [(0, .ref h), (1, .int g), (2, .int x)] := hl
  have hP : va_P D vwCl [(h, .inr (2, [.ref h1, .ref h2])), (h1, .inl (z.1, 2, .inl v.1)), (h2, .inl (z.1, 2, .inl v.2))] H := hP
  have hD : va_D A [(h, .inr (2, [.ref h1, .ref h2])), (h1, .inl (z.1, 2, .inl v.1)), (h2, .inl (z.1, 2, .inl v.2))] := hD
  have hown : s.vm.findClass RX2 = some m.cls := hown
  refine lv_aload_n hx hb dX2_put_0 rfl (lv_at hl 0 rfl) ?_
  refine va_get (D := D) (ci := 2) (v := .ref h1) (C := RX2) (T := TX2) (N := 2) hx hb hts iX2_put_X2 hown hK hP 0 rfl rfl 0 (by decide) (hts (.fieldLink RX2 9 "BarnPictures$Generators" "place" "[I") (by decide +kernel)) (fun _ h9 => h9) rfl dX2_put_1 ?_
  refine lv_iload_n hx hb dX2_put_4 rfl (lv_at hl 1 rfl) ?_
  refine lv_iload_n hx hb dX2_put_5 rfl (lv_at hl 2 rfl) ?_
  refine iast_k hx hb hK hP hD hS 1 rfl gn (ix_of ee_g (by omega) (by decide)) dX2_put_6 (fun H locs hP hD hS => ?_)
  have hP : va_P D vwCl [(h, .inr (2, [.ref h1, .ref h2])), (h1, .inl (z.1, 2, .inl (upd v.1 gn x))), (h2, .inl (z.1, 2, .inl v.2))] H := hP
  have hD : va_D A [(h, .inr (2, [.ref h1, .ref h2])), (h1, .inl (z.1, 2, .inl (upd v.1 gn x))), (h2, .inl (z.1, 2, .inl v.2))] := hD
  subst hQ
  exact ret_v ((upd v.1 gn x), v.2) hx hb hr hK hP hD hS rfl rfl dX2_put_7 hlocks

theorem iX2_addMinutes_X2 : ∀ w ∈ wsX20, w ∈ wsX2_addMinutes := by decide +kernel
def f_X2_addMinutes (v : GV) (g : Int32) (gn : Nat) (x : Int32) : GV := (v.1, (upd v.2 gn ((v.2 gn) + x)))
set_option maxRecDepth 100000 in
set_option maxHeartbeats 1000000 in
theorem c_X2_addMinutes (l : Launch) (D : va_G) (z : ClassId × ClassId × ClassId) (h h1 h2 : Nat) (v : GV) (g : Int32) (gn : Nat) (ee_g : g = nI gn) (bb_g : gn < 2) (x : Int32) (sz : Nat) : CV l yX2_addMinutes wsX2_addMinutes 0 0 0 0 [.ref h, .int g, .int x] D z (wX2 z h h1 h2 v) sz (E0) (fun (zu : GV) => zu = f_X2_addMinutes v g gn x) (fun zu => wX2 z h h1 h2 zu) := by
  refine met_v cX2_addMinutes 3 (by decide) rfl (Nat.le_of_ble_eq_true rfl) ?_
  intro p e s m args below meth c R Q hx hb hr hml hts hown hlocks hin hRf hRl hRc hRs hc0 hs0 A H hA hP hK hD hS hE hQ ls hl
  have hl : lv_has ls 3 [(0, .ref h), (1, .int g), (2, .int x)] := hl
  have hP : va_P D vwCl [(h, .inr (2, [.ref h1, .ref h2])), (h1, .inl (z.1, 2, .inl v.1)), (h2, .inl (z.1, 2, .inl v.2))] H := hP
  have hD : va_D A [(h, .inr (2, [.ref h1, .ref h2])), (h1, .inl (z.1, 2, .inl v.1)), (h2, .inl (z.1, 2, .inl v.2))] := hD
  have hown : s.vm.findClass RX2 = some m.cls := hown
  refine lv_aload_n hx hb dX2_addMinutes_0 rfl (lv_at hl 0 rfl) ?_
  refine va_get (D := D) (ci := 2) (v := .ref h2) (C := RX2) (T := TX2) (N := 2) hx hb hts iX2_addMinutes_X2 hown hK hP 0 rfl rfl 1 (by decide) (hts (.fieldLink RX2 15 "BarnPictures$Generators" "minutes" "[I") (by decide +kernel)) (fun _ h9 => h9) rfl dX2_addMinutes_1 ?_
  refine lv_iload_n hx hb dX2_addMinutes_4 rfl (lv_at hl 1 rfl) ?_
  refine lv_dup2_11 hx hb dX2_addMinutes_5 rfl rfl ?_
  refine iald_k hx hb hK hP 2 rfl gn (ix_of ee_g (by omega) (by decide)) dX2_addMinutes_6 ?_
  refine lv_iload_n hx hb dX2_addMinutes_7 rfl (lv_at hl 2 rfl) ?_
  refine lv_iadd hx hb dX2_addMinutes_8 ?_
  refine iast_k hx hb hK hP hD hS 2 rfl gn (ix_of ee_g (by omega) (by decide)) dX2_addMinutes_9 (fun H locs hP hD hS => ?_)
  have hP : va_P D vwCl [(h, .inr (2, [.ref h1, .ref h2])), (h1, .inl (z.1, 2, .inl v.1)), (h2, .inl (z.1, 2, .inl (upd v.2 gn ((v.2 gn) + x))))] H := hP
  have hD : va_D A [(h, .inr (2, [.ref h1, .ref h2])), (h1, .inl (z.1, 2, .inl v.1)), (h2, .inl (z.1, 2, .inl (upd v.2 gn ((v.2 gn) + x))))] := hD
  subst hQ
  exact ret_v (v.1, (upd v.2 gn ((v.2 gn) + x))) hx hb hr hK hP hD hS rfl rfl dX2_addMinutes_10 hlocks

theorem iX2_numberAt_X2 : ∀ w ∈ wsX20, w ∈ wsX2_numberAt := by decide +kernel
def f_X2_numberAt_4_x (v : GV) (x : Int32) (q4 : Int32) : Int32 := q4
def st_X2_numberAt_4 (v : GV) (x : Int32) (k4 : Nat) (q4 : Int32) : Int32 := if (v.1 k4) = x then (q4 + 1) else q4
def lp_X2_numberAt_4 (v : GV) (x : Int32) (i0 : Int32) : Nat → Int32
  | 0 => i0
  | k + 1 => st_X2_numberAt_4 v x k (lp_X2_numberAt_4 v x i0 k)
theorem lp_X2_numberAt_4_0 (v : GV) (x : Int32) (i0 : Int32) : lp_X2_numberAt_4 v x i0 0 = i0 := rfl
theorem lp_X2_numberAt_4_s (v : GV) (x : Int32) (i0 : Int32) (k : Nat) : lp_X2_numberAt_4 v x i0 (k + 1) = st_X2_numberAt_4 v x k (lp_X2_numberAt_4 v x i0 k) := rfl
def f_X2_numberAt (v : GV) (x : Int32) : Int32 := f_X2_numberAt_4_x v x (lp_X2_numberAt_4 v x 0 2)
set_option maxRecDepth 100000 in
set_option maxHeartbeats 1000000 in
theorem c_X2_numberAt (l : Launch) (D : va_G) (z : ClassId × ClassId × ClassId) (h h1 h2 : Nat) (v : GV) (x : Int32) (sz : Nat) : CI l yX2_numberAt wsX2_numberAt 0 0 0 0 [.ref h, .int x] D z (wX2 z h h1 h2 v) sz (E0) (fun (zr : Int32) (_ : Unit) => zr = f_X2_numberAt v x) (fun _ => wX2 z h h1 h2 v) := by
  refine met_i cX2_numberAt 4 (some .int) (by decide) rfl (Nat.le_of_ble_eq_true rfl) ?_
  intro p e s m args below meth c R Q hx hb hr hml hts hown hlocks hin hRf hRl hRc hRs hc0 hs0 A H hA hP hK hD hS hE hQ ls hl
  have hl : lv_has ls 4 [(0, .ref h), (1, .int x)] := hl
  have hP : va_P D vwCl [(h, .inr (2, [.ref h1, .ref h2])), (h1, .inl (z.1, 2, .inl v.1)), (h2, .inl (z.1, 2, .inl v.2))] H := hP
  have hD : va_D A [(h, .inr (2, [.ref h1, .ref h2])), (h1, .inl (z.1, 2, .inl v.1)), (h2, .inl (z.1, 2, .inl v.2))] := hD
  have hown : s.vm.findClass RX2 = some m.cls := hown
  refine lv_iconst (v := 0) hx hb dX2_numberAt_0 (by decide) ?_
  refine lv_istore_n (lv' := [(2, .int 0), (0, .ref h), (1, .int x)]) hx hb dX2_numberAt_1 rfl hl (by decide) rfl (fun ls hl => ?_)
  refine lv_iconst (v := 0) hx hb dX2_numberAt_2 (by decide) ?_
  refine lv_istore_n (lv' := [(3, .int 0), (2, .int 0), (0, .ref h), (1, .int x)]) hx hb dX2_numberAt_3 rfl hl (by decide) rfl (fun ls hl => ?_)
  have L4 : ∀ (n4 k4 : Nat) (q4 : Int32), q4 = lp_X2_numberAt_4 v x 0 k4 → k4 ≤ 2 → 2 + 1 ≤ k4 + n4 → ∀ (H : Heap) (locs : List Loc) (ls : Array Slot), va_P D vwCl [(h, .inr (2, [.ref h1, .ref h2])), (h1, .inl (z.1, 2, .inl v.1)), (h2, .inl (z.1, 2, .inl v.2))] H → va_D A [(h, .inr (2, [.ref h1, .ref h2])), (h1, .inl (z.1, 2, .inl v.1)), (h2, .inl (z.1, 2, .inl v.2))] → va_S A s.heap H locs → lv_has ls 4 [(3, .int (nI k4)), (2, .int q4), (0, .ref h), (1, .int x)] → W p l e R s m args below meth c H locs 0 0 Q (F0 m 4 ls []) := by
    intro n4
    induction n4 with
    | zero => intro k4 q4 hq4 h1 h2; exact absurd h2 (by omega)
    | succ n4 ih4 =>
      intro k4 q4 hq4 hk4 hn4 H locs ls hP hD hS hl
      refine lv_iload_n hx hb dX2_numberAt_4 rfl (lv_at hl 0 rfl) ?_
      refine lv_iconst (v := 2) hx hb dX2_numberAt_5 (by decide) ?_
      rcases Nat.lt_or_ge k4 2 with hlt | hge
      · refine lv_icmp_ge (tgt := 28) hx hb dX2_numberAt_6 (by decide) (fun c_2 => absurd c_2 (nI_ge (a := k4) (b := 2) (by omega) (by omega))) (fun c_2 => ?_)
        refine lv_aload_n hx hb dX2_numberAt_9 rfl (lv_at hl 2 rfl) ?_
        refine va_get (D := D) (ci := 2) (v := .ref h1) (C := RX2) (T := TX2) (N := 2) hx hb hts iX2_numberAt_X2 hown hK hP 0 rfl rfl 0 (by decide) (hts (.fieldLink RX2 9 "BarnPictures$Generators" "place" "[I") (by decide +kernel)) (fun _ h9 => h9) rfl dX2_numberAt_10 ?_
        refine lv_iload_n hx hb dX2_numberAt_13 rfl (lv_at hl 0 rfl) ?_
        refine iald_k hx hb hK hP 1 rfl k4 (ix_of (nrf k4) (by omega) (by decide)) dX2_numberAt_14 ?_
        refine lv_iload_n hx hb dX2_numberAt_15 rfl (lv_at hl 3 rfl) ?_
        refine lv_icmp_ne (tgt := 22) hx hb dX2_numberAt_16 (by decide) (fun c_3 => ?_) (fun c_3 => ?_)
        · refine lv_iinc (v := nI (k4 + 1)) (lv' := [(3, .int (nI (k4 + 1))), (2, .int q4), (0, .ref h), (1, .int x)]) hx hb dX2_numberAt_22 hl (k := 0) rfl (nI_add k4 1) (by decide) rfl (fun ls hl => ?_)
          refine lv_goto (tgt := 4) hx hb dX2_numberAt_25 (by decide) ?_
          exact ih4 (k4 + 1) q4 (by rw [lp_X2_numberAt_4_s, ← hq4]; unfold st_X2_numberAt_4; rw [if_neg c_3]; try rfl) (by omega) (by omega) _ _ _ hP hD hS (lv_sub hl [0, 1, 2, 3] rfl)
        · refine lv_iinc (v := (q4 + 1)) (lv' := [(2, .int (q4 + 1)), (3, .int (nI k4)), (0, .ref h), (1, .int x)]) hx hb dX2_numberAt_19 hl (k := 1) rfl rfl (by decide) rfl (fun ls hl => ?_)
          refine lv_iinc (v := nI (k4 + 1)) (lv' := [(3, .int (nI (k4 + 1))), (2, .int (q4 + 1)), (0, .ref h), (1, .int x)]) hx hb dX2_numberAt_22 hl (k := 1) rfl (nI_add k4 1) (by decide) rfl (fun ls hl => ?_)
          refine lv_goto (tgt := 4) hx hb dX2_numberAt_25 (by decide) ?_
          exact ih4 (k4 + 1) (q4 + 1) (by rw [lp_X2_numberAt_4_s, ← hq4]; unfold st_X2_numberAt_4; rw [if_pos c_3]; try rfl) (by omega) (by omega) _ _ _ hP hD hS (lv_sub hl [0, 1, 2, 3] rfl)
      · obtain rfl : 2 = k4 := by omega
        refine lv_icmp_ge (tgt := 28) hx hb dX2_numberAt_6 (by decide) (fun c_2 => ?_) (fun c_2 => absurd (nI_le (a := 2) (b := 2) (by omega) (by omega)) c_2)
        have hP : va_P D vwCl [(h, .inr (2, [.ref h1, .ref h2])), (h1, .inl (z.1, 2, .inl v.1)), (h2, .inl (z.1, 2, .inl v.2))] H := hP
        have hD : va_D A [(h, .inr (2, [.ref h1, .ref h2])), (h1, .inl (z.1, 2, .inl v.1)), (h2, .inl (z.1, 2, .inl v.2))] := hD
        refine lv_iload_n hx hb dX2_numberAt_28 rfl (lv_at hl 1 rfl) ?_
        subst hQ
        exact ret_i () hx hb hr hK hP hD hS rfl (by unfold f_X2_numberAt; rw [← hq4]; unfold f_X2_numberAt_4_x; try rfl) dX2_numberAt_29 hlocks
  exact L4 (2 + 1) 0 0 (lp_X2_numberAt_4_0 v x 0).symm (Nat.zero_le _) (by omega) _ _ _ hP hD hS (lv_sub hl [0, 1, 2, 3] rfl)

theorem iX4_copyFrom_X4 : ∀ w ∈ wsX40, w ∈ wsX4_copyFrom := by decide +kernel
def f_X4_copyFrom (v : RV) (v2 : RV) : RV := (v2.1, v2.2.1, v2.2.2.1, v2.2.2.2.1, v2.2.2.2.2)
set_option maxRecDepth 100000 in
set_option maxHeartbeats 1000000 in
theorem c_X4_copyFrom (l : Launch) (D : va_G) (z : ClassId × ClassId × ClassId) (h h1 h2 h3 h4 h5 : Nat) (o o1 o2 o3 o4 o5 : Nat) (v : RV) (v2 : RV) (sz : Nat) : CV l yX4_copyFrom wsX4_copyFrom 1 48 0 0 [.ref h, .ref o] D z (wX4 z h h1 h2 h3 h4 h5 v ++ wX4 z o o1 o2 o3 o4 o5 v2) sz (E0) (fun (zu : RV) => zu = f_X4_copyFrom v v2) (fun zu => wX4 z h h1 h2 h3 h4 h5 zu ++ wX4 z o o1 o2 o3 o4 o5 v2) := by
  refine met_v cX4_copyFrom 2 (by decide) rfl (Nat.le_of_ble_eq_true rfl) ?_
  intro p e s m args below meth c R Q hx hb hr hml hts hown hlocks hin hRf hRl hRc hRs hc0 hs0 A H hA hP hK hD hS hE hQ ls hl
  have hl : lv_has ls 2 [(0, .ref h), (1, .ref o)] := hl
  have hP : va_P D vwCl [(h, .inr (4, [.ref h1, .ref h2, .ref h3, .ref h4, .ref h5])), (h1, .inl (z.1, 10, .inl v.1)), (h2, .inl (z.1, 10, .inl v.2.1)), (h3, .inl (z.1, 10, .inl v.2.2.1)), (h4, .inl (z.1, 10, .inl v.2.2.2.1)), (h5, .inl (z.1, 10, .inl v.2.2.2.2)), (o, .inr (4, [.ref o1, .ref o2, .ref o3, .ref o4, .ref o5])), (o1, .inl (z.1, 10, .inl v2.1)), (o2, .inl (z.1, 10, .inl v2.2.1)), (o3, .inl (z.1, 10, .inl v2.2.2.1)), (o4, .inl (z.1, 10, .inl v2.2.2.2.1)), (o5, .inl (z.1, 10, .inl v2.2.2.2.2))] H := hP
  have hD : va_D A [(h, .inr (4, [.ref h1, .ref h2, .ref h3, .ref h4, .ref h5])), (h1, .inl (z.1, 10, .inl v.1)), (h2, .inl (z.1, 10, .inl v.2.1)), (h3, .inl (z.1, 10, .inl v.2.2.1)), (h4, .inl (z.1, 10, .inl v.2.2.2.1)), (h5, .inl (z.1, 10, .inl v.2.2.2.2)), (o, .inr (4, [.ref o1, .ref o2, .ref o3, .ref o4, .ref o5])), (o1, .inl (z.1, 10, .inl v2.1)), (o2, .inl (z.1, 10, .inl v2.2.1)), (o3, .inl (z.1, 10, .inl v2.2.2.1)), (o4, .inl (z.1, 10, .inl v2.2.2.2.1)), (o5, .inl (z.1, 10, .inl v2.2.2.2.2))] := hD
  have hown : s.vm.findClass RX4 = some m.cls := hown
  refine lv_aload_n hx hb dX4_copyFrom_0 rfl (lv_at hl 1 rfl) ?_
  refine va_get (D := D) (ci := 4) (v := .ref o1) (C := RX4) (T := TX4) (N := 5) hx hb hts iX4_copyFrom_X4 hown hK hP 6 rfl rfl 0 (by decide) (hts (.fieldLink RX4 9 "BarnPictures$Reels" "place" "[I") (by decide +kernel)) (fun _ h9 => h9) rfl dX4_copyFrom_1 ?_
  refine lv_iconst (v := 0) hx hb dX4_copyFrom_4 (by decide) ?_
  refine lv_aload_n hx hb dX4_copyFrom_5 rfl (lv_at hl 0 rfl) ?_
  refine va_get (D := D) (ci := 4) (v := .ref h1) (C := RX4) (T := TX4) (N := 5) hx hb hts iX4_copyFrom_X4 hown hK hP 0 rfl rfl 0 (by decide) (hts (.fieldLink RX4 9 "BarnPictures$Reels" "place" "[I") (by decide +kernel)) (fun _ h9 => h9) rfl dX4_copyFrom_6 ?_
  refine lv_iconst (v := 0) hx hb dX4_copyFrom_9 (by decide) ?_
  refine lv_bipush (v := 10) hx hb dX4_copyFrom_10 (by decide) ?_
  refine copy_k hx hb (hml.trans hl.1.symm) hown (hts (.methodLink RX4 27 arraycopyName) (by decide +kernel)) (hts (.native arraycopyName) (by decide +kernel)) (hts (.static arraycopyName) (by decide +kernel)) (hts (.initialized "java/lang/System") (by decide +kernel)) hK hP hD hS 7 1 10 rfl rfl (by decide) (by decide) (Nat.le_trans (by decide) hRf) (Nat.le_trans (Nat.le_of_ble_eq_true rfl) hRl) dX4_copyFrom_12 (fun H locs hP hD hS => ?_)
  have hP : va_P D vwCl [(h, .inr (4, [.ref h1, .ref h2, .ref h3, .ref h4, .ref h5])), (h1, .inl (z.1, 10, .inl v2.1)), (h2, .inl (z.1, 10, .inl v.2.1)), (h3, .inl (z.1, 10, .inl v.2.2.1)), (h4, .inl (z.1, 10, .inl v.2.2.2.1)), (h5, .inl (z.1, 10, .inl v.2.2.2.2)), (o, .inr (4, [.ref o1, .ref o2, .ref o3, .ref o4, .ref o5])), (o1, .inl (z.1, 10, .inl v2.1)), (o2, .inl (z.1, 10, .inl v2.2.1)), (o3, .inl (z.1, 10, .inl v2.2.2.1)), (o4, .inl (z.1, 10, .inl v2.2.2.2.1)), (o5, .inl (z.1, 10, .inl v2.2.2.2.2))] H := hP
  have hD : va_D A [(h, .inr (4, [.ref h1, .ref h2, .ref h3, .ref h4, .ref h5])), (h1, .inl (z.1, 10, .inl v2.1)), (h2, .inl (z.1, 10, .inl v.2.1)), (h3, .inl (z.1, 10, .inl v.2.2.1)), (h4, .inl (z.1, 10, .inl v.2.2.2.1)), (h5, .inl (z.1, 10, .inl v.2.2.2.2)), (o, .inr (4, [.ref o1, .ref o2, .ref o3, .ref o4, .ref o5])), (o1, .inl (z.1, 10, .inl v2.1)), (o2, .inl (z.1, 10, .inl v2.2.1)), (o3, .inl (z.1, 10, .inl v2.2.2.1)), (o4, .inl (z.1, 10, .inl v2.2.2.2.1)), (o5, .inl (z.1, 10, .inl v2.2.2.2.2))] := hD
  refine lv_aload_n hx hb dX4_copyFrom_15 rfl (lv_at hl 1 rfl) ?_
  refine va_get (D := D) (ci := 4) (v := .ref o2) (C := RX4) (T := TX4) (N := 5) hx hb hts iX4_copyFrom_X4 hown hK hP 6 rfl rfl 1 (by decide) (hts (.fieldLink RX4 15 "BarnPictures$Reels" "minutes" "[I") (by decide +kernel)) (fun _ h9 => h9) rfl dX4_copyFrom_16 ?_
  refine lv_iconst (v := 0) hx hb dX4_copyFrom_19 (by decide) ?_
  refine lv_aload_n hx hb dX4_copyFrom_20 rfl (lv_at hl 0 rfl) ?_
  refine va_get (D := D) (ci := 4) (v := .ref h2) (C := RX4) (T := TX4) (N := 5) hx hb hts iX4_copyFrom_X4 hown hK hP 0 rfl rfl 1 (by decide) (hts (.fieldLink RX4 15 "BarnPictures$Reels" "minutes" "[I") (by decide +kernel)) (fun _ h9 => h9) rfl dX4_copyFrom_21 ?_
  refine lv_iconst (v := 0) hx hb dX4_copyFrom_24 (by decide) ?_
  refine lv_bipush (v := 10) hx hb dX4_copyFrom_25 (by decide) ?_
  refine copy_k hx hb (hml.trans hl.1.symm) hown (hts (.methodLink RX4 27 arraycopyName) (by decide +kernel)) (hts (.native arraycopyName) (by decide +kernel)) (hts (.static arraycopyName) (by decide +kernel)) (hts (.initialized "java/lang/System") (by decide +kernel)) hK hP hD hS 8 2 10 rfl rfl (by decide) (by decide) (Nat.le_trans (by decide) hRf) (Nat.le_trans (Nat.le_of_ble_eq_true rfl) hRl) dX4_copyFrom_27 (fun H locs hP hD hS => ?_)
  have hP : va_P D vwCl [(h, .inr (4, [.ref h1, .ref h2, .ref h3, .ref h4, .ref h5])), (h1, .inl (z.1, 10, .inl v2.1)), (h2, .inl (z.1, 10, .inl v2.2.1)), (h3, .inl (z.1, 10, .inl v.2.2.1)), (h4, .inl (z.1, 10, .inl v.2.2.2.1)), (h5, .inl (z.1, 10, .inl v.2.2.2.2)), (o, .inr (4, [.ref o1, .ref o2, .ref o3, .ref o4, .ref o5])), (o1, .inl (z.1, 10, .inl v2.1)), (o2, .inl (z.1, 10, .inl v2.2.1)), (o3, .inl (z.1, 10, .inl v2.2.2.1)), (o4, .inl (z.1, 10, .inl v2.2.2.2.1)), (o5, .inl (z.1, 10, .inl v2.2.2.2.2))] H := hP
  have hD : va_D A [(h, .inr (4, [.ref h1, .ref h2, .ref h3, .ref h4, .ref h5])), (h1, .inl (z.1, 10, .inl v2.1)), (h2, .inl (z.1, 10, .inl v2.2.1)), (h3, .inl (z.1, 10, .inl v.2.2.1)), (h4, .inl (z.1, 10, .inl v.2.2.2.1)), (h5, .inl (z.1, 10, .inl v.2.2.2.2)), (o, .inr (4, [.ref o1, .ref o2, .ref o3, .ref o4, .ref o5])), (o1, .inl (z.1, 10, .inl v2.1)), (o2, .inl (z.1, 10, .inl v2.2.1)), (o3, .inl (z.1, 10, .inl v2.2.2.1)), (o4, .inl (z.1, 10, .inl v2.2.2.2.1)), (o5, .inl (z.1, 10, .inl v2.2.2.2.2))] := hD
  refine lv_aload_n hx hb dX4_copyFrom_30 rfl (lv_at hl 1 rfl) ?_
  refine va_get (D := D) (ci := 4) (v := .ref o3) (C := RX4) (T := TX4) (N := 5) hx hb hts iX4_copyFrom_X4 hown hK hP 6 rfl rfl 2 (by decide) (hts (.fieldLink RX4 18 "BarnPictures$Reels" "wear" "[I") (by decide +kernel)) (fun _ h9 => h9) rfl dX4_copyFrom_31 ?_
  refine lv_iconst (v := 0) hx hb dX4_copyFrom_34 (by decide) ?_
  refine lv_aload_n hx hb dX4_copyFrom_35 rfl (lv_at hl 0 rfl) ?_
  refine va_get (D := D) (ci := 4) (v := .ref h3) (C := RX4) (T := TX4) (N := 5) hx hb hts iX4_copyFrom_X4 hown hK hP 0 rfl rfl 2 (by decide) (hts (.fieldLink RX4 18 "BarnPictures$Reels" "wear" "[I") (by decide +kernel)) (fun _ h9 => h9) rfl dX4_copyFrom_36 ?_
  refine lv_iconst (v := 0) hx hb dX4_copyFrom_39 (by decide) ?_
  refine lv_bipush (v := 10) hx hb dX4_copyFrom_40 (by decide) ?_
  refine copy_k hx hb (hml.trans hl.1.symm) hown (hts (.methodLink RX4 27 arraycopyName) (by decide +kernel)) (hts (.native arraycopyName) (by decide +kernel)) (hts (.static arraycopyName) (by decide +kernel)) (hts (.initialized "java/lang/System") (by decide +kernel)) hK hP hD hS 9 3 10 rfl rfl (by decide) (by decide) (Nat.le_trans (by decide) hRf) (Nat.le_trans (Nat.le_of_ble_eq_true rfl) hRl) dX4_copyFrom_42 (fun H locs hP hD hS => ?_)
  have hP : va_P D vwCl [(h, .inr (4, [.ref h1, .ref h2, .ref h3, .ref h4, .ref h5])), (h1, .inl (z.1, 10, .inl v2.1)), (h2, .inl (z.1, 10, .inl v2.2.1)), (h3, .inl (z.1, 10, .inl v2.2.2.1)), (h4, .inl (z.1, 10, .inl v.2.2.2.1)), (h5, .inl (z.1, 10, .inl v.2.2.2.2)), (o, .inr (4, [.ref o1, .ref o2, .ref o3, .ref o4, .ref o5])), (o1, .inl (z.1, 10, .inl v2.1)), (o2, .inl (z.1, 10, .inl v2.2.1)), (o3, .inl (z.1, 10, .inl v2.2.2.1)), (o4, .inl (z.1, 10, .inl v2.2.2.2.1)), (o5, .inl (z.1, 10, .inl v2.2.2.2.2))] H := hP
  have hD : va_D A [(h, .inr (4, [.ref h1, .ref h2, .ref h3, .ref h4, .ref h5])), (h1, .inl (z.1, 10, .inl v2.1)), (h2, .inl (z.1, 10, .inl v2.2.1)), (h3, .inl (z.1, 10, .inl v2.2.2.1)), (h4, .inl (z.1, 10, .inl v.2.2.2.1)), (h5, .inl (z.1, 10, .inl v.2.2.2.2)), (o, .inr (4, [.ref o1, .ref o2, .ref o3, .ref o4, .ref o5])), (o1, .inl (z.1, 10, .inl v2.1)), (o2, .inl (z.1, 10, .inl v2.2.1)), (o3, .inl (z.1, 10, .inl v2.2.2.1)), (o4, .inl (z.1, 10, .inl v2.2.2.2.1)), (o5, .inl (z.1, 10, .inl v2.2.2.2.2))] := hD
  refine lv_aload_n hx hb dX4_copyFrom_45 rfl (lv_at hl 1 rfl) ?_
  refine va_get (D := D) (ci := 4) (v := .ref o4) (C := RX4) (T := TX4) (N := 5) hx hb hts iX4_copyFrom_X4 hown hK hP 6 rfl rfl 3 (by decide) (hts (.fieldLink RX4 21 "BarnPictures$Reels" "splices" "[I") (by decide +kernel)) (fun _ h9 => h9) rfl dX4_copyFrom_46 ?_
  refine lv_iconst (v := 0) hx hb dX4_copyFrom_49 (by decide) ?_
  refine lv_aload_n hx hb dX4_copyFrom_50 rfl (lv_at hl 0 rfl) ?_
  refine va_get (D := D) (ci := 4) (v := .ref h4) (C := RX4) (T := TX4) (N := 5) hx hb hts iX4_copyFrom_X4 hown hK hP 0 rfl rfl 3 (by decide) (hts (.fieldLink RX4 21 "BarnPictures$Reels" "splices" "[I") (by decide +kernel)) (fun _ h9 => h9) rfl dX4_copyFrom_51 ?_
  refine lv_iconst (v := 0) hx hb dX4_copyFrom_54 (by decide) ?_
  refine lv_bipush (v := 10) hx hb dX4_copyFrom_55 (by decide) ?_
  refine copy_k hx hb (hml.trans hl.1.symm) hown (hts (.methodLink RX4 27 arraycopyName) (by decide +kernel)) (hts (.native arraycopyName) (by decide +kernel)) (hts (.static arraycopyName) (by decide +kernel)) (hts (.initialized "java/lang/System") (by decide +kernel)) hK hP hD hS 10 4 10 rfl rfl (by decide) (by decide) (Nat.le_trans (by decide) hRf) (Nat.le_trans (Nat.le_of_ble_eq_true rfl) hRl) dX4_copyFrom_57 (fun H locs hP hD hS => ?_)
  have hP : va_P D vwCl [(h, .inr (4, [.ref h1, .ref h2, .ref h3, .ref h4, .ref h5])), (h1, .inl (z.1, 10, .inl v2.1)), (h2, .inl (z.1, 10, .inl v2.2.1)), (h3, .inl (z.1, 10, .inl v2.2.2.1)), (h4, .inl (z.1, 10, .inl v2.2.2.2.1)), (h5, .inl (z.1, 10, .inl v.2.2.2.2)), (o, .inr (4, [.ref o1, .ref o2, .ref o3, .ref o4, .ref o5])), (o1, .inl (z.1, 10, .inl v2.1)), (o2, .inl (z.1, 10, .inl v2.2.1)), (o3, .inl (z.1, 10, .inl v2.2.2.1)), (o4, .inl (z.1, 10, .inl v2.2.2.2.1)), (o5, .inl (z.1, 10, .inl v2.2.2.2.2))] H := hP
  have hD : va_D A [(h, .inr (4, [.ref h1, .ref h2, .ref h3, .ref h4, .ref h5])), (h1, .inl (z.1, 10, .inl v2.1)), (h2, .inl (z.1, 10, .inl v2.2.1)), (h3, .inl (z.1, 10, .inl v2.2.2.1)), (h4, .inl (z.1, 10, .inl v2.2.2.2.1)), (h5, .inl (z.1, 10, .inl v.2.2.2.2)), (o, .inr (4, [.ref o1, .ref o2, .ref o3, .ref o4, .ref o5])), (o1, .inl (z.1, 10, .inl v2.1)), (o2, .inl (z.1, 10, .inl v2.2.1)), (o3, .inl (z.1, 10, .inl v2.2.2.1)), (o4, .inl (z.1, 10, .inl v2.2.2.2.1)), (o5, .inl (z.1, 10, .inl v2.2.2.2.2))] := hD
  refine lv_aload_n hx hb dX4_copyFrom_60 rfl (lv_at hl 1 rfl) ?_
  refine va_get (D := D) (ci := 4) (v := .ref o5) (C := RX4) (T := TX4) (N := 5) hx hb hts iX4_copyFrom_X4 hown hK hP 6 rfl rfl 4 (by decide) (hts (.fieldLink RX4 24 "BarnPictures$Reels" "playedIn" "[I") (by decide +kernel)) (fun _ h9 => h9) rfl dX4_copyFrom_61 ?_
  refine lv_iconst (v := 0) hx hb dX4_copyFrom_64 (by decide) ?_
  refine lv_aload_n hx hb dX4_copyFrom_65 rfl (lv_at hl 0 rfl) ?_
  refine va_get (D := D) (ci := 4) (v := .ref h5) (C := RX4) (T := TX4) (N := 5) hx hb hts iX4_copyFrom_X4 hown hK hP 0 rfl rfl 4 (by decide) (hts (.fieldLink RX4 24 "BarnPictures$Reels" "playedIn" "[I") (by decide +kernel)) (fun _ h9 => h9) rfl dX4_copyFrom_66 ?_
  refine lv_iconst (v := 0) hx hb dX4_copyFrom_69 (by decide) ?_
  refine lv_bipush (v := 10) hx hb dX4_copyFrom_70 (by decide) ?_
  refine copy_k hx hb (hml.trans hl.1.symm) hown (hts (.methodLink RX4 27 arraycopyName) (by decide +kernel)) (hts (.native arraycopyName) (by decide +kernel)) (hts (.static arraycopyName) (by decide +kernel)) (hts (.initialized "java/lang/System") (by decide +kernel)) hK hP hD hS 11 5 10 rfl rfl (by decide) (by decide) (Nat.le_trans (by decide) hRf) (Nat.le_trans (Nat.le_of_ble_eq_true rfl) hRl) dX4_copyFrom_72 (fun H locs hP hD hS => ?_)
  have hP : va_P D vwCl [(h, .inr (4, [.ref h1, .ref h2, .ref h3, .ref h4, .ref h5])), (h1, .inl (z.1, 10, .inl v2.1)), (h2, .inl (z.1, 10, .inl v2.2.1)), (h3, .inl (z.1, 10, .inl v2.2.2.1)), (h4, .inl (z.1, 10, .inl v2.2.2.2.1)), (h5, .inl (z.1, 10, .inl v2.2.2.2.2)), (o, .inr (4, [.ref o1, .ref o2, .ref o3, .ref o4, .ref o5])), (o1, .inl (z.1, 10, .inl v2.1)), (o2, .inl (z.1, 10, .inl v2.2.1)), (o3, .inl (z.1, 10, .inl v2.2.2.1)), (o4, .inl (z.1, 10, .inl v2.2.2.2.1)), (o5, .inl (z.1, 10, .inl v2.2.2.2.2))] H := hP
  have hD : va_D A [(h, .inr (4, [.ref h1, .ref h2, .ref h3, .ref h4, .ref h5])), (h1, .inl (z.1, 10, .inl v2.1)), (h2, .inl (z.1, 10, .inl v2.2.1)), (h3, .inl (z.1, 10, .inl v2.2.2.1)), (h4, .inl (z.1, 10, .inl v2.2.2.2.1)), (h5, .inl (z.1, 10, .inl v2.2.2.2.2)), (o, .inr (4, [.ref o1, .ref o2, .ref o3, .ref o4, .ref o5])), (o1, .inl (z.1, 10, .inl v2.1)), (o2, .inl (z.1, 10, .inl v2.2.1)), (o3, .inl (z.1, 10, .inl v2.2.2.1)), (o4, .inl (z.1, 10, .inl v2.2.2.2.1)), (o5, .inl (z.1, 10, .inl v2.2.2.2.2))] := hD
  subst hQ
  exact ret_v (v2.1, v2.2.1, v2.2.2.1, v2.2.2.2.1, v2.2.2.2.2) hx hb hr hK hP hD hS rfl rfl dX4_copyFrom_75 hlocks

theorem iX4_isThere_X4 : ∀ w ∈ wsX40, w ∈ wsX4_isThere := by decide +kernel
def f_X4_isThere (v : RV) (x : Int32) : Int32 := if x < 0 then 0 else if 10 ≤ x then 0 else if (v.1 x.toNatClampNeg) = (-2) then 0 else 1
set_option maxRecDepth 100000 in
set_option maxHeartbeats 1000000 in
theorem c_X4_isThere (l : Launch) (D : va_G) (z : ClassId × ClassId × ClassId) (h h1 h2 h3 h4 h5 : Nat) (v : RV) (x : Int32) (sz : Nat) : CI l yX4_isThere wsX4_isThere 0 0 0 0 [.ref h, .int x] D z (wX4 z h h1 h2 h3 h4 h5 v) sz (E0) (fun (zr : Int32) (_ : Unit) => zr = f_X4_isThere v x ∧ (zr = 0 ∨ zr = 1)) (fun _ => wX4 z h h1 h2 h3 h4 h5 v) := by
  refine met_i cX4_isThere 2 (some .boolean) (by decide) rfl (Nat.le_of_ble_eq_true rfl) ?_
  intro p e s m args below meth c R Q hx hb hr hml hts hown hlocks hin hRf hRl hRc hRs hc0 hs0 A H hA hP hK hD hS hE hQ ls hl
  have hl : lv_has ls 2 [(0, .ref h), (1, .int x)] := hl
  have hP : va_P D vwCl [(h, .inr (4, [.ref h1, .ref h2, .ref h3, .ref h4, .ref h5])), (h1, .inl (z.1, 10, .inl v.1)), (h2, .inl (z.1, 10, .inl v.2.1)), (h3, .inl (z.1, 10, .inl v.2.2.1)), (h4, .inl (z.1, 10, .inl v.2.2.2.1)), (h5, .inl (z.1, 10, .inl v.2.2.2.2))] H := hP
  have hD : va_D A [(h, .inr (4, [.ref h1, .ref h2, .ref h3, .ref h4, .ref h5])), (h1, .inl (z.1, 10, .inl v.1)), (h2, .inl (z.1, 10, .inl v.2.1)), (h3, .inl (z.1, 10, .inl v.2.2.1)), (h4, .inl (z.1, 10, .inl v.2.2.2.1)), (h5, .inl (z.1, 10, .inl v.2.2.2.2))] := hD
  have hown : s.vm.findClass RX4 = some m.cls := hown
  refine lv_iload_n hx hb dX4_isThere_0 rfl (lv_at hl 1 rfl) ?_
  refine lv_if_lt (tgt := 25) hx hb dX4_isThere_1 (by decide) (fun c_1 => ?_) (fun c_1 => ?_)
  · refine lv_iconst (v := 0) hx hb dX4_isThere_25 (by decide) ?_
    subst hQ
    exact ret_z () hx hb hr rfl hK hP hD hS rfl ⟨(by unfold f_X4_isThere; rw [if_pos c_1]; try rfl), (Or.inl rfl)⟩ dX4_isThere_26 hlocks
  · refine lv_iload_n hx hb dX4_isThere_4 rfl (lv_at hl 1 rfl) ?_
    refine lv_bipush (v := 10) hx hb dX4_isThere_5 (by decide) ?_
    refine lv_icmp_ge (tgt := 25) hx hb dX4_isThere_7 (by decide) (fun c_2 => ?_) (fun c_2 => ?_)
    · refine lv_iconst (v := 0) hx hb dX4_isThere_25 (by decide) ?_
      subst hQ
      exact ret_z () hx hb hr rfl hK hP hD hS rfl ⟨(by unfold f_X4_isThere; rw [if_neg c_1, if_pos c_2]; try rfl), (Or.inl rfl)⟩ dX4_isThere_26 hlocks
    · refine lv_aload_n hx hb dX4_isThere_10 rfl (lv_at hl 0 rfl) ?_
      refine va_get (D := D) (ci := 4) (v := .ref h1) (C := RX4) (T := TX4) (N := 5) hx hb hts iX4_isThere_X4 hown hK hP 0 rfl rfl 0 (by decide) (hts (.fieldLink RX4 9 "BarnPictures$Reels" "place" "[I") (by decide +kernel)) (fun _ h9 => h9) rfl dX4_isThere_11 ?_
      refine lv_iload_n hx hb dX4_isThere_14 rfl (lv_at hl 1 rfl) ?_
      refine iald_k hx hb hK hP 1 rfl x.toNatClampNeg (ix_vp (vp_rg 10 (by assumption) (by assumption) rfl)) dX4_isThere_15 ?_
      refine lv_bipush (v := (-2)) hx hb dX4_isThere_16 (by decide) ?_
      refine lv_icmp_eq (tgt := 25) hx hb dX4_isThere_18 (by decide) (fun c_3 => ?_) (fun c_3 => ?_)
      · refine lv_iconst (v := 0) hx hb dX4_isThere_25 (by decide) ?_
        subst hQ
        exact ret_z () hx hb hr rfl hK hP hD hS rfl ⟨(by unfold f_X4_isThere; rw [if_neg c_1, if_neg c_2, if_pos c_3]; try rfl), (Or.inl rfl)⟩ dX4_isThere_26 hlocks
      · refine lv_iconst (v := 1) hx hb dX4_isThere_21 (by decide) ?_
        refine lv_goto (tgt := 26) hx hb dX4_isThere_22 (by decide) ?_
        subst hQ
        exact ret_z () hx hb hr rfl hK hP hD hS rfl ⟨(by unfold f_X4_isThere; rw [if_neg c_1, if_neg c_2, if_neg c_3]; try rfl), (Or.inr rfl)⟩ dX4_isThere_26 hlocks

theorem iX4_placeOf_X4 : ∀ w ∈ wsX40, w ∈ wsX4_placeOf := by decide +kernel
def f_X4_placeOf (v : RV) (r : Int32) (rn : Nat) : Int32 := (v.1 rn)
set_option maxRecDepth 100000 in
set_option maxHeartbeats 1000000 in
theorem c_X4_placeOf (l : Launch) (D : va_G) (z : ClassId × ClassId × ClassId) (h h1 h2 h3 h4 h5 : Nat) (v : RV) (r : Int32) (rn : Nat) (ee_r : r = nI rn) (bb_r : rn < 10) (sz : Nat) : CI l yX4_placeOf wsX4_placeOf 0 0 0 0 [.ref h, .int r] D z (wX4 z h h1 h2 h3 h4 h5 v) sz (E0) (fun (zr : Int32) (_ : Unit) => zr = f_X4_placeOf v r rn) (fun _ => wX4 z h h1 h2 h3 h4 h5 v) := by
  refine met_i cX4_placeOf 2 (some .int) (by decide) rfl (Nat.le_of_ble_eq_true rfl) ?_
  intro p e s m args below meth c R Q hx hb hr hml hts hown hlocks hin hRf hRl hRc hRs hc0 hs0 A H hA hP hK hD hS hE hQ ls hl
  have hl : lv_has ls 2 [(0, .ref h), (1, .int r)] := hl
  have hP : va_P D vwCl [(h, .inr (4, [.ref h1, .ref h2, .ref h3, .ref h4, .ref h5])), (h1, .inl (z.1, 10, .inl v.1)), (h2, .inl (z.1, 10, .inl v.2.1)), (h3, .inl (z.1, 10, .inl v.2.2.1)), (h4, .inl (z.1, 10, .inl v.2.2.2.1)), (h5, .inl (z.1, 10, .inl v.2.2.2.2))] H := hP
  have hD : va_D A [(h, .inr (4, [.ref h1, .ref h2, .ref h3, .ref h4, .ref h5])), (h1, .inl (z.1, 10, .inl v.1)), (h2, .inl (z.1, 10, .inl v.2.1)), (h3, .inl (z.1, 10, .inl v.2.2.1)), (h4, .inl (z.1, 10, .inl v.2.2.2.1)), (h5, .inl (z.1, 10, .inl v.2.2.2.2))] := hD
  have hown : s.vm.findClass RX4 = some m.cls := hown
  refine lv_aload_n hx hb dX4_placeOf_0 rfl (lv_at hl 0 rfl) ?_
  refine va_get (D := D) (ci := 4) (v := .ref h1) (C := RX4) (T := TX4) (N := 5) hx hb hts iX4_placeOf_X4 hown hK hP 0 rfl rfl 0 (by decide) (hts (.fieldLink RX4 9 "BarnPictures$Reels" "place" "[I") (by decide +kernel)) (fun _ h9 => h9) rfl dX4_placeOf_1 ?_
  refine lv_iload_n hx hb dX4_placeOf_4 rfl (lv_at hl 1 rfl) ?_
  refine iald_k hx hb hK hP 1 rfl rn (ix_of ee_r (by omega) (by decide)) dX4_placeOf_5 ?_
  subst hQ
  exact ret_i () hx hb hr hK hP hD hS rfl rfl dX4_placeOf_6 hlocks

theorem iX4_minutesOf_X4 : ∀ w ∈ wsX40, w ∈ wsX4_minutesOf := by decide +kernel
def f_X4_minutesOf (v : RV) (r : Int32) (rn : Nat) : Int32 := (v.2.1 rn)
set_option maxRecDepth 100000 in
set_option maxHeartbeats 1000000 in
theorem c_X4_minutesOf (l : Launch) (D : va_G) (z : ClassId × ClassId × ClassId) (h h1 h2 h3 h4 h5 : Nat) (v : RV) (r : Int32) (rn : Nat) (ee_r : r = nI rn) (bb_r : rn < 10) (sz : Nat) : CI l yX4_minutesOf wsX4_minutesOf 0 0 0 0 [.ref h, .int r] D z (wX4 z h h1 h2 h3 h4 h5 v) sz (E0) (fun (zr : Int32) (_ : Unit) => zr = f_X4_minutesOf v r rn) (fun _ => wX4 z h h1 h2 h3 h4 h5 v) := by
  refine met_i cX4_minutesOf 2 (some .int) (by decide) rfl (Nat.le_of_ble_eq_true rfl) ?_
  intro p e s m args below meth c R Q hx hb hr hml hts hown hlocks hin hRf hRl hRc hRs hc0 hs0 A H hA hP hK hD hS hE hQ ls hl
  have hl : lv_has ls 2 [(0, .ref h), (1, .int r)] := hl
  have hP : va_P D vwCl [(h, .inr (4, [.ref h1, .ref h2, .ref h3, .ref h4, .ref h5])), (h1, .inl (z.1, 10, .inl v.1)), (h2, .inl (z.1, 10, .inl v.2.1)), (h3, .inl (z.1, 10, .inl v.2.2.1)), (h4, .inl (z.1, 10, .inl v.2.2.2.1)), (h5, .inl (z.1, 10, .inl v.2.2.2.2))] H := hP
  have hD : va_D A [(h, .inr (4, [.ref h1, .ref h2, .ref h3, .ref h4, .ref h5])), (h1, .inl (z.1, 10, .inl v.1)), (h2, .inl (z.1, 10, .inl v.2.1)), (h3, .inl (z.1, 10, .inl v.2.2.1)), (h4, .inl (z.1, 10, .inl v.2.2.2.1)), (h5, .inl (z.1, 10, .inl v.2.2.2.2))] := hD
  have hown : s.vm.findClass RX4 = some m.cls := hown
  refine lv_aload_n hx hb dX4_minutesOf_0 rfl (lv_at hl 0 rfl) ?_
  refine va_get (D := D) (ci := 4) (v := .ref h2) (C := RX4) (T := TX4) (N := 5) hx hb hts iX4_minutesOf_X4 hown hK hP 0 rfl rfl 1 (by decide) (hts (.fieldLink RX4 15 "BarnPictures$Reels" "minutes" "[I") (by decide +kernel)) (fun _ h9 => h9) rfl dX4_minutesOf_1 ?_
  refine lv_iload_n hx hb dX4_minutesOf_4 rfl (lv_at hl 1 rfl) ?_
  refine iald_k hx hb hK hP 2 rfl rn (ix_of ee_r (by omega) (by decide)) dX4_minutesOf_5 ?_
  subst hQ
  exact ret_i () hx hb hr hK hP hD hS rfl rfl dX4_minutesOf_6 hlocks

theorem iX4_wearOf_X4 : ∀ w ∈ wsX40, w ∈ wsX4_wearOf := by decide +kernel
def f_X4_wearOf (v : RV) (r : Int32) (rn : Nat) : Int32 := (v.2.2.1 rn)
set_option maxRecDepth 100000 in
set_option maxHeartbeats 1000000 in
theorem c_X4_wearOf (l : Launch) (D : va_G) (z : ClassId × ClassId × ClassId) (h h1 h2 h3 h4 h5 : Nat) (v : RV) (r : Int32) (rn : Nat) (ee_r : r = nI rn) (bb_r : rn < 10) (sz : Nat) : CI l yX4_wearOf wsX4_wearOf 0 0 0 0 [.ref h, .int r] D z (wX4 z h h1 h2 h3 h4 h5 v) sz (E0) (fun (zr : Int32) (_ : Unit) => zr = f_X4_wearOf v r rn) (fun _ => wX4 z h h1 h2 h3 h4 h5 v) := by
  refine met_i cX4_wearOf 2 (some .int) (by decide) rfl (Nat.le_of_ble_eq_true rfl) ?_
  intro p e s m args below meth c R Q hx hb hr hml hts hown hlocks hin hRf hRl hRc hRs hc0 hs0 A H hA hP hK hD hS hE hQ ls hl
  have hl : lv_has ls 2 [(0, .ref h), (1, .int r)] := hl
  have hP : va_P D vwCl [(h, .inr (4, [.ref h1, .ref h2, .ref h3, .ref h4, .ref h5])), (h1, .inl (z.1, 10, .inl v.1)), (h2, .inl (z.1, 10, .inl v.2.1)), (h3, .inl (z.1, 10, .inl v.2.2.1)), (h4, .inl (z.1, 10, .inl v.2.2.2.1)), (h5, .inl (z.1, 10, .inl v.2.2.2.2))] H := hP
  have hD : va_D A [(h, .inr (4, [.ref h1, .ref h2, .ref h3, .ref h4, .ref h5])), (h1, .inl (z.1, 10, .inl v.1)), (h2, .inl (z.1, 10, .inl v.2.1)), (h3, .inl (z.1, 10, .inl v.2.2.1)), (h4, .inl (z.1, 10, .inl v.2.2.2.1)), (h5, .inl (z.1, 10, .inl v.2.2.2.2))] := hD
  have hown : s.vm.findClass RX4 = some m.cls := hown
  refine lv_aload_n hx hb dX4_wearOf_0 rfl (lv_at hl 0 rfl) ?_
  refine va_get (D := D) (ci := 4) (v := .ref h3) (C := RX4) (T := TX4) (N := 5) hx hb hts iX4_wearOf_X4 hown hK hP 0 rfl rfl 2 (by decide) (hts (.fieldLink RX4 18 "BarnPictures$Reels" "wear" "[I") (by decide +kernel)) (fun _ h9 => h9) rfl dX4_wearOf_1 ?_
  refine lv_iload_n hx hb dX4_wearOf_4 rfl (lv_at hl 1 rfl) ?_
  refine iald_k hx hb hK hP 3 rfl rn (ix_of ee_r (by omega) (by decide)) dX4_wearOf_5 ?_
  subst hQ
  exact ret_i () hx hb hr hK hP hD hS rfl rfl dX4_wearOf_6 hlocks

theorem iX4_splicesOf_X4 : ∀ w ∈ wsX40, w ∈ wsX4_splicesOf := by decide +kernel
def f_X4_splicesOf (v : RV) (r : Int32) (rn : Nat) : Int32 := (v.2.2.2.1 rn)
set_option maxRecDepth 100000 in
set_option maxHeartbeats 1000000 in
theorem c_X4_splicesOf (l : Launch) (D : va_G) (z : ClassId × ClassId × ClassId) (h h1 h2 h3 h4 h5 : Nat) (v : RV) (r : Int32) (rn : Nat) (ee_r : r = nI rn) (bb_r : rn < 10) (sz : Nat) : CI l yX4_splicesOf wsX4_splicesOf 0 0 0 0 [.ref h, .int r] D z (wX4 z h h1 h2 h3 h4 h5 v) sz (E0) (fun (zr : Int32) (_ : Unit) => zr = f_X4_splicesOf v r rn) (fun _ => wX4 z h h1 h2 h3 h4 h5 v) := by
  refine met_i cX4_splicesOf 2 (some .int) (by decide) rfl (Nat.le_of_ble_eq_true rfl) ?_
  intro p e s m args below meth c R Q hx hb hr hml hts hown hlocks hin hRf hRl hRc hRs hc0 hs0 A H hA hP hK hD hS hE hQ ls hl
  have hl : lv_has ls 2 [(0, .ref h), (1, .int r)] := hl
  have hP : va_P D vwCl [(h, .inr (4, [.ref h1, .ref h2, .ref h3, .ref h4, .ref h5])), (h1, .inl (z.1, 10, .inl v.1)), (h2, .inl (z.1, 10, .inl v.2.1)), (h3, .inl (z.1, 10, .inl v.2.2.1)), (h4, .inl (z.1, 10, .inl v.2.2.2.1)), (h5, .inl (z.1, 10, .inl v.2.2.2.2))] H := hP
  have hD : va_D A [(h, .inr (4, [.ref h1, .ref h2, .ref h3, .ref h4, .ref h5])), (h1, .inl (z.1, 10, .inl v.1)), (h2, .inl (z.1, 10, .inl v.2.1)), (h3, .inl (z.1, 10, .inl v.2.2.1)), (h4, .inl (z.1, 10, .inl v.2.2.2.1)), (h5, .inl (z.1, 10, .inl v.2.2.2.2))] := hD
  have hown : s.vm.findClass RX4 = some m.cls := hown
  refine lv_aload_n hx hb dX4_splicesOf_0 rfl (lv_at hl 0 rfl) ?_
  refine va_get (D := D) (ci := 4) (v := .ref h4) (C := RX4) (T := TX4) (N := 5) hx hb hts iX4_splicesOf_X4 hown hK hP 0 rfl rfl 3 (by decide) (hts (.fieldLink RX4 21 "BarnPictures$Reels" "splices" "[I") (by decide +kernel)) (fun _ h9 => h9) rfl dX4_splicesOf_1 ?_
  refine lv_iload_n hx hb dX4_splicesOf_4 rfl (lv_at hl 1 rfl) ?_
  refine iald_k hx hb hK hP 4 rfl rn (ix_of ee_r (by omega) (by decide)) dX4_splicesOf_5 ?_
  subst hQ
  exact ret_i () hx hb hr hK hP hD hS rfl rfl dX4_splicesOf_6 hlocks

theorem iX4_barnsOf_X4 : ∀ w ∈ wsX40, w ∈ wsX4_barnsOf := by decide +kernel
def f_X4_barnsOf (v : RV) (r : Int32) (rn : Nat) : Int32 := (v.2.2.2.2 rn)
set_option maxRecDepth 100000 in
set_option maxHeartbeats 1000000 in
theorem c_X4_barnsOf (l : Launch) (D : va_G) (z : ClassId × ClassId × ClassId) (h h1 h2 h3 h4 h5 : Nat) (v : RV) (r : Int32) (rn : Nat) (ee_r : r = nI rn) (bb_r : rn < 10) (sz : Nat) : CI l yX4_barnsOf wsX4_barnsOf 0 0 0 0 [.ref h, .int r] D z (wX4 z h h1 h2 h3 h4 h5 v) sz (E0) (fun (zr : Int32) (_ : Unit) => zr = f_X4_barnsOf v r rn) (fun _ => wX4 z h h1 h2 h3 h4 h5 v) := by
  refine met_i cX4_barnsOf 2 (some .int) (by decide) rfl (Nat.le_of_ble_eq_true rfl) ?_
  intro p e s m args below meth c R Q hx hb hr hml hts hown hlocks hin hRf hRl hRc hRs hc0 hs0 A H hA hP hK hD hS hE hQ ls hl
  have hl : lv_has ls 2 [(0, .ref h), (1, .int r)] := hl
  have hP : va_P D vwCl [(h, .inr (4, [.ref h1, .ref h2, .ref h3, .ref h4, .ref h5])), (h1, .inl (z.1, 10, .inl v.1)), (h2, .inl (z.1, 10, .inl v.2.1)), (h3, .inl (z.1, 10, .inl v.2.2.1)), (h4, .inl (z.1, 10, .inl v.2.2.2.1)), (h5, .inl (z.1, 10, .inl v.2.2.2.2))] H := hP
  have hD : va_D A [(h, .inr (4, [.ref h1, .ref h2, .ref h3, .ref h4, .ref h5])), (h1, .inl (z.1, 10, .inl v.1)), (h2, .inl (z.1, 10, .inl v.2.1)), (h3, .inl (z.1, 10, .inl v.2.2.1)), (h4, .inl (z.1, 10, .inl v.2.2.2.1)), (h5, .inl (z.1, 10, .inl v.2.2.2.2))] := hD
  have hown : s.vm.findClass RX4 = some m.cls := hown
  refine lv_aload_n hx hb dX4_barnsOf_0 rfl (lv_at hl 0 rfl) ?_
  refine va_get (D := D) (ci := 4) (v := .ref h5) (C := RX4) (T := TX4) (N := 5) hx hb hts iX4_barnsOf_X4 hown hK hP 0 rfl rfl 4 (by decide) (hts (.fieldLink RX4 24 "BarnPictures$Reels" "playedIn" "[I") (by decide +kernel)) (fun _ h9 => h9) rfl dX4_barnsOf_1 ?_
  refine lv_iload_n hx hb dX4_barnsOf_4 rfl (lv_at hl 1 rfl) ?_
  refine iald_k hx hb hK hP 5 rfl rn (ix_of ee_r (by omega) (by decide)) dX4_barnsOf_5 ?_
  subst hQ
  exact ret_i () hx hb hr hK hP hD hS rfl rfl dX4_barnsOf_6 hlocks

theorem iX4_put_X4 : ∀ w ∈ wsX40, w ∈ wsX4_put := by decide +kernel
def f_X4_put (v : RV) (r : Int32) (rn : Nat) (x : Int32) : RV := ((upd v.1 rn x), v.2.1, v.2.2.1, v.2.2.2.1, v.2.2.2.2)
set_option maxRecDepth 100000 in
set_option maxHeartbeats 1000000 in
theorem c_X4_put (l : Launch) (D : va_G) (z : ClassId × ClassId × ClassId) (h h1 h2 h3 h4 h5 : Nat) (v : RV) (r : Int32) (rn : Nat) (ee_r : r = nI rn) (bb_r : rn < 10) (x : Int32) (sz : Nat) : CV l yX4_put wsX4_put 0 0 0 0 [.ref h, .int r, .int x] D z (wX4 z h h1 h2 h3 h4 h5 v) sz (E0) (fun (zu : RV) => zu = f_X4_put v r rn x) (fun zu => wX4 z h h1 h2 h3 h4 h5 zu) := by
  refine met_v cX4_put 3 (by decide) rfl (Nat.le_of_ble_eq_true rfl) ?_
  intro p e s m args below meth c R Q hx hb hr hml hts hown hlocks hin hRf hRl hRc hRs hc0 hs0 A H hA hP hK hD hS hE hQ ls hl
  have hl : lv_has ls 3 [(0, .ref h), (1, .int r), (2, .int x)] := hl
  have hP : va_P D vwCl [(h, .inr (4, [.ref h1, .ref h2, .ref h3, .ref h4, .ref h5])), (h1, .inl (z.1, 10, .inl v.1)), (h2, .inl (z.1, 10, .inl v.2.1)), (h3, .inl (z.1, 10, .inl v.2.2.1)), (h4, .inl (z.1, 10, .inl v.2.2.2.1)), (h5, .inl (z.1, 10, .inl v.2.2.2.2))] H := hP
  have hD : va_D A [(h, .inr (4, [.ref h1, .ref h2, .ref h3, .ref h4, .ref h5])), (h1, .inl (z.1, 10, .inl v.1)), (h2, .inl (z.1, 10, .inl v.2.1)), (h3, .inl (z.1, 10, .inl v.2.2.1)), (h4, .inl (z.1, 10, .inl v.2.2.2.1)), (h5, .inl (z.1, 10, .inl v.2.2.2.2))] := hD
  have hown : s.vm.findClass RX4 = some m.cls := hown
  refine lv_aload_n hx hb dX4_put_0 rfl (lv_at hl 0 rfl) ?_
  refine va_get (D := D) (ci := 4) (v := .ref h1) (C := RX4) (T := TX4) (N := 5) hx hb hts iX4_put_X4 hown hK hP 0 rfl rfl 0 (by decide) (hts (.fieldLink RX4 9 "BarnPictures$Reels" "place" "[I") (by decide +kernel)) (fun _ h9 => h9) rfl dX4_put_1 ?_
  refine lv_iload_n hx hb dX4_put_4 rfl (lv_at hl 1 rfl) ?_
  refine lv_iload_n hx hb dX4_put_5 rfl (lv_at hl 2 rfl) ?_
  refine iast_k hx hb hK hP hD hS 1 rfl rn (ix_of ee_r (by omega) (by decide)) dX4_put_6 (fun H locs hP hD hS => ?_)
  have hP : va_P D vwCl [(h, .inr (4, [.ref h1, .ref h2, .ref h3, .ref h4, .ref h5])), (h1, .inl (z.1, 10, .inl (upd v.1 rn x))), (h2, .inl (z.1, 10, .inl v.2.1)), (h3, .inl (z.1, 10, .inl v.2.2.1)), (h4, .inl (z.1, 10, .inl v.2.2.2.1)), (h5, .inl (z.1, 10, .inl v.2.2.2.2))] H := hP
  have hD : va_D A [(h, .inr (4, [.ref h1, .ref h2, .ref h3, .ref h4, .ref h5])), (h1, .inl (z.1, 10, .inl (upd v.1 rn x))), (h2, .inl (z.1, 10, .inl v.2.1)), (h3, .inl (z.1, 10, .inl v.2.2.1)), (h4, .inl (z.1, 10, .inl v.2.2.2.1)), (h5, .inl (z.1, 10, .inl v.2.2.2.2))] := hD
  subst hQ
  exact ret_v ((upd v.1 rn x), v.2.1, v.2.2.1, v.2.2.2.1, v.2.2.2.2) hx hb hr hK hP hD hS rfl rfl dX4_put_7 hlocks

theorem iX4_makeNew_X4 : ∀ w ∈ wsX40, w ∈ wsX4_makeNew := by decide +kernel
def f_X4_makeNew (v : RV) (r : Int32) (rn : Nat) : RV := (v.1, (upd v.2.1 rn (8 + r)), (upd v.2.2.1 rn 0), (upd v.2.2.2.1 rn 0), (upd v.2.2.2.2 rn 0))
set_option maxRecDepth 100000 in
set_option maxHeartbeats 1000000 in
theorem c_X4_makeNew (l : Launch) (D : va_G) (z : ClassId × ClassId × ClassId) (h h1 h2 h3 h4 h5 : Nat) (v : RV) (r : Int32) (rn : Nat) (ee_r : r = nI rn) (bb_r : rn < 10) (sz : Nat) : CV l yX4_makeNew wsX4_makeNew 0 0 0 0 [.ref h, .int r] D z (wX4 z h h1 h2 h3 h4 h5 v) sz (E0) (fun (zu : RV) => zu = f_X4_makeNew v r rn) (fun zu => wX4 z h h1 h2 h3 h4 h5 zu) := by
  refine met_v cX4_makeNew 2 (by decide) rfl (Nat.le_of_ble_eq_true rfl) ?_
  intro p e s m args below meth c R Q hx hb hr hml hts hown hlocks hin hRf hRl hRc hRs hc0 hs0 A H hA hP hK hD hS hE hQ ls hl
  have hl : lv_has ls 2 [(0, .ref h), (1, .int r)] := hl
  have hP : va_P D vwCl [(h, .inr (4, [.ref h1, .ref h2, .ref h3, .ref h4, .ref h5])), (h1, .inl (z.1, 10, .inl v.1)), (h2, .inl (z.1, 10, .inl v.2.1)), (h3, .inl (z.1, 10, .inl v.2.2.1)), (h4, .inl (z.1, 10, .inl v.2.2.2.1)), (h5, .inl (z.1, 10, .inl v.2.2.2.2))] H := hP
  have hD : va_D A [(h, .inr (4, [.ref h1, .ref h2, .ref h3, .ref h4, .ref h5])), (h1, .inl (z.1, 10, .inl v.1)), (h2, .inl (z.1, 10, .inl v.2.1)), (h3, .inl (z.1, 10, .inl v.2.2.1)), (h4, .inl (z.1, 10, .inl v.2.2.2.1)), (h5, .inl (z.1, 10, .inl v.2.2.2.2))] := hD
  have hown : s.vm.findClass RX4 = some m.cls := hown
  refine lv_aload_n hx hb dX4_makeNew_0 rfl (lv_at hl 0 rfl) ?_
  refine va_get (D := D) (ci := 4) (v := .ref h2) (C := RX4) (T := TX4) (N := 5) hx hb hts iX4_makeNew_X4 hown hK hP 0 rfl rfl 1 (by decide) (hts (.fieldLink RX4 15 "BarnPictures$Reels" "minutes" "[I") (by decide +kernel)) (fun _ h9 => h9) rfl dX4_makeNew_1 ?_
  refine lv_iload_n hx hb dX4_makeNew_4 rfl (lv_at hl 1 rfl) ?_
  refine lv_bipush (v := 8) hx hb dX4_makeNew_5 (by decide) ?_
  refine lv_iload_n hx hb dX4_makeNew_7 rfl (lv_at hl 1 rfl) ?_
  refine lv_iadd hx hb dX4_makeNew_8 ?_
  refine iast_k hx hb hK hP hD hS 2 rfl rn (ix_of ee_r (by omega) (by decide)) dX4_makeNew_9 (fun H locs hP hD hS => ?_)
  have hP : va_P D vwCl [(h, .inr (4, [.ref h1, .ref h2, .ref h3, .ref h4, .ref h5])), (h1, .inl (z.1, 10, .inl v.1)), (h2, .inl (z.1, 10, .inl (upd v.2.1 rn (8 + r)))), (h3, .inl (z.1, 10, .inl v.2.2.1)), (h4, .inl (z.1, 10, .inl v.2.2.2.1)), (h5, .inl (z.1, 10, .inl v.2.2.2.2))] H := hP
  have hD : va_D A [(h, .inr (4, [.ref h1, .ref h2, .ref h3, .ref h4, .ref h5])), (h1, .inl (z.1, 10, .inl v.1)), (h2, .inl (z.1, 10, .inl (upd v.2.1 rn (8 + r)))), (h3, .inl (z.1, 10, .inl v.2.2.1)), (h4, .inl (z.1, 10, .inl v.2.2.2.1)), (h5, .inl (z.1, 10, .inl v.2.2.2.2))] := hD
  refine lv_aload_n hx hb dX4_makeNew_10 rfl (lv_at hl 0 rfl) ?_
  refine va_get (D := D) (ci := 4) (v := .ref h3) (C := RX4) (T := TX4) (N := 5) hx hb hts iX4_makeNew_X4 hown hK hP 0 rfl rfl 2 (by decide) (hts (.fieldLink RX4 18 "BarnPictures$Reels" "wear" "[I") (by decide +kernel)) (fun _ h9 => h9) rfl dX4_makeNew_11 ?_
  refine lv_iload_n hx hb dX4_makeNew_14 rfl (lv_at hl 1 rfl) ?_
  refine lv_iconst (v := 0) hx hb dX4_makeNew_15 (by decide) ?_
  refine iast_k hx hb hK hP hD hS 3 rfl rn (ix_of ee_r (by omega) (by decide)) dX4_makeNew_16 (fun H locs hP hD hS => ?_)
  have hP : va_P D vwCl [(h, .inr (4, [.ref h1, .ref h2, .ref h3, .ref h4, .ref h5])), (h1, .inl (z.1, 10, .inl v.1)), (h2, .inl (z.1, 10, .inl (upd v.2.1 rn (8 + r)))), (h3, .inl (z.1, 10, .inl (upd v.2.2.1 rn 0))), (h4, .inl (z.1, 10, .inl v.2.2.2.1)), (h5, .inl (z.1, 10, .inl v.2.2.2.2))] H := hP
  have hD : va_D A [(h, .inr (4, [.ref h1, .ref h2, .ref h3, .ref h4, .ref h5])), (h1, .inl (z.1, 10, .inl v.1)), (h2, .inl (z.1, 10, .inl (upd v.2.1 rn (8 + r)))), (h3, .inl (z.1, 10, .inl (upd v.2.2.1 rn 0))), (h4, .inl (z.1, 10, .inl v.2.2.2.1)), (h5, .inl (z.1, 10, .inl v.2.2.2.2))] := hD
  refine lv_aload_n hx hb dX4_makeNew_17 rfl (lv_at hl 0 rfl) ?_
  refine va_get (D := D) (ci := 4) (v := .ref h4) (C := RX4) (T := TX4) (N := 5) hx hb hts iX4_makeNew_X4 hown hK hP 0 rfl rfl 3 (by decide) (hts (.fieldLink RX4 21 "BarnPictures$Reels" "splices" "[I") (by decide +kernel)) (fun _ h9 => h9) rfl dX4_makeNew_18 ?_
  refine lv_iload_n hx hb dX4_makeNew_21 rfl (lv_at hl 1 rfl) ?_
  refine lv_iconst (v := 0) hx hb dX4_makeNew_22 (by decide) ?_
  refine iast_k hx hb hK hP hD hS 4 rfl rn (ix_of ee_r (by omega) (by decide)) dX4_makeNew_23 (fun H locs hP hD hS => ?_)
  have hP : va_P D vwCl [(h, .inr (4, [.ref h1, .ref h2, .ref h3, .ref h4, .ref h5])), (h1, .inl (z.1, 10, .inl v.1)), (h2, .inl (z.1, 10, .inl (upd v.2.1 rn (8 + r)))), (h3, .inl (z.1, 10, .inl (upd v.2.2.1 rn 0))), (h4, .inl (z.1, 10, .inl (upd v.2.2.2.1 rn 0))), (h5, .inl (z.1, 10, .inl v.2.2.2.2))] H := hP
  have hD : va_D A [(h, .inr (4, [.ref h1, .ref h2, .ref h3, .ref h4, .ref h5])), (h1, .inl (z.1, 10, .inl v.1)), (h2, .inl (z.1, 10, .inl (upd v.2.1 rn (8 + r)))), (h3, .inl (z.1, 10, .inl (upd v.2.2.1 rn 0))), (h4, .inl (z.1, 10, .inl (upd v.2.2.2.1 rn 0))), (h5, .inl (z.1, 10, .inl v.2.2.2.2))] := hD
  refine lv_aload_n hx hb dX4_makeNew_24 rfl (lv_at hl 0 rfl) ?_
  refine va_get (D := D) (ci := 4) (v := .ref h5) (C := RX4) (T := TX4) (N := 5) hx hb hts iX4_makeNew_X4 hown hK hP 0 rfl rfl 4 (by decide) (hts (.fieldLink RX4 24 "BarnPictures$Reels" "playedIn" "[I") (by decide +kernel)) (fun _ h9 => h9) rfl dX4_makeNew_25 ?_
  refine lv_iload_n hx hb dX4_makeNew_28 rfl (lv_at hl 1 rfl) ?_
  refine lv_iconst (v := 0) hx hb dX4_makeNew_29 (by decide) ?_
  refine iast_k hx hb hK hP hD hS 5 rfl rn (ix_of ee_r (by omega) (by decide)) dX4_makeNew_30 (fun H locs hP hD hS => ?_)
  have hP : va_P D vwCl [(h, .inr (4, [.ref h1, .ref h2, .ref h3, .ref h4, .ref h5])), (h1, .inl (z.1, 10, .inl v.1)), (h2, .inl (z.1, 10, .inl (upd v.2.1 rn (8 + r)))), (h3, .inl (z.1, 10, .inl (upd v.2.2.1 rn 0))), (h4, .inl (z.1, 10, .inl (upd v.2.2.2.1 rn 0))), (h5, .inl (z.1, 10, .inl (upd v.2.2.2.2 rn 0)))] H := hP
  have hD : va_D A [(h, .inr (4, [.ref h1, .ref h2, .ref h3, .ref h4, .ref h5])), (h1, .inl (z.1, 10, .inl v.1)), (h2, .inl (z.1, 10, .inl (upd v.2.1 rn (8 + r)))), (h3, .inl (z.1, 10, .inl (upd v.2.2.1 rn 0))), (h4, .inl (z.1, 10, .inl (upd v.2.2.2.1 rn 0))), (h5, .inl (z.1, 10, .inl (upd v.2.2.2.2 rn 0)))] := hD
  subst hQ
  exact ret_v (v.1, (upd v.2.1 rn (8 + r)), (upd v.2.2.1 rn 0), (upd v.2.2.2.1 rn 0), (upd v.2.2.2.2 rn 0)) hx hb hr hK hP hD hS rfl rfl dX4_makeNew_31 hlocks

theorem iX4_numberAt_X4 : ∀ w ∈ wsX40, w ∈ wsX4_numberAt := by decide +kernel
def f_X4_numberAt_4_x (v : RV) (x : Int32) (q4 : Int32) : Int32 := q4
def st_X4_numberAt_4 (v : RV) (x : Int32) (k4 : Nat) (q4 : Int32) : Int32 := if (v.1 k4) = x then (q4 + 1) else q4
def lp_X4_numberAt_4 (v : RV) (x : Int32) (i0 : Int32) : Nat → Int32
  | 0 => i0
  | k + 1 => st_X4_numberAt_4 v x k (lp_X4_numberAt_4 v x i0 k)
theorem lp_X4_numberAt_4_0 (v : RV) (x : Int32) (i0 : Int32) : lp_X4_numberAt_4 v x i0 0 = i0 := rfl
theorem lp_X4_numberAt_4_s (v : RV) (x : Int32) (i0 : Int32) (k : Nat) : lp_X4_numberAt_4 v x i0 (k + 1) = st_X4_numberAt_4 v x k (lp_X4_numberAt_4 v x i0 k) := rfl
def f_X4_numberAt (v : RV) (x : Int32) : Int32 := f_X4_numberAt_4_x v x (lp_X4_numberAt_4 v x 0 10)
set_option maxRecDepth 100000 in
set_option maxHeartbeats 1000000 in
theorem c_X4_numberAt (l : Launch) (D : va_G) (z : ClassId × ClassId × ClassId) (h h1 h2 h3 h4 h5 : Nat) (v : RV) (x : Int32) (sz : Nat) : CI l yX4_numberAt wsX4_numberAt 0 0 0 0 [.ref h, .int x] D z (wX4 z h h1 h2 h3 h4 h5 v) sz (E0) (fun (zr : Int32) (_ : Unit) => zr = f_X4_numberAt v x) (fun _ => wX4 z h h1 h2 h3 h4 h5 v) := by
  refine met_i cX4_numberAt 4 (some .int) (by decide) rfl (Nat.le_of_ble_eq_true rfl) ?_
  intro p e s m args below meth c R Q hx hb hr hml hts hown hlocks hin hRf hRl hRc hRs hc0 hs0 A H hA hP hK hD hS hE hQ ls hl
  have hl : lv_has ls 4 [(0, .ref h), (1, .int x)] := hl
  have hP : va_P D vwCl [(h, .inr (4, [.ref h1, .ref h2, .ref h3, .ref h4, .ref h5])), (h1, .inl (z.1, 10, .inl v.1)), (h2, .inl (z.1, 10, .inl v.2.1)), (h3, .inl (z.1, 10, .inl v.2.2.1)), (h4, .inl (z.1, 10, .inl v.2.2.2.1)), (h5, .inl (z.1, 10, .inl v.2.2.2.2))] H := hP
  have hD : va_D A [(h, .inr (4, [.ref h1, .ref h2, .ref h3, .ref h4, .ref h5])), (h1, .inl (z.1, 10, .inl v.1)), (h2, .inl (z.1, 10, .inl v.2.1)), (h3, .inl (z.1, 10, .inl v.2.2.1)), (h4, .inl (z.1, 10, .inl v.2.2.2.1)), (h5, .inl (z.1, 10, .inl v.2.2.2.2))] := hD
  have hown : s.vm.findClass RX4 = some m.cls := hown
  refine lv_iconst (v := 0) hx hb dX4_numberAt_0 (by decide) ?_
  refine lv_istore_n (lv' := [(2, .int 0), (0, .ref h), (1, .int x)]) hx hb dX4_numberAt_1 rfl hl (by decide) rfl (fun ls hl => ?_)
  refine lv_iconst (v := 0) hx hb dX4_numberAt_2 (by decide) ?_
  refine lv_istore_n (lv' := [(3, .int 0), (2, .int 0), (0, .ref h), (1, .int x)]) hx hb dX4_numberAt_3 rfl hl (by decide) rfl (fun ls hl => ?_)
  have L4 : ∀ (n4 k4 : Nat) (q4 : Int32), q4 = lp_X4_numberAt_4 v x 0 k4 → k4 ≤ 10 → 10 + 1 ≤ k4 + n4 → ∀ (H : Heap) (locs : List Loc) (ls : Array Slot), va_P D vwCl [(h, .inr (4, [.ref h1, .ref h2, .ref h3, .ref h4, .ref h5])), (h1, .inl (z.1, 10, .inl v.1)), (h2, .inl (z.1, 10, .inl v.2.1)), (h3, .inl (z.1, 10, .inl v.2.2.1)), (h4, .inl (z.1, 10, .inl v.2.2.2.1)), (h5, .inl (z.1, 10, .inl v.2.2.2.2))] H → va_D A [(h, .inr (4, [.ref h1, .ref h2, .ref h3, .ref h4, .ref h5])), (h1, .inl (z.1, 10, .inl v.1)), (h2, .inl (z.1, 10, .inl v.2.1)), (h3, .inl (z.1, 10, .inl v.2.2.1)), (h4, .inl (z.1, 10, .inl v.2.2.2.1)), (h5, .inl (z.1, 10, .inl v.2.2.2.2))] → va_S A s.heap H locs → lv_has ls 4 [(3, .int (nI k4)), (2, .int q4), (0, .ref h), (1, .int x)] → W p l e R s m args below meth c H locs 0 0 Q (F0 m 4 ls []) := by
    intro n4
    induction n4 with
    | zero => intro k4 q4 hq4 h1 h2; exact absurd h2 (by omega)
    | succ n4 ih4 =>
      intro k4 q4 hq4 hk4 hn4 H locs ls hP hD hS hl
      refine lv_iload_n hx hb dX4_numberAt_4 rfl (lv_at hl 0 rfl) ?_
      refine lv_bipush (v := 10) hx hb dX4_numberAt_5 (by decide) ?_
      rcases Nat.lt_or_ge k4 10 with hlt | hge
      · refine lv_icmp_ge (tgt := 29) hx hb dX4_numberAt_7 (by decide) (fun c_2 => absurd c_2 (nI_ge (a := k4) (b := 10) (by omega) (by omega))) (fun c_2 => ?_)
        refine lv_aload_n hx hb dX4_numberAt_10 rfl (lv_at hl 2 rfl) ?_
        refine va_get (D := D) (ci := 4) (v := .ref h1) (C := RX4) (T := TX4) (N := 5) hx hb hts iX4_numberAt_X4 hown hK hP 0 rfl rfl 0 (by decide) (hts (.fieldLink RX4 9 "BarnPictures$Reels" "place" "[I") (by decide +kernel)) (fun _ h9 => h9) rfl dX4_numberAt_11 ?_
        refine lv_iload_n hx hb dX4_numberAt_14 rfl (lv_at hl 0 rfl) ?_
        refine iald_k hx hb hK hP 1 rfl k4 (ix_of (nrf k4) (by omega) (by decide)) dX4_numberAt_15 ?_
        refine lv_iload_n hx hb dX4_numberAt_16 rfl (lv_at hl 3 rfl) ?_
        refine lv_icmp_ne (tgt := 23) hx hb dX4_numberAt_17 (by decide) (fun c_3 => ?_) (fun c_3 => ?_)
        · refine lv_iinc (v := nI (k4 + 1)) (lv' := [(3, .int (nI (k4 + 1))), (2, .int q4), (0, .ref h), (1, .int x)]) hx hb dX4_numberAt_23 hl (k := 0) rfl (nI_add k4 1) (by decide) rfl (fun ls hl => ?_)
          refine lv_goto (tgt := 4) hx hb dX4_numberAt_26 (by decide) ?_
          exact ih4 (k4 + 1) q4 (by rw [lp_X4_numberAt_4_s, ← hq4]; unfold st_X4_numberAt_4; rw [if_neg c_3]; try rfl) (by omega) (by omega) _ _ _ hP hD hS (lv_sub hl [0, 1, 2, 3] rfl)
        · refine lv_iinc (v := (q4 + 1)) (lv' := [(2, .int (q4 + 1)), (3, .int (nI k4)), (0, .ref h), (1, .int x)]) hx hb dX4_numberAt_20 hl (k := 1) rfl rfl (by decide) rfl (fun ls hl => ?_)
          refine lv_iinc (v := nI (k4 + 1)) (lv' := [(3, .int (nI (k4 + 1))), (2, .int (q4 + 1)), (0, .ref h), (1, .int x)]) hx hb dX4_numberAt_23 hl (k := 1) rfl (nI_add k4 1) (by decide) rfl (fun ls hl => ?_)
          refine lv_goto (tgt := 4) hx hb dX4_numberAt_26 (by decide) ?_
          exact ih4 (k4 + 1) (q4 + 1) (by rw [lp_X4_numberAt_4_s, ← hq4]; unfold st_X4_numberAt_4; rw [if_pos c_3]; try rfl) (by omega) (by omega) _ _ _ hP hD hS (lv_sub hl [0, 1, 2, 3] rfl)
      · obtain rfl : 10 = k4 := by omega
        refine lv_icmp_ge (tgt := 29) hx hb dX4_numberAt_7 (by decide) (fun c_2 => ?_) (fun c_2 => absurd (nI_le (a := 10) (b := 10) (by omega) (by omega)) c_2)
        have hP : va_P D vwCl [(h, .inr (4, [.ref h1, .ref h2, .ref h3, .ref h4, .ref h5])), (h1, .inl (z.1, 10, .inl v.1)), (h2, .inl (z.1, 10, .inl v.2.1)), (h3, .inl (z.1, 10, .inl v.2.2.1)), (h4, .inl (z.1, 10, .inl v.2.2.2.1)), (h5, .inl (z.1, 10, .inl v.2.2.2.2))] H := hP
        have hD : va_D A [(h, .inr (4, [.ref h1, .ref h2, .ref h3, .ref h4, .ref h5])), (h1, .inl (z.1, 10, .inl v.1)), (h2, .inl (z.1, 10, .inl v.2.1)), (h3, .inl (z.1, 10, .inl v.2.2.1)), (h4, .inl (z.1, 10, .inl v.2.2.2.1)), (h5, .inl (z.1, 10, .inl v.2.2.2.2))] := hD
        refine lv_iload_n hx hb dX4_numberAt_29 rfl (lv_at hl 1 rfl) ?_
        subst hQ
        exact ret_i () hx hb hr hK hP hD hS rfl (by unfold f_X4_numberAt; rw [← hq4]; unfold f_X4_numberAt_4_x; try rfl) dX4_numberAt_30 hlocks
  exact L4 (10 + 1) 0 0 (lp_X4_numberAt_4_0 v x 0).symm (Nat.zero_le _) (by omega) _ _ _ hP hD hS (lv_sub hl [0, 1, 2, 3] rfl)

theorem iX4_minutesIn_X4 : ∀ w ∈ wsX40, w ∈ wsX4_minutesIn := by decide +kernel
def f_X4_minutesIn_4_x (v : RV) (x : Int32) (q4 : Int32) : Int32 := q4
def st_X4_minutesIn_4 (v : RV) (x : Int32) (k4 : Nat) (q4 : Int32) : Int32 := if (v.1 k4) = x then (q4 + (v.2.1 k4)) else q4
def lp_X4_minutesIn_4 (v : RV) (x : Int32) (i0 : Int32) : Nat → Int32
  | 0 => i0
  | k + 1 => st_X4_minutesIn_4 v x k (lp_X4_minutesIn_4 v x i0 k)
theorem lp_X4_minutesIn_4_0 (v : RV) (x : Int32) (i0 : Int32) : lp_X4_minutesIn_4 v x i0 0 = i0 := rfl
theorem lp_X4_minutesIn_4_s (v : RV) (x : Int32) (i0 : Int32) (k : Nat) : lp_X4_minutesIn_4 v x i0 (k + 1) = st_X4_minutesIn_4 v x k (lp_X4_minutesIn_4 v x i0 k) := rfl
def f_X4_minutesIn (v : RV) (x : Int32) : Int32 := f_X4_minutesIn_4_x v x (lp_X4_minutesIn_4 v x 0 10)
set_option maxRecDepth 100000 in
set_option maxHeartbeats 1000000 in
theorem c_X4_minutesIn (l : Launch) (D : va_G) (z : ClassId × ClassId × ClassId) (h h1 h2 h3 h4 h5 : Nat) (v : RV) (x : Int32) (sz : Nat) : CI l yX4_minutesIn wsX4_minutesIn 0 0 0 0 [.ref h, .int x] D z (wX4 z h h1 h2 h3 h4 h5 v) sz (E0) (fun (zr : Int32) (_ : Unit) => zr = f_X4_minutesIn v x) (fun _ => wX4 z h h1 h2 h3 h4 h5 v) := by
  refine met_i cX4_minutesIn 4 (some .int) (by decide) rfl (Nat.le_of_ble_eq_true rfl) ?_
  intro p e s m args below meth c R Q hx hb hr hml hts hown hlocks hin hRf hRl hRc hRs hc0 hs0 A H hA hP hK hD hS hE hQ ls hl
  have hl : lv_has ls 4 [(0, .ref h), (1, .int x)] := hl
  have hP : va_P D vwCl [(h, .inr (4, [.ref h1, .ref h2, .ref h3, .ref h4, .ref h5])), (h1, .inl (z.1, 10, .inl v.1)), (h2, .inl (z.1, 10, .inl v.2.1)), (h3, .inl (z.1, 10, .inl v.2.2.1)), (h4, .inl (z.1, 10, .inl v.2.2.2.1)), (h5, .inl (z.1, 10, .inl v.2.2.2.2))] H := hP
  have hD : va_D A [(h, .inr (4, [.ref h1, .ref h2, .ref h3, .ref h4, .ref h5])), (h1, .inl (z.1, 10, .inl v.1)), (h2, .inl (z.1, 10, .inl v.2.1)), (h3, .inl (z.1, 10, .inl v.2.2.1)), (h4, .inl (z.1, 10, .inl v.2.2.2.1)), (h5, .inl (z.1, 10, .inl v.2.2.2.2))] := hD
  have hown : s.vm.findClass RX4 = some m.cls := hown
  refine lv_iconst (v := 0) hx hb dX4_minutesIn_0 (by decide) ?_
  refine lv_istore_n (lv' := [(2, .int 0), (0, .ref h), (1, .int x)]) hx hb dX4_minutesIn_1 rfl hl (by decide) rfl (fun ls hl => ?_)
  refine lv_iconst (v := 0) hx hb dX4_minutesIn_2 (by decide) ?_
  refine lv_istore_n (lv' := [(3, .int 0), (2, .int 0), (0, .ref h), (1, .int x)]) hx hb dX4_minutesIn_3 rfl hl (by decide) rfl (fun ls hl => ?_)
  have L4 : ∀ (n4 k4 : Nat) (q4 : Int32), q4 = lp_X4_minutesIn_4 v x 0 k4 → k4 ≤ 10 → 10 + 1 ≤ k4 + n4 → ∀ (H : Heap) (locs : List Loc) (ls : Array Slot), va_P D vwCl [(h, .inr (4, [.ref h1, .ref h2, .ref h3, .ref h4, .ref h5])), (h1, .inl (z.1, 10, .inl v.1)), (h2, .inl (z.1, 10, .inl v.2.1)), (h3, .inl (z.1, 10, .inl v.2.2.1)), (h4, .inl (z.1, 10, .inl v.2.2.2.1)), (h5, .inl (z.1, 10, .inl v.2.2.2.2))] H → va_D A [(h, .inr (4, [.ref h1, .ref h2, .ref h3, .ref h4, .ref h5])), (h1, .inl (z.1, 10, .inl v.1)), (h2, .inl (z.1, 10, .inl v.2.1)), (h3, .inl (z.1, 10, .inl v.2.2.1)), (h4, .inl (z.1, 10, .inl v.2.2.2.1)), (h5, .inl (z.1, 10, .inl v.2.2.2.2))] → va_S A s.heap H locs → lv_has ls 4 [(3, .int (nI k4)), (2, .int q4), (0, .ref h), (1, .int x)] → W p l e R s m args below meth c H locs 0 0 Q (F0 m 4 ls []) := by
    intro n4
    induction n4 with
    | zero => intro k4 q4 hq4 h1 h2; exact absurd h2 (by omega)
    | succ n4 ih4 =>
      intro k4 q4 hq4 hk4 hn4 H locs ls hP hD hS hl
      refine lv_iload_n hx hb dX4_minutesIn_4 rfl (lv_at hl 0 rfl) ?_
      refine lv_bipush (v := 10) hx hb dX4_minutesIn_5 (by decide) ?_
      rcases Nat.lt_or_ge k4 10 with hlt | hge
      · refine lv_icmp_ge (tgt := 35) hx hb dX4_minutesIn_7 (by decide) (fun c_2 => absurd c_2 (nI_ge (a := k4) (b := 10) (by omega) (by omega))) (fun c_2 => ?_)
        refine lv_aload_n hx hb dX4_minutesIn_10 rfl (lv_at hl 2 rfl) ?_
        refine va_get (D := D) (ci := 4) (v := .ref h1) (C := RX4) (T := TX4) (N := 5) hx hb hts iX4_minutesIn_X4 hown hK hP 0 rfl rfl 0 (by decide) (hts (.fieldLink RX4 9 "BarnPictures$Reels" "place" "[I") (by decide +kernel)) (fun _ h9 => h9) rfl dX4_minutesIn_11 ?_
        refine lv_iload_n hx hb dX4_minutesIn_14 rfl (lv_at hl 0 rfl) ?_
        refine iald_k hx hb hK hP 1 rfl k4 (ix_of (nrf k4) (by omega) (by decide)) dX4_minutesIn_15 ?_
        refine lv_iload_n hx hb dX4_minutesIn_16 rfl (lv_at hl 3 rfl) ?_
        refine lv_icmp_ne (tgt := 29) hx hb dX4_minutesIn_17 (by decide) (fun c_3 => ?_) (fun c_3 => ?_)
        · refine lv_iinc (v := nI (k4 + 1)) (lv' := [(3, .int (nI (k4 + 1))), (2, .int q4), (0, .ref h), (1, .int x)]) hx hb dX4_minutesIn_29 hl (k := 0) rfl (nI_add k4 1) (by decide) rfl (fun ls hl => ?_)
          refine lv_goto (tgt := 4) hx hb dX4_minutesIn_32 (by decide) ?_
          exact ih4 (k4 + 1) q4 (by rw [lp_X4_minutesIn_4_s, ← hq4]; unfold st_X4_minutesIn_4; rw [if_neg c_3]; try rfl) (by omega) (by omega) _ _ _ hP hD hS (lv_sub hl [0, 1, 2, 3] rfl)
        · refine lv_iload_n hx hb dX4_minutesIn_20 rfl (lv_at hl 1 rfl) ?_
          refine lv_aload_n hx hb dX4_minutesIn_21 rfl (lv_at hl 2 rfl) ?_
          refine va_get (D := D) (ci := 4) (v := .ref h2) (C := RX4) (T := TX4) (N := 5) hx hb hts iX4_minutesIn_X4 hown hK hP 0 rfl rfl 1 (by decide) (hts (.fieldLink RX4 15 "BarnPictures$Reels" "minutes" "[I") (by decide +kernel)) (fun _ h9 => h9) rfl dX4_minutesIn_22 ?_
          refine lv_iload_n hx hb dX4_minutesIn_25 rfl (lv_at hl 0 rfl) ?_
          refine iald_k hx hb hK hP 2 rfl k4 (ix_of (nrf k4) (by omega) (by decide)) dX4_minutesIn_26 ?_
          refine lv_iadd hx hb dX4_minutesIn_27 ?_
          refine lv_istore_n (lv' := [(2, .int (q4 + (v.2.1 k4))), (3, .int (nI k4)), (0, .ref h), (1, .int x)]) hx hb dX4_minutesIn_28 rfl hl (by decide) rfl (fun ls hl => ?_)
          refine lv_iinc (v := nI (k4 + 1)) (lv' := [(3, .int (nI (k4 + 1))), (2, .int (q4 + (v.2.1 k4))), (0, .ref h), (1, .int x)]) hx hb dX4_minutesIn_29 hl (k := 1) rfl (nI_add k4 1) (by decide) rfl (fun ls hl => ?_)
          refine lv_goto (tgt := 4) hx hb dX4_minutesIn_32 (by decide) ?_
          exact ih4 (k4 + 1) (q4 + (v.2.1 k4)) (by rw [lp_X4_minutesIn_4_s, ← hq4]; unfold st_X4_minutesIn_4; rw [if_pos c_3]; try rfl) (by omega) (by omega) _ _ _ hP hD hS (lv_sub hl [0, 1, 2, 3] rfl)
      · obtain rfl : 10 = k4 := by omega
        refine lv_icmp_ge (tgt := 35) hx hb dX4_minutesIn_7 (by decide) (fun c_2 => ?_) (fun c_2 => absurd (nI_le (a := 10) (b := 10) (by omega) (by omega)) c_2)
        have hP : va_P D vwCl [(h, .inr (4, [.ref h1, .ref h2, .ref h3, .ref h4, .ref h5])), (h1, .inl (z.1, 10, .inl v.1)), (h2, .inl (z.1, 10, .inl v.2.1)), (h3, .inl (z.1, 10, .inl v.2.2.1)), (h4, .inl (z.1, 10, .inl v.2.2.2.1)), (h5, .inl (z.1, 10, .inl v.2.2.2.2))] H := hP
        have hD : va_D A [(h, .inr (4, [.ref h1, .ref h2, .ref h3, .ref h4, .ref h5])), (h1, .inl (z.1, 10, .inl v.1)), (h2, .inl (z.1, 10, .inl v.2.1)), (h3, .inl (z.1, 10, .inl v.2.2.1)), (h4, .inl (z.1, 10, .inl v.2.2.2.1)), (h5, .inl (z.1, 10, .inl v.2.2.2.2))] := hD
        refine lv_iload_n hx hb dX4_minutesIn_35 rfl (lv_at hl 1 rfl) ?_
        subst hQ
        exact ret_i () hx hb hr hK hP hD hS rfl (by unfold f_X4_minutesIn; rw [← hq4]; unfold f_X4_minutesIn_4_x; try rfl) dX4_minutesIn_36 hlocks
  exact L4 (10 + 1) 0 0 (lp_X4_minutesIn_4_0 v x 0).symm (Nat.zero_le _) (by omega) _ _ _ hP hD hS (lv_sub hl [0, 1, 2, 3] rfl)

theorem iX4_freshIn_X4 : ∀ w ∈ wsX40, w ∈ wsX4_freshIn := by decide +kernel
def f_X4_freshIn_4_x (v : RV) (x : Int32) (q4 : Int32) : Int32 := q4
def st_X4_freshIn_4 (v : RV) (x : Int32) (k4 : Nat) (q4 : Int32) : Int32 := if (v.1 k4) = x then if ((v.2.2.2.2 k4) &&& (1 <<< (x &&& 31))) = 0 then (q4 + 1) else q4 else q4
def lp_X4_freshIn_4 (v : RV) (x : Int32) (i0 : Int32) : Nat → Int32
  | 0 => i0
  | k + 1 => st_X4_freshIn_4 v x k (lp_X4_freshIn_4 v x i0 k)
theorem lp_X4_freshIn_4_0 (v : RV) (x : Int32) (i0 : Int32) : lp_X4_freshIn_4 v x i0 0 = i0 := rfl
theorem lp_X4_freshIn_4_s (v : RV) (x : Int32) (i0 : Int32) (k : Nat) : lp_X4_freshIn_4 v x i0 (k + 1) = st_X4_freshIn_4 v x k (lp_X4_freshIn_4 v x i0 k) := rfl
def f_X4_freshIn (v : RV) (x : Int32) : Int32 := f_X4_freshIn_4_x v x (lp_X4_freshIn_4 v x 0 10)
set_option maxRecDepth 100000 in
set_option maxHeartbeats 1000000 in
theorem c_X4_freshIn (l : Launch) (D : va_G) (z : ClassId × ClassId × ClassId) (h h1 h2 h3 h4 h5 : Nat) (v : RV) (x : Int32) (sz : Nat) : CI l yX4_freshIn wsX4_freshIn 0 0 0 0 [.ref h, .int x] D z (wX4 z h h1 h2 h3 h4 h5 v) sz (E0) (fun (zr : Int32) (_ : Unit) => zr = f_X4_freshIn v x) (fun _ => wX4 z h h1 h2 h3 h4 h5 v) := by
  refine met_i cX4_freshIn 4 (some .int) (by decide) rfl (Nat.le_of_ble_eq_true rfl) ?_
  intro p e s m args below meth c R Q hx hb hr hml hts hown hlocks hin hRf hRl hRc hRs hc0 hs0 A H hA hP hK hD hS hE hQ ls hl
  have hl : lv_has ls 4 [(0, .ref h), (1, .int x)] := hl
  have hP : va_P D vwCl [(h, .inr (4, [.ref h1, .ref h2, .ref h3, .ref h4, .ref h5])), (h1, .inl (z.1, 10, .inl v.1)), (h2, .inl (z.1, 10, .inl v.2.1)), (h3, .inl (z.1, 10, .inl v.2.2.1)), (h4, .inl (z.1, 10, .inl v.2.2.2.1)), (h5, .inl (z.1, 10, .inl v.2.2.2.2))] H := hP
  have hD : va_D A [(h, .inr (4, [.ref h1, .ref h2, .ref h3, .ref h4, .ref h5])), (h1, .inl (z.1, 10, .inl v.1)), (h2, .inl (z.1, 10, .inl v.2.1)), (h3, .inl (z.1, 10, .inl v.2.2.1)), (h4, .inl (z.1, 10, .inl v.2.2.2.1)), (h5, .inl (z.1, 10, .inl v.2.2.2.2))] := hD
  have hown : s.vm.findClass RX4 = some m.cls := hown
  refine lv_iconst (v := 0) hx hb dX4_freshIn_0 (by decide) ?_
  refine lv_istore_n (lv' := [(2, .int 0), (0, .ref h), (1, .int x)]) hx hb dX4_freshIn_1 rfl hl (by decide) rfl (fun ls hl => ?_)
  refine lv_iconst (v := 0) hx hb dX4_freshIn_2 (by decide) ?_
  refine lv_istore_n (lv' := [(3, .int 0), (2, .int 0), (0, .ref h), (1, .int x)]) hx hb dX4_freshIn_3 rfl hl (by decide) rfl (fun ls hl => ?_)
  have L4 : ∀ (n4 k4 : Nat) (q4 : Int32), q4 = lp_X4_freshIn_4 v x 0 k4 → k4 ≤ 10 → 10 + 1 ≤ k4 + n4 → ∀ (H : Heap) (locs : List Loc) (ls : Array Slot), va_P D vwCl [(h, .inr (4, [.ref h1, .ref h2, .ref h3, .ref h4, .ref h5])), (h1, .inl (z.1, 10, .inl v.1)), (h2, .inl (z.1, 10, .inl v.2.1)), (h3, .inl (z.1, 10, .inl v.2.2.1)), (h4, .inl (z.1, 10, .inl v.2.2.2.1)), (h5, .inl (z.1, 10, .inl v.2.2.2.2))] H → va_D A [(h, .inr (4, [.ref h1, .ref h2, .ref h3, .ref h4, .ref h5])), (h1, .inl (z.1, 10, .inl v.1)), (h2, .inl (z.1, 10, .inl v.2.1)), (h3, .inl (z.1, 10, .inl v.2.2.1)), (h4, .inl (z.1, 10, .inl v.2.2.2.1)), (h5, .inl (z.1, 10, .inl v.2.2.2.2))] → va_S A s.heap H locs → lv_has ls 4 [(3, .int (nI k4)), (2, .int q4), (0, .ref h), (1, .int x)] → W p l e R s m args below meth c H locs 0 0 Q (F0 m 4 ls []) := by
    intro n4
    induction n4 with
    | zero => intro k4 q4 hq4 h1 h2; exact absurd h2 (by omega)
    | succ n4 ih4 =>
      intro k4 q4 hq4 hk4 hn4 H locs ls hP hD hS hl
      refine lv_iload_n hx hb dX4_freshIn_4 rfl (lv_at hl 0 rfl) ?_
      refine lv_bipush (v := 10) hx hb dX4_freshIn_5 (by decide) ?_
      rcases Nat.lt_or_ge k4 10 with hlt | hge
      · refine lv_icmp_ge (tgt := 42) hx hb dX4_freshIn_7 (by decide) (fun c_2 => absurd c_2 (nI_ge (a := k4) (b := 10) (by omega) (by omega))) (fun c_2 => ?_)
        refine lv_aload_n hx hb dX4_freshIn_10 rfl (lv_at hl 2 rfl) ?_
        refine va_get (D := D) (ci := 4) (v := .ref h1) (C := RX4) (T := TX4) (N := 5) hx hb hts iX4_freshIn_X4 hown hK hP 0 rfl rfl 0 (by decide) (hts (.fieldLink RX4 9 "BarnPictures$Reels" "place" "[I") (by decide +kernel)) (fun _ h9 => h9) rfl dX4_freshIn_11 ?_
        refine lv_iload_n hx hb dX4_freshIn_14 rfl (lv_at hl 0 rfl) ?_
        refine iald_k hx hb hK hP 1 rfl k4 (ix_of (nrf k4) (by omega) (by decide)) dX4_freshIn_15 ?_
        refine lv_iload_n hx hb dX4_freshIn_16 rfl (lv_at hl 3 rfl) ?_
        refine lv_icmp_ne (tgt := 36) hx hb dX4_freshIn_17 (by decide) (fun c_3 => ?_) (fun c_3 => ?_)
        · refine lv_iinc (v := nI (k4 + 1)) (lv' := [(3, .int (nI (k4 + 1))), (2, .int q4), (0, .ref h), (1, .int x)]) hx hb dX4_freshIn_36 hl (k := 0) rfl (nI_add k4 1) (by decide) rfl (fun ls hl => ?_)
          refine lv_goto (tgt := 4) hx hb dX4_freshIn_39 (by decide) ?_
          exact ih4 (k4 + 1) q4 (by rw [lp_X4_freshIn_4_s, ← hq4]; unfold st_X4_freshIn_4; rw [if_neg c_3]; try rfl) (by omega) (by omega) _ _ _ hP hD hS (lv_sub hl [0, 1, 2, 3] rfl)
        · refine lv_aload_n hx hb dX4_freshIn_20 rfl (lv_at hl 2 rfl) ?_
          refine va_get (D := D) (ci := 4) (v := .ref h5) (C := RX4) (T := TX4) (N := 5) hx hb hts iX4_freshIn_X4 hown hK hP 0 rfl rfl 4 (by decide) (hts (.fieldLink RX4 24 "BarnPictures$Reels" "playedIn" "[I") (by decide +kernel)) (fun _ h9 => h9) rfl dX4_freshIn_21 ?_
          refine lv_iload_n hx hb dX4_freshIn_24 rfl (lv_at hl 0 rfl) ?_
          refine iald_k hx hb hK hP 5 rfl k4 (ix_of (nrf k4) (by omega) (by decide)) dX4_freshIn_25 ?_
          refine lv_iconst (v := 1) hx hb dX4_freshIn_26 (by decide) ?_
          refine lv_iload_n hx hb dX4_freshIn_27 rfl (lv_at hl 3 rfl) ?_
          refine lv_ishl hx hb dX4_freshIn_28 ?_
          refine lv_iand hx hb dX4_freshIn_29 ?_
          refine lv_if_ne (tgt := 36) hx hb dX4_freshIn_30 (by decide) (fun c_4 => ?_) (fun c_4 => ?_)
          · refine lv_iinc (v := nI (k4 + 1)) (lv' := [(3, .int (nI (k4 + 1))), (2, .int q4), (0, .ref h), (1, .int x)]) hx hb dX4_freshIn_36 hl (k := 0) rfl (nI_add k4 1) (by decide) rfl (fun ls hl => ?_)
            refine lv_goto (tgt := 4) hx hb dX4_freshIn_39 (by decide) ?_
            exact ih4 (k4 + 1) q4 (by rw [lp_X4_freshIn_4_s, ← hq4]; unfold st_X4_freshIn_4; rw [if_pos c_3, if_neg c_4]; try rfl) (by omega) (by omega) _ _ _ hP hD hS (lv_sub hl [0, 1, 2, 3] rfl)
          · refine lv_iinc (v := (q4 + 1)) (lv' := [(2, .int (q4 + 1)), (3, .int (nI k4)), (0, .ref h), (1, .int x)]) hx hb dX4_freshIn_33 hl (k := 1) rfl rfl (by decide) rfl (fun ls hl => ?_)
            refine lv_iinc (v := nI (k4 + 1)) (lv' := [(3, .int (nI (k4 + 1))), (2, .int (q4 + 1)), (0, .ref h), (1, .int x)]) hx hb dX4_freshIn_36 hl (k := 1) rfl (nI_add k4 1) (by decide) rfl (fun ls hl => ?_)
            refine lv_goto (tgt := 4) hx hb dX4_freshIn_39 (by decide) ?_
            exact ih4 (k4 + 1) (q4 + 1) (by rw [lp_X4_freshIn_4_s, ← hq4]; unfold st_X4_freshIn_4; rw [if_pos c_3, if_pos c_4]; try rfl) (by omega) (by omega) _ _ _ hP hD hS (lv_sub hl [0, 1, 2, 3] rfl)
      · obtain rfl : 10 = k4 := by omega
        refine lv_icmp_ge (tgt := 42) hx hb dX4_freshIn_7 (by decide) (fun c_2 => ?_) (fun c_2 => absurd (nI_le (a := 10) (b := 10) (by omega) (by omega)) c_2)
        have hP : va_P D vwCl [(h, .inr (4, [.ref h1, .ref h2, .ref h3, .ref h4, .ref h5])), (h1, .inl (z.1, 10, .inl v.1)), (h2, .inl (z.1, 10, .inl v.2.1)), (h3, .inl (z.1, 10, .inl v.2.2.1)), (h4, .inl (z.1, 10, .inl v.2.2.2.1)), (h5, .inl (z.1, 10, .inl v.2.2.2.2))] H := hP
        have hD : va_D A [(h, .inr (4, [.ref h1, .ref h2, .ref h3, .ref h4, .ref h5])), (h1, .inl (z.1, 10, .inl v.1)), (h2, .inl (z.1, 10, .inl v.2.1)), (h3, .inl (z.1, 10, .inl v.2.2.1)), (h4, .inl (z.1, 10, .inl v.2.2.2.1)), (h5, .inl (z.1, 10, .inl v.2.2.2.2))] := hD
        refine lv_iload_n hx hb dX4_freshIn_42 rfl (lv_at hl 1 rfl) ?_
        subst hQ
        exact ret_i () hx hb hr hK hP hD hS rfl (by unfold f_X4_freshIn; rw [← hq4]; unfold f_X4_freshIn_4_x; try rfl) dX4_freshIn_43 hlocks
  exact L4 (10 + 1) 0 0 (lp_X4_freshIn_4_0 v x 0).symm (Nat.zero_le _) (by omega) _ _ _ hP hD hS (lv_sub hl [0, 1, 2, 3] rfl)

theorem iX4_mostWearIn_X4 : ∀ w ∈ wsX40, w ∈ wsX4_mostWearIn := by decide +kernel
def f_X4_mostWearIn_4_x (v : RV) (x : Int32) (q4 : Int32) : Int32 := q4
def st_X4_mostWearIn_4 (v : RV) (x : Int32) (k4 : Nat) (q4 : Int32) : Int32 := if (v.1 k4) = x then (if q4 < (v.2.2.1 k4) then (v.2.2.1 k4) else q4) else q4
def lp_X4_mostWearIn_4 (v : RV) (x : Int32) (i0 : Int32) : Nat → Int32
  | 0 => i0
  | k + 1 => st_X4_mostWearIn_4 v x k (lp_X4_mostWearIn_4 v x i0 k)
theorem lp_X4_mostWearIn_4_0 (v : RV) (x : Int32) (i0 : Int32) : lp_X4_mostWearIn_4 v x i0 0 = i0 := rfl
theorem lp_X4_mostWearIn_4_s (v : RV) (x : Int32) (i0 : Int32) (k : Nat) : lp_X4_mostWearIn_4 v x i0 (k + 1) = st_X4_mostWearIn_4 v x k (lp_X4_mostWearIn_4 v x i0 k) := rfl
def f_X4_mostWearIn (v : RV) (x : Int32) : Int32 := f_X4_mostWearIn_4_x v x (lp_X4_mostWearIn_4 v x 0 10)
set_option maxRecDepth 100000 in
set_option maxHeartbeats 1000000 in
theorem c_X4_mostWearIn (l : Launch) (D : va_G) (z : ClassId × ClassId × ClassId) (h h1 h2 h3 h4 h5 : Nat) (v : RV) (x : Int32) (sz : Nat) : CI l yX4_mostWearIn wsX4_mostWearIn 1 21 0 0 [.ref h, .int x] D z (wX4 z h h1 h2 h3 h4 h5 v) sz (E0) (fun (zr : Int32) (_ : Unit) => zr = f_X4_mostWearIn v x) (fun _ => wX4 z h h1 h2 h3 h4 h5 v) := by
  refine met_i cX4_mostWearIn 4 (some .int) (by decide) rfl (Nat.le_of_ble_eq_true rfl) ?_
  intro p e s m args below meth c R Q hx hb hr hml hts hown hlocks hin hRf hRl hRc hRs hc0 hs0 A H hA hP hK hD hS hE hQ ls hl
  have hl : lv_has ls 4 [(0, .ref h), (1, .int x)] := hl
  have hP : va_P D vwCl [(h, .inr (4, [.ref h1, .ref h2, .ref h3, .ref h4, .ref h5])), (h1, .inl (z.1, 10, .inl v.1)), (h2, .inl (z.1, 10, .inl v.2.1)), (h3, .inl (z.1, 10, .inl v.2.2.1)), (h4, .inl (z.1, 10, .inl v.2.2.2.1)), (h5, .inl (z.1, 10, .inl v.2.2.2.2))] H := hP
  have hD : va_D A [(h, .inr (4, [.ref h1, .ref h2, .ref h3, .ref h4, .ref h5])), (h1, .inl (z.1, 10, .inl v.1)), (h2, .inl (z.1, 10, .inl v.2.1)), (h3, .inl (z.1, 10, .inl v.2.2.1)), (h4, .inl (z.1, 10, .inl v.2.2.2.1)), (h5, .inl (z.1, 10, .inl v.2.2.2.2))] := hD
  have hown : s.vm.findClass RX4 = some m.cls := hown
  refine lv_iconst (v := 0) hx hb dX4_mostWearIn_0 (by decide) ?_
  refine lv_istore_n (lv' := [(2, .int 0), (0, .ref h), (1, .int x)]) hx hb dX4_mostWearIn_1 rfl hl (by decide) rfl (fun ls hl => ?_)
  refine lv_iconst (v := 0) hx hb dX4_mostWearIn_2 (by decide) ?_
  refine lv_istore_n (lv' := [(3, .int 0), (2, .int 0), (0, .ref h), (1, .int x)]) hx hb dX4_mostWearIn_3 rfl hl (by decide) rfl (fun ls hl => ?_)
  have L4 : ∀ (n4 k4 : Nat) (q4 : Int32), q4 = lp_X4_mostWearIn_4 v x 0 k4 → k4 ≤ 10 → 10 + 1 ≤ k4 + n4 → ∀ (H : Heap) (locs : List Loc) (ls : Array Slot), va_P D vwCl [(h, .inr (4, [.ref h1, .ref h2, .ref h3, .ref h4, .ref h5])), (h1, .inl (z.1, 10, .inl v.1)), (h2, .inl (z.1, 10, .inl v.2.1)), (h3, .inl (z.1, 10, .inl v.2.2.1)), (h4, .inl (z.1, 10, .inl v.2.2.2.1)), (h5, .inl (z.1, 10, .inl v.2.2.2.2))] H → va_D A [(h, .inr (4, [.ref h1, .ref h2, .ref h3, .ref h4, .ref h5])), (h1, .inl (z.1, 10, .inl v.1)), (h2, .inl (z.1, 10, .inl v.2.1)), (h3, .inl (z.1, 10, .inl v.2.2.1)), (h4, .inl (z.1, 10, .inl v.2.2.2.1)), (h5, .inl (z.1, 10, .inl v.2.2.2.2))] → va_S A s.heap H locs → lv_has ls 4 [(3, .int (nI k4)), (2, .int q4), (0, .ref h), (1, .int x)] → W p l e R s m args below meth c H locs 0 0 Q (F0 m 4 ls []) := by
    intro n4
    induction n4 with
    | zero => intro k4 q4 hq4 h1 h2; exact absurd h2 (by omega)
    | succ n4 ih4 =>
      intro k4 q4 hq4 hk4 hn4 H locs ls hP hD hS hl
      refine lv_iload_n hx hb dX4_mostWearIn_4 rfl (lv_at hl 0 rfl) ?_
      refine lv_bipush (v := 10) hx hb dX4_mostWearIn_5 (by decide) ?_
      rcases Nat.lt_or_ge k4 10 with hlt | hge
      · refine lv_icmp_ge (tgt := 37) hx hb dX4_mostWearIn_7 (by decide) (fun c_2 => absurd c_2 (nI_ge (a := k4) (b := 10) (by omega) (by omega))) (fun c_2 => ?_)
        refine lv_aload_n hx hb dX4_mostWearIn_10 rfl (lv_at hl 2 rfl) ?_
        refine va_get (D := D) (ci := 4) (v := .ref h1) (C := RX4) (T := TX4) (N := 5) hx hb hts iX4_mostWearIn_X4 hown hK hP 0 rfl rfl 0 (by decide) (hts (.fieldLink RX4 9 "BarnPictures$Reels" "place" "[I") (by decide +kernel)) (fun _ h9 => h9) rfl dX4_mostWearIn_11 ?_
        refine lv_iload_n hx hb dX4_mostWearIn_14 rfl (lv_at hl 0 rfl) ?_
        refine iald_k hx hb hK hP 1 rfl k4 (ix_of (nrf k4) (by omega) (by decide)) dX4_mostWearIn_15 ?_
        refine lv_iload_n hx hb dX4_mostWearIn_16 rfl (lv_at hl 3 rfl) ?_
        refine lv_icmp_ne (tgt := 31) hx hb dX4_mostWearIn_17 (by decide) (fun c_3 => ?_) (fun c_3 => ?_)
        · refine lv_iinc (v := nI (k4 + 1)) (lv' := [(3, .int (nI (k4 + 1))), (2, .int q4), (0, .ref h), (1, .int x)]) hx hb dX4_mostWearIn_31 hl (k := 0) rfl (nI_add k4 1) (by decide) rfl (fun ls hl => ?_)
          refine lv_goto (tgt := 4) hx hb dX4_mostWearIn_34 (by decide) ?_
          exact ih4 (k4 + 1) q4 (by rw [lp_X4_mostWearIn_4_s, ← hq4]; unfold st_X4_mostWearIn_4; rw [if_neg c_3]; try rfl) (by omega) (by omega) _ _ _ hP hD hS (lv_sub hl [0, 1, 2, 3] rfl)
        · refine lv_iload_n hx hb dX4_mostWearIn_20 rfl (lv_at hl 1 rfl) ?_
          refine lv_aload_n hx hb dX4_mostWearIn_21 rfl (lv_at hl 2 rfl) ?_
          refine va_get (D := D) (ci := 4) (v := .ref h3) (C := RX4) (T := TX4) (N := 5) hx hb hts iX4_mostWearIn_X4 hown hK hP 0 rfl rfl 2 (by decide) (hts (.fieldLink RX4 18 "BarnPictures$Reels" "wear" "[I") (by decide +kernel)) (fun _ h9 => h9) rfl dX4_mostWearIn_22 ?_
          refine lv_iload_n hx hb dX4_mostWearIn_25 rfl (lv_at hl 0 rfl) ?_
          refine iald_k hx hb hK hP 3 rfl k4 (ix_of (nrf k4) (by omega) (by decide)) dX4_mostWearIn_26 ?_
          refine va_mmax hx hb (hml.trans hl.1.symm) hown (hts (.methodLink RX4 33 Lib.Math.max.name) (by decide +kernel)) (hts (.static Lib.Math.max.name) (by decide +kernel)) (hts (.initialized "java/lang/Math") (by decide +kernel)) (hts (.code Lib.Math.max.name Lib.Math.max.code 2 (some .int)) (by decide +kernel)) (Nat.le_trans (by decide) hRf) (Nat.le_trans (Nat.le_of_ble_eq_true rfl) hRl) hc0 hs0 dX4_mostWearIn_27 ?_
          refine lv_istore_n (lv' := [(2, .int (if q4 < (v.2.2.1 k4) then (v.2.2.1 k4) else q4)), (3, .int (nI k4)), (0, .ref h), (1, .int x)]) hx hb dX4_mostWearIn_30 rfl hl (by decide) rfl (fun ls hl => ?_)
          refine lv_iinc (v := nI (k4 + 1)) (lv' := [(3, .int (nI (k4 + 1))), (2, .int (if q4 < (v.2.2.1 k4) then (v.2.2.1 k4) else q4)), (0, .ref h), (1, .int x)]) hx hb dX4_mostWearIn_31 hl (k := 1) rfl (nI_add k4 1) (by decide) rfl (fun ls hl => ?_)
          refine lv_goto (tgt := 4) hx hb dX4_mostWearIn_34 (by decide) ?_
          exact ih4 (k4 + 1) (if q4 < (v.2.2.1 k4) then (v.2.2.1 k4) else q4) (by rw [lp_X4_mostWearIn_4_s, ← hq4]; unfold st_X4_mostWearIn_4; rw [if_pos c_3]; try rfl) (by omega) (by omega) _ _ _ hP hD hS (lv_sub hl [0, 1, 2, 3] rfl)
      · obtain rfl : 10 = k4 := by omega
        refine lv_icmp_ge (tgt := 37) hx hb dX4_mostWearIn_7 (by decide) (fun c_2 => ?_) (fun c_2 => absurd (nI_le (a := 10) (b := 10) (by omega) (by omega)) c_2)
        have hP : va_P D vwCl [(h, .inr (4, [.ref h1, .ref h2, .ref h3, .ref h4, .ref h5])), (h1, .inl (z.1, 10, .inl v.1)), (h2, .inl (z.1, 10, .inl v.2.1)), (h3, .inl (z.1, 10, .inl v.2.2.1)), (h4, .inl (z.1, 10, .inl v.2.2.2.1)), (h5, .inl (z.1, 10, .inl v.2.2.2.2))] H := hP
        have hD : va_D A [(h, .inr (4, [.ref h1, .ref h2, .ref h3, .ref h4, .ref h5])), (h1, .inl (z.1, 10, .inl v.1)), (h2, .inl (z.1, 10, .inl v.2.1)), (h3, .inl (z.1, 10, .inl v.2.2.1)), (h4, .inl (z.1, 10, .inl v.2.2.2.1)), (h5, .inl (z.1, 10, .inl v.2.2.2.2))] := hD
        refine lv_iload_n hx hb dX4_mostWearIn_37 rfl (lv_at hl 1 rfl) ?_
        subst hQ
        exact ret_i () hx hb hr hK hP hD hS rfl (by unfold f_X4_mostWearIn; rw [← hq4]; unfold f_X4_mostWearIn_4_x; try rfl) dX4_mostWearIn_38 hlocks
  exact L4 (10 + 1) 0 0 (lp_X4_mostWearIn_4_0 v x 0).symm (Nat.zero_le _) (by omega) _ _ _ hP hD hS (lv_sub hl [0, 1, 2, 3] rfl)

theorem iX6_copyFrom_X6 : ∀ w ∈ wsX60, w ∈ wsX6_copyFrom := by decide +kernel
def f_X6_copyFrom (v : LV) (v2 : LV) : LV := (v2.1, v2.2)
set_option maxRecDepth 100000 in
set_option maxHeartbeats 1000000 in
theorem c_X6_copyFrom (l : Launch) (D : va_G) (z : ClassId × ClassId × ClassId) (h h1 : Nat) (o o1 : Nat) (v : LV) (v2 : LV) (sz : Nat) : CV l yX6_copyFrom wsX6_copyFrom 1 48 0 0 [.ref h, .ref o] D z (wX6 z h h1 v ++ wX6 z o o1 v2) sz (E0) (fun (zu : LV) => zu = f_X6_copyFrom v v2) (fun zu => wX6 z h h1 zu ++ wX6 z o o1 v2) := by
  refine met_v cX6_copyFrom 2 (by decide) rfl (Nat.le_of_ble_eq_true rfl) ?_
  intro p e s m args below meth c R Q hx hb hr hml hts hown hlocks hin hRf hRl hRc hRs hc0 hs0 A H hA hP hK hD hS hE hQ ls hl
  have hl : lv_has ls 2 [(0, .ref h), (1, .ref o)] := hl
  have hP : va_P D vwCl [(h, .inr (6, [.ref h1, .int v.2])), (h1, .inl (z.1, 30, .inl v.1)), (o, .inr (6, [.ref o1, .int v2.2])), (o1, .inl (z.1, 30, .inl v2.1))] H := hP
  have hD : va_D A [(h, .inr (6, [.ref h1, .int v.2])), (h1, .inl (z.1, 30, .inl v.1)), (o, .inr (6, [.ref o1, .int v2.2])), (o1, .inl (z.1, 30, .inl v2.1))] := hD
  have hown : s.vm.findClass RX6 = some m.cls := hown
  refine lv_aload_n hx hb dX6_copyFrom_0 rfl (lv_at hl 1 rfl) ?_
  refine va_get (D := D) (ci := 6) (v := .ref o1) (C := RX6) (T := TX6) (N := 2) hx hb hts iX6_copyFrom_X6 hown hK hP 2 rfl rfl 0 (by decide) (hts (.fieldLink RX6 9 "BarnPictures$ShowLog" "numbers" "[I") (by decide +kernel)) (fun _ h9 => h9) rfl dX6_copyFrom_1 ?_
  refine lv_iconst (v := 0) hx hb dX6_copyFrom_4 (by decide) ?_
  refine lv_aload_n hx hb dX6_copyFrom_5 rfl (lv_at hl 0 rfl) ?_
  refine va_get (D := D) (ci := 6) (v := .ref h1) (C := RX6) (T := TX6) (N := 2) hx hb hts iX6_copyFrom_X6 hown hK hP 0 rfl rfl 0 (by decide) (hts (.fieldLink RX6 9 "BarnPictures$ShowLog" "numbers" "[I") (by decide +kernel)) (fun _ h9 => h9) rfl dX6_copyFrom_6 ?_
  refine lv_iconst (v := 0) hx hb dX6_copyFrom_9 (by decide) ?_
  refine lv_bipush (v := 30) hx hb dX6_copyFrom_10 (by decide) ?_
  refine copy_k hx hb (hml.trans hl.1.symm) hown (hts (.methodLink RX6 19 arraycopyName) (by decide +kernel)) (hts (.native arraycopyName) (by decide +kernel)) (hts (.static arraycopyName) (by decide +kernel)) (hts (.initialized "java/lang/System") (by decide +kernel)) hK hP hD hS 3 1 30 rfl rfl (by decide) (by decide) (Nat.le_trans (by decide) hRf) (Nat.le_trans (Nat.le_of_ble_eq_true rfl) hRl) dX6_copyFrom_12 (fun H locs hP hD hS => ?_)
  have hP : va_P D vwCl [(h, .inr (6, [.ref h1, .int v.2])), (h1, .inl (z.1, 30, .inl v2.1)), (o, .inr (6, [.ref o1, .int v2.2])), (o1, .inl (z.1, 30, .inl v2.1))] H := hP
  have hD : va_D A [(h, .inr (6, [.ref h1, .int v.2])), (h1, .inl (z.1, 30, .inl v2.1)), (o, .inr (6, [.ref o1, .int v2.2])), (o1, .inl (z.1, 30, .inl v2.1))] := hD
  refine lv_aload_n hx hb dX6_copyFrom_15 rfl (lv_at hl 0 rfl) ?_
  refine lv_aload_n hx hb dX6_copyFrom_16 rfl (lv_at hl 1 rfl) ?_
  refine va_get (D := D) (ci := 6) (v := .int v2.2) (C := RX6) (T := TX6) (N := 2) hx hb hts iX6_copyFrom_X6 hown hK hP 2 rfl rfl 1 (by decide) (hts (.fieldLink RX6 15 "BarnPictures$ShowLog" "size" "I") (by decide +kernel)) (fun _ h9 => h9) rfl dX6_copyFrom_17 ?_
  refine va_put (D := D) (ci := 6) (v := .int v2.2) (ty := .int) (C := RX6) (T := TX6) (N := 2) hx hb hts iX6_copyFrom_X6 tyX6 tyX6_ok nmX6 hown hK hP hD hS 0 rfl rfl 1 (by decide) (hts (.fieldLink RX6 15 "BarnPictures$ShowLog" "size" "I") (by decide +kernel)) (fun _ h9 => h9) rfl (by decide +kernel) rfl rfl (Nat.le_of_ble_eq_true rfl) dX6_copyFrom_20 (fun H locs hP hD hS => ?_)
  have hP : va_P D vwCl [(h, .inr (6, [.ref h1, .int v2.2])), (h1, .inl (z.1, 30, .inl v2.1)), (o, .inr (6, [.ref o1, .int v2.2])), (o1, .inl (z.1, 30, .inl v2.1))] H := hP
  have hD : va_D A [(h, .inr (6, [.ref h1, .int v2.2])), (h1, .inl (z.1, 30, .inl v2.1)), (o, .inr (6, [.ref o1, .int v2.2])), (o1, .inl (z.1, 30, .inl v2.1))] := hD
  subst hQ
  exact ret_v (v2.1, v2.2) hx hb hr hK hP hD hS rfl rfl dX6_copyFrom_23 hlocks

theorem iX6_size_X6 : ∀ w ∈ wsX60, w ∈ wsX6_size := by decide +kernel
def f_X6_size (v : LV) : Int32 := v.2
set_option maxRecDepth 100000 in
set_option maxHeartbeats 1000000 in
theorem c_X6_size (l : Launch) (D : va_G) (z : ClassId × ClassId × ClassId) (h h1 : Nat) (v : LV) (sz : Nat) : CI l yX6_size wsX6_size 0 0 0 0 [.ref h] D z (wX6 z h h1 v) sz (E0) (fun (zr : Int32) (_ : Unit) => zr = f_X6_size v) (fun _ => wX6 z h h1 v) := by
  refine met_i cX6_size 1 (some .int) (by decide) rfl (Nat.le_of_ble_eq_true rfl) ?_
  intro p e s m args below meth c R Q hx hb hr hml hts hown hlocks hin hRf hRl hRc hRs hc0 hs0 A H hA hP hK hD hS hE hQ ls hl
  have hl : lv_has ls 1 [(0, .ref h)] := hl
  have hP : va_P D vwCl [(h, .inr (6, [.ref h1, .int v.2])), (h1, .inl (z.1, 30, .inl v.1))] H := hP
  have hD : va_D A [(h, .inr (6, [.ref h1, .int v.2])), (h1, .inl (z.1, 30, .inl v.1))] := hD
  have hown : s.vm.findClass RX6 = some m.cls := hown
  refine lv_aload_n hx hb dX6_size_0 rfl (lv_at hl 0 rfl) ?_
  refine va_get (D := D) (ci := 6) (v := .int v.2) (C := RX6) (T := TX6) (N := 2) hx hb hts iX6_size_X6 hown hK hP 0 rfl rfl 1 (by decide) (hts (.fieldLink RX6 15 "BarnPictures$ShowLog" "size" "I") (by decide +kernel)) (fun _ h9 => h9) rfl dX6_size_1 ?_
  subst hQ
  exact ret_i () hx hb hr hK hP hD hS rfl rfl dX6_size_4 hlocks

theorem iX8_length_X8 : ∀ w ∈ wsX80, w ∈ wsX8_length := by decide +kernel
def f_X8_length (v : TV) : Int32 := v.2
set_option maxRecDepth 100000 in
set_option maxHeartbeats 1000000 in
theorem c_X8_length (l : Launch) (D : va_G) (z : ClassId × ClassId × ClassId) (h h1 : Nat) (v : TV) (sz : Nat) : CI l yX8_length wsX8_length 0 0 0 0 [.ref h] D z (wX8 z h h1 v) sz (E0) (fun (zr : Int32) (_ : Unit) => zr = f_X8_length v) (fun _ => wX8 z h h1 v) := by
  refine met_i cX8_length 1 (some .int) (by decide) rfl (Nat.le_of_ble_eq_true rfl) ?_
  intro p e s m args below meth c R Q hx hb hr hml hts hown hlocks hin hRf hRl hRc hRs hc0 hs0 A H hA hP hK hD hS hE hQ ls hl
  have hl : lv_has ls 1 [(0, .ref h)] := hl
  have hP : va_P D vwCl [(h, .inr (8, [.ref h1, .int v.2])), (h1, .inl (z.2.1, 80, .inl v.1))] H := hP
  have hD : va_D A [(h, .inr (8, [.ref h1, .int v.2])), (h1, .inl (z.2.1, 80, .inl v.1))] := hD
  have hown : s.vm.findClass RX8 = some m.cls := hown
  refine lv_aload_n hx hb dX8_length_0 rfl (lv_at hl 0 rfl) ?_
  refine va_get (D := D) (ci := 8) (v := .int v.2) (C := RX8) (T := TX8) (N := 2) hx hb hts iX8_length_X8 hown hK hP 0 rfl rfl 1 (by decide) (hts (.fieldLink RX8 15 "BarnPictures$Text" "length" "I") (by decide +kernel)) (fun _ h9 => h9) rfl dX8_length_1 ?_
  subst hQ
  exact ret_i () hx hb hr hK hP hD hS rfl rfl dX8_length_4 hlocks

