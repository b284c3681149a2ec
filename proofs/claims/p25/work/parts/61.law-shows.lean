def f_L_isShowSo_q258 (v : PV) (x : Int32) (q90 : Int32 × PV) (q258 : Int32 × PV) : Int32 × PV := (0, q258.2)
def f_L_isShowSo_q258_2 (v : PV) (x : Int32) (q90 : Int32 × PV) (q258_2 : Int32 × PV) : Int32 × PV := (0, q258_2.2)
def f_L_isShowSo_q258_3 (v : PV) (x : Int32) (q90 : Int32 × PV) (q258_3 : Int32 × PV) : Int32 × PV := (0, q258_3.2)
def f_L_isShowSo_q258_4 (v : PV) (x : Int32) (q90 : Int32 × PV) (q258_4 : Int32 × PV) : Int32 × PV := (0, q258_4.2)
def f_L_isShowSo_q258_5 (v : PV) (x : Int32) (q90 : Int32 × PV) (q258_5 : Int32 × PV) : Int32 × PV := (0, q258_5.2)
def f_L_isShowSo_q258_7 (v : PV) (x : Int32) (q90 : Int32 × PV) (q185 : Int32 × PV) (q258_7 : Int32 × PV) : Int32 × PV := (0, q258_7.2)
def f_L_isShowSo_q258_8 (v : PV) (x : Int32) (q90 : Int32 × PV) (q185 : Int32 × PV) (q258_8 : Int32 × PV) : Int32 × PV := (0, q258_8.2)
def f_L_isShowSo_q258_9 (v : PV) (x : Int32) (q90 : Int32 × PV) (q185 : Int32 × PV) (q258_9 : Int32 × PV) : Int32 × PV := (0, q258_9.2)
def f_L_isShowSo_q258_10 (v : PV) (x : Int32) (q90 : Int32 × PV) (q185 : Int32 × PV) (q258_10 : Int32 × PV) : Int32 × PV := (0, q258_10.2)
def f_L_isShowSo_q258_11 (v : PV) (x : Int32) (q90 : Int32 × PV) (q185 : Int32 × PV) (q258_11 : Int32 × PV) : Int32 × PV := (0, q258_11.2)
def f_L_isShowSo_q258_12 (v : PV) (x : Int32) (q90 : Int32 × PV) (q185 : Int32 × PV) (q258_12 : Int32 × PV) : Int32 × PV := (0, q258_12.2)
def f_L_isShowSo_q258_13 (v : PV) (x : Int32) (q90 : Int32 × PV) (q185 : Int32 × PV) (q258_13 : Int32 × PV) : Int32 × PV := if q258_13.1 < 0 then (0, q258_13.2) else if (f_X9_count q258_13.2 4) = (f_X9_count v 4) then (1, q258_13.2) else (0, q258_13.2)
def f_L_isShowSo_q185 (v : PV) (x : Int32) (q90 : Int32 × PV) (q185 : Int32 × PV) : Int32 × PV := if q185.1 = (-10000011) then if (f_X9_showOf q185.2 0 1) = x then if (f_X9_showOf q185.2 0 2) = (f_X9_barn v x 5) then if (f_X9_showOf q185.2 0 3) = q90.1 then if (f_X9_showOf q185.2 0 4) = (f_X9_barn v x 4) then if (f_X9_showOf q185.2 0 0) = (f_X9_count q185.2 0) then f_L_isShowSo_q258_13 v x q90 q185 (f_X9_undo q185.2) else f_L_isShowSo_q258_12 v x q90 q185 (f_X9_undo q185.2) else f_L_isShowSo_q258_11 v x q90 q185 (f_X9_undo q185.2) else f_L_isShowSo_q258_10 v x q90 q185 (f_X9_undo q185.2) else f_L_isShowSo_q258_9 v x q90 q185 (f_X9_undo q185.2) else f_L_isShowSo_q258_8 v x q90 q185 (f_X9_undo q185.2) else f_L_isShowSo_q258_7 v x q90 q185 (f_X9_undo q185.2)
def f_L_isShowSo_q90 (v : PV) (x : Int32) (q90 : Int32 × PV) : Int32 × PV := if (f_X9_barn v x 6) ≤ 0 then if q90.1 = (f_X9_ifPrice v x (f_X9_count v 11)) then if (f_X9_count q90.2 4) = ((f_X9_count v 4) + q90.1) then if (f_X9_generator q90.2 1 1) = ((f_X9_generator v 1 1) - (f_X9_barn v x 4)) then if (f_X9_count q90.2 10) = ((f_X9_count v 10) + (f_X9_barn v x 5)) then if (f_X9_barn q90.2 x 6) = 1 then f_L_isShowSo_q185 v x q90 (f_X9_show q90.2 x) else f_L_isShowSo_q258_5 v x q90 (f_X9_undo q90.2) else f_L_isShowSo_q258_4 v x q90 (f_X9_undo q90.2) else f_L_isShowSo_q258_3 v x q90 (f_X9_undo q90.2) else f_L_isShowSo_q258_2 v x q90 (f_X9_undo q90.2) else f_L_isShowSo_q258 v x q90 (f_X9_undo q90.2) else if q90.1 = ((-10000010) - (f_X9_barn v x 6)) then if (f_X9_count q90.2 4) = (f_X9_count v 4) then (1, q90.2) else (0, q90.2) else (0, q90.2)
def f_L_isShowSo_q258_15 (v : PV) (x : Int32) (q90_14 : Int32 × PV) (q258_15 : Int32 × PV) : Int32 × PV := (0, q258_15.2)
def f_L_isShowSo_q258_16 (v : PV) (x : Int32) (q90_14 : Int32 × PV) (q258_16 : Int32 × PV) : Int32 × PV := (0, q258_16.2)
def f_L_isShowSo_q258_17 (v : PV) (x : Int32) (q90_14 : Int32 × PV) (q258_17 : Int32 × PV) : Int32 × PV := (0, q258_17.2)
def f_L_isShowSo_q258_18 (v : PV) (x : Int32) (q90_14 : Int32 × PV) (q258_18 : Int32 × PV) : Int32 × PV := (0, q258_18.2)
def f_L_isShowSo_q258_19 (v : PV) (x : Int32) (q90_14 : Int32 × PV) (q258_19 : Int32 × PV) : Int32 × PV := (0, q258_19.2)
def f_L_isShowSo_q258_21 (v : PV) (x : Int32) (q90_14 : Int32 × PV) (q185_20 : Int32 × PV) (q258_21 : Int32 × PV) : Int32 × PV := (0, q258_21.2)
def f_L_isShowSo_q258_22 (v : PV) (x : Int32) (q90_14 : Int32 × PV) (q185_20 : Int32 × PV) (q258_22 : Int32 × PV) : Int32 × PV := (0, q258_22.2)
def f_L_isShowSo_q258_23 (v : PV) (x : Int32) (q90_14 : Int32 × PV) (q185_20 : Int32 × PV) (q258_23 : Int32 × PV) : Int32 × PV := (0, q258_23.2)
def f_L_isShowSo_q258_24 (v : PV) (x : Int32) (q90_14 : Int32 × PV) (q185_20 : Int32 × PV) (q258_24 : Int32 × PV) : Int32 × PV := (0, q258_24.2)
def f_L_isShowSo_q258_25 (v : PV) (x : Int32) (q90_14 : Int32 × PV) (q185_20 : Int32 × PV) (q258_25 : Int32 × PV) : Int32 × PV := (0, q258_25.2)
def f_L_isShowSo_q258_26 (v : PV) (x : Int32) (q90_14 : Int32 × PV) (q185_20 : Int32 × PV) (q258_26 : Int32 × PV) : Int32 × PV := (0, q258_26.2)
def f_L_isShowSo_q258_27 (v : PV) (x : Int32) (q90_14 : Int32 × PV) (q185_20 : Int32 × PV) (q258_27 : Int32 × PV) : Int32 × PV := if q258_27.1 < 0 then (0, q258_27.2) else if (f_X9_count q258_27.2 4) = (f_X9_count v 4) then (1, q258_27.2) else (0, q258_27.2)
def f_L_isShowSo_q185_20 (v : PV) (x : Int32) (q90_14 : Int32 × PV) (q185_20 : Int32 × PV) : Int32 × PV := if q185_20.1 = (-10000011) then if (f_X9_showOf q185_20.2 0 1) = x then if (f_X9_showOf q185_20.2 0 2) = (f_X9_barn v x 5) then if (f_X9_showOf q185_20.2 0 3) = q90_14.1 then if (f_X9_showOf q185_20.2 0 4) = (f_X9_barn v x 4) then if (f_X9_showOf q185_20.2 0 0) = (f_X9_count q185_20.2 0) then f_L_isShowSo_q258_27 v x q90_14 q185_20 (f_X9_undo q185_20.2) else f_L_isShowSo_q258_26 v x q90_14 q185_20 (f_X9_undo q185_20.2) else f_L_isShowSo_q258_25 v x q90_14 q185_20 (f_X9_undo q185_20.2) else f_L_isShowSo_q258_24 v x q90_14 q185_20 (f_X9_undo q185_20.2) else f_L_isShowSo_q258_23 v x q90_14 q185_20 (f_X9_undo q185_20.2) else f_L_isShowSo_q258_22 v x q90_14 q185_20 (f_X9_undo q185_20.2) else f_L_isShowSo_q258_21 v x q90_14 q185_20 (f_X9_undo q185_20.2)
def f_L_isShowSo_q90_14 (v : PV) (x : Int32) (q90_14 : Int32 × PV) : Int32 × PV := if (f_X9_barn v x 6) ≤ 0 then if q90_14.1 = (f_X9_ifPrice v x (f_X9_count v 11)) then if (f_X9_count q90_14.2 4) = ((f_X9_count v 4) + q90_14.1) then if (f_X9_generator q90_14.2 1 1) = ((f_X9_generator v 1 1) - (f_X9_barn v x 4)) then if (f_X9_count q90_14.2 10) = ((f_X9_count v 10) + (f_X9_barn v x 5)) then if (f_X9_barn q90_14.2 x 6) = 1 then f_L_isShowSo_q185_20 v x q90_14 (f_X9_show q90_14.2 x) else f_L_isShowSo_q258_19 v x q90_14 (f_X9_undo q90_14.2) else f_L_isShowSo_q258_18 v x q90_14 (f_X9_undo q90_14.2) else f_L_isShowSo_q258_17 v x q90_14 (f_X9_undo q90_14.2) else f_L_isShowSo_q258_16 v x q90_14 (f_X9_undo q90_14.2) else f_L_isShowSo_q258_15 v x q90_14 (f_X9_undo q90_14.2) else if q90_14.1 = ((-10000010) - (f_X9_barn v x 6)) then if (f_X9_count q90_14.2 4) = (f_X9_count v 4) then (1, q90_14.2) else (0, q90_14.2) else (0, q90_14.2)
def f_L_isShowSo_q258_29 (v : PV) (x : Int32) (q90_28 : Int32 × PV) (q258_29 : Int32 × PV) : Int32 × PV := (0, q258_29.2)
def f_L_isShowSo_q258_30 (v : PV) (x : Int32) (q90_28 : Int32 × PV) (q258_30 : Int32 × PV) : Int32 × PV := (0, q258_30.2)
def f_L_isShowSo_q258_31 (v : PV) (x : Int32) (q90_28 : Int32 × PV) (q258_31 : Int32 × PV) : Int32 × PV := (0, q258_31.2)
def f_L_isShowSo_q258_32 (v : PV) (x : Int32) (q90_28 : Int32 × PV) (q258_32 : Int32 × PV) : Int32 × PV := (0, q258_32.2)
def f_L_isShowSo_q258_33 (v : PV) (x : Int32) (q90_28 : Int32 × PV) (q258_33 : Int32 × PV) : Int32 × PV := (0, q258_33.2)
def f_L_isShowSo_q258_35 (v : PV) (x : Int32) (q90_28 : Int32 × PV) (q185_34 : Int32 × PV) (q258_35 : Int32 × PV) : Int32 × PV := (0, q258_35.2)
def f_L_isShowSo_q258_36 (v : PV) (x : Int32) (q90_28 : Int32 × PV) (q185_34 : Int32 × PV) (q258_36 : Int32 × PV) : Int32 × PV := (0, q258_36.2)
def f_L_isShowSo_q258_37 (v : PV) (x : Int32) (q90_28 : Int32 × PV) (q185_34 : Int32 × PV) (q258_37 : Int32 × PV) : Int32 × PV := (0, q258_37.2)
def f_L_isShowSo_q258_38 (v : PV) (x : Int32) (q90_28 : Int32 × PV) (q185_34 : Int32 × PV) (q258_38 : Int32 × PV) : Int32 × PV := (0, q258_38.2)
def f_L_isShowSo_q258_39 (v : PV) (x : Int32) (q90_28 : Int32 × PV) (q185_34 : Int32 × PV) (q258_39 : Int32 × PV) : Int32 × PV := (0, q258_39.2)
def f_L_isShowSo_q258_40 (v : PV) (x : Int32) (q90_28 : Int32 × PV) (q185_34 : Int32 × PV) (q258_40 : Int32 × PV) : Int32 × PV := (0, q258_40.2)
def f_L_isShowSo_q258_41 (v : PV) (x : Int32) (q90_28 : Int32 × PV) (q185_34 : Int32 × PV) (q258_41 : Int32 × PV) : Int32 × PV := if q258_41.1 < 0 then (0, q258_41.2) else if (f_X9_count q258_41.2 4) = (f_X9_count v 4) then (1, q258_41.2) else (0, q258_41.2)
def f_L_isShowSo_q185_34 (v : PV) (x : Int32) (q90_28 : Int32 × PV) (q185_34 : Int32 × PV) : Int32 × PV := if q185_34.1 = (-10000011) then if (f_X9_showOf q185_34.2 0 1) = x then if (f_X9_showOf q185_34.2 0 2) = (f_X9_barn v x 5) then if (f_X9_showOf q185_34.2 0 3) = q90_28.1 then if (f_X9_showOf q185_34.2 0 4) = (f_X9_barn v x 4) then if (f_X9_showOf q185_34.2 0 0) = (f_X9_count q185_34.2 0) then f_L_isShowSo_q258_41 v x q90_28 q185_34 (f_X9_undo q185_34.2) else f_L_isShowSo_q258_40 v x q90_28 q185_34 (f_X9_undo q185_34.2) else f_L_isShowSo_q258_39 v x q90_28 q185_34 (f_X9_undo q185_34.2) else f_L_isShowSo_q258_38 v x q90_28 q185_34 (f_X9_undo q185_34.2) else f_L_isShowSo_q258_37 v x q90_28 q185_34 (f_X9_undo q185_34.2) else f_L_isShowSo_q258_36 v x q90_28 q185_34 (f_X9_undo q185_34.2) else f_L_isShowSo_q258_35 v x q90_28 q185_34 (f_X9_undo q185_34.2)
def f_L_isShowSo_q90_28 (v : PV) (x : Int32) (q90_28 : Int32 × PV) : Int32 × PV := if (f_X9_barn v x 6) ≤ 0 then if q90_28.1 = (f_X9_ifPrice v x (f_X9_count v 11)) then if (f_X9_count q90_28.2 4) = ((f_X9_count v 4) + q90_28.1) then if (f_X9_generator q90_28.2 0 1) = ((f_X9_generator v 0 1) - (f_X9_barn v x 4)) then if (f_X9_count q90_28.2 10) = ((f_X9_count v 10) + (f_X9_barn v x 5)) then if (f_X9_barn q90_28.2 x 6) = 1 then f_L_isShowSo_q185_34 v x q90_28 (f_X9_show q90_28.2 x) else f_L_isShowSo_q258_33 v x q90_28 (f_X9_undo q90_28.2) else f_L_isShowSo_q258_32 v x q90_28 (f_X9_undo q90_28.2) else f_L_isShowSo_q258_31 v x q90_28 (f_X9_undo q90_28.2) else f_L_isShowSo_q258_30 v x q90_28 (f_X9_undo q90_28.2) else f_L_isShowSo_q258_29 v x q90_28 (f_X9_undo q90_28.2) else if q90_28.1 = ((-10000010) - (f_X9_barn v x 6)) then if (f_X9_count q90_28.2 4) = (f_X9_count v 4) then (1, q90_28.2) else (0, q90_28.2) else (0, q90_28.2)
def f_L_isShowSo (v : PV) (x : Int32) : Int32 × PV := if (f_X9_generator v 0 0) = x then if (f_X9_generator v 0 1) < (f_X9_barn v x 4) then f_L_isShowSo_q90_14 v x (f_X9_show v x) else f_L_isShowSo_q90_28 v x (f_X9_show v x) else f_L_isShowSo_q90 v x (f_X9_show v x)
set_option maxRecDepth 100000 in
set_option maxHeartbeats 20000000 in
theorem c_L_isShowSo (l : Launch) (D : va_G) (z : ClassId × ClassId × ClassId) (tM tS : Nat) (h : Nat) (a b c9 : Nat → Nat) (hh hh1 : Nat) (d0 d1 d2 d3 : Nat → Nat) (t9 t91 r9 r91 r92 r93 : Nat) (v : PV) (x : Int32) (hI : IV v) (sz : Nat) : CI l yL_isShowSo wsL_isShowSo 6 153 0 0 [.ref h, .int x] D z (wX9 z h a b c9 hh hh1 d0 d1 d2 d3 t9 t91 r9 r91 r92 r93 v) sz (EV tM tS) (fun (zr : Int32) (zu : PV) => (zr, zu) = f_L_isShowSo v x ∧ (zr = 0 ∨ zr = 1)) (fun zu => wX9 z h a b c9 hh hh1 d0 d1 d2 d3 t9 t91 r9 r91 r92 r93 zu) := by
  refine met_i cL_isShowSo 13 (some .boolean) (by decide) rfl (Nat.le_of_ble_eq_true rfl) ?_
  intro p e s m args below meth c R Q hx hb hr hml hts hown hlocks hin hRf hRl hRc hRs hc0 hs0 A H hA hP hK hD hS hE hQ ls hl
  have hl : lv_has ls 13 [(0, .ref h), (1, .int x)] := hl
  have hP : va_P D vwCl (wX9 z h a b c9 hh hh1 d0 d1 d2 d3 t9 t91 r9 r91 r92 r93 v) H := hP
  have hD : va_D A (wX9 z h a b c9 hh hh1 d0 d1 d2 d3 t9 t91 r9 r91 r92 r93 v) := hD
  have hown : s.vm.findClass RL = some m.cls := hown
  refine lv_aload_n hx hb dL_isShowSo_0 rfl (lv_at hl 0 rfl) ?_
  refine lv_iload_n hx hb dL_isShowSo_1 rfl (lv_at hl 1 rfl) ?_
  refine lv_bipush (v := 6) hx hb dL_isShowSo_2 (by decide) ?_
  refine call_W (w1 := fun _ => wX9 z h a b c9 hh hh1 d0 d1 d2 d3 t9 t91 r9 r91 r92 r93 v) len9 (fun _ => len9) (rV (As := [.int x, .int 6]) (rest := []) ⟨hx, hb, hml, hown, hts⟩ (c_X9_barn l D z tM tS h a b c9 hh hh1 d0 d1 d2 d3 t9 t91 r9 r91 r92 r93 v x 6 H.size) (cwV 2 hts gL_isShowSo_X9_barn rfl rfl rfl (by decide +kernel) ⟨Nat.le_trans (by decide) hRf, Nat.le_trans (by decide) hRl⟩) (ev_ok tM tS) (e_go (ev_ok tM tS) hE hD hS hA (List.range 128) (gN len9)) hK hP hD (List.range 128) nd128 (gN len9) (va_recv hK hP (ci := 9) (q0 := 0) rfl rfl) rfl hl.1 rfl (Nat.le_of_ble_eq_true rfl) dL_isShowSo_4 ⟨Nat.zero_le _, Nat.zero_le _⟩) hK hP hD hS hA (fun zr zu H locs hw hP hD hS => ?_)
  have hw : zr = (f_X9_barn v x 6) := hw
  subst hw
  have hP : va_P D vwCl (wX9 z h a b c9 hh hh1 d0 d1 d2 d3 t9 t91 r9 r91 r92 r93 v) H := hP
  have hD : va_D A (wX9 z h a b c9 hh hh1 d0 d1 d2 d3 t9 t91 r9 r91 r92 r93 v) := hD
  refine lv_istore_n (lv' := [(2, .int (f_X9_barn v x 6)), (0, .ref h), (1, .int x)]) hx hb dL_isShowSo_7 rfl hl (by decide) rfl (fun ls hl => ?_)
  refine lv_aload_n hx hb dL_isShowSo_8 rfl (lv_at hl 1 rfl) ?_
  refine lv_iload_n hx hb dL_isShowSo_9 rfl (lv_at hl 2 rfl) ?_
  refine lv_aload_n hx hb dL_isShowSo_10 rfl (lv_at hl 1 rfl) ?_
  refine lv_bipush (v := 11) hx hb dL_isShowSo_11 (by decide) ?_
  refine call_W (w1 := fun _ => wX9 z h a b c9 hh hh1 d0 d1 d2 d3 t9 t91 r9 r91 r92 r93 v) len9 (fun _ => len9) (rV (As := [.int 11]) (rest := [.int x, .ref h]) ⟨hx, hb, hml, hown, hts⟩ (c_X9_count l D z tM tS h a b c9 hh hh1 d0 d1 d2 d3 t9 t91 r9 r91 r92 r93 v 11 H.size) (cwV 1 hts gL_isShowSo_X9_count rfl rfl rfl (by decide +kernel) ⟨Nat.le_trans (by decide) hRf, Nat.le_trans (by decide) hRl⟩) (ev_ok tM tS) (e_go (ev_ok tM tS) hE hD hS hA (List.range 128) (gN len9)) hK hP hD (List.range 128) nd128 (gN len9) (va_recv hK hP (ci := 9) (q0 := 0) rfl rfl) rfl hl.1 rfl (Nat.le_of_ble_eq_true rfl) dL_isShowSo_13 ⟨Nat.zero_le _, Nat.zero_le _⟩) hK hP hD hS hA (fun zr zu H locs hw hP hD hS => ?_)
  have hw : zr = (f_X9_count v 11) := hw
  subst hw
  have hP : va_P D vwCl (wX9 z h a b c9 hh hh1 d0 d1 d2 d3 t9 t91 r9 r91 r92 r93 v) H := hP
  have hD : va_D A (wX9 z h a b c9 hh hh1 d0 d1 d2 d3 t9 t91 r9 r91 r92 r93 v) := hD
  refine call_W (w1 := fun _ => wX9 z h a b c9 hh hh1 d0 d1 d2 d3 t9 t91 r9 r91 r92 r93 v) len9 (fun _ => len9) (rV (As := [.int x, .int (f_X9_count v 11)]) (rest := []) ⟨hx, hb, hml, hown, hts⟩ (c_X9_ifPrice l D z tM tS h a b c9 hh hh1 d0 d1 d2 d3 t9 t91 r9 r91 r92 r93 v x (f_X9_count v 11) H.size) (cwV 2 hts gL_isShowSo_X9_ifPrice rfl rfl rfl (by decide +kernel) ⟨Nat.le_trans (by decide) hRf, Nat.le_trans (by decide) hRl⟩) (ev_ok tM tS) (e_go (ev_ok tM tS) hE hD hS hA (List.range 128) (gN len9)) hK hP hD (List.range 128) nd128 (gN len9) (va_recv hK hP (ci := 9) (q0 := 0) rfl rfl) rfl hl.1 rfl (Nat.le_of_ble_eq_true rfl) dL_isShowSo_16 ⟨Nat.zero_le _, Nat.zero_le _⟩) hK hP hD hS hA (fun zr zu H locs hw hP hD hS => ?_)
  have hw : zr = (f_X9_ifPrice v x (f_X9_count v 11)) := hw
  subst hw
  have hP : va_P D vwCl (wX9 z h a b c9 hh hh1 d0 d1 d2 d3 t9 t91 r9 r91 r92 r93 v) H := hP
  have hD : va_D A (wX9 z h a b c9 hh hh1 d0 d1 d2 d3 t9 t91 r9 r91 r92 r93 v) := hD
  refine lv_istore_n (lv' := [(3, .int (f_X9_ifPrice v x (f_X9_count v 11))), (2, .int (f_X9_barn v x 6)), (0, .ref h), (1, .int x)]) hx hb dL_isShowSo_19 rfl hl (by decide) rfl (fun ls hl => ?_)
  refine lv_aload_n hx hb dL_isShowSo_20 rfl (lv_at hl 2 rfl) ?_
  refine lv_iload_n hx hb dL_isShowSo_21 rfl (lv_at hl 3 rfl) ?_
  refine lv_iconst (v := 4) hx hb dL_isShowSo_22 (by decide) ?_
  refine call_W (w1 := fun _ => wX9 z h a b c9 hh hh1 d0 d1 d2 d3 t9 t91 r9 r91 r92 r93 v) len9 (fun _ => len9) (rV (As := [.int x, .int 4]) (rest := []) ⟨hx, hb, hml, hown, hts⟩ (c_X9_barn l D z tM tS h a b c9 hh hh1 d0 d1 d2 d3 t9 t91 r9 r91 r92 r93 v x 4 H.size) (cwV 2 hts gL_isShowSo_X9_barn rfl rfl rfl (by decide +kernel) ⟨Nat.le_trans (by decide) hRf, Nat.le_trans (by decide) hRl⟩) (ev_ok tM tS) (e_go (ev_ok tM tS) hE hD hS hA (List.range 128) (gN len9)) hK hP hD (List.range 128) nd128 (gN len9) (va_recv hK hP (ci := 9) (q0 := 0) rfl rfl) rfl hl.1 rfl (Nat.le_of_ble_eq_true rfl) dL_isShowSo_23 ⟨Nat.zero_le _, Nat.zero_le _⟩) hK hP hD hS hA (fun zr zu H locs hw hP hD hS => ?_)
  have hw : zr = (f_X9_barn v x 4) := hw
  subst hw
  have hP : va_P D vwCl (wX9 z h a b c9 hh hh1 d0 d1 d2 d3 t9 t91 r9 r91 r92 r93 v) H := hP
  have hD : va_D A (wX9 z h a b c9 hh hh1 d0 d1 d2 d3 t9 t91 r9 r91 r92 r93 v) := hD
  refine lv_istore (lv' := [(4, .int (f_X9_barn v x 4)), (3, .int (f_X9_ifPrice v x (f_X9_count v 11))), (2, .int (f_X9_barn v x 6)), (0, .ref h), (1, .int x)]) hx hb dL_isShowSo_26 hl (by decide) rfl (fun ls hl => ?_)
  refine lv_aload_n hx hb dL_isShowSo_28 rfl (lv_at hl 3 rfl) ?_
  refine lv_iconst (v := 0) hx hb dL_isShowSo_29 (by decide) ?_
  refine lv_iconst (v := 0) hx hb dL_isShowSo_30 (by decide) ?_
  refine call_W (w1 := fun _ => wX9 z h a b c9 hh hh1 d0 d1 d2 d3 t9 t91 r9 r91 r92 r93 v) len9 (fun _ => len9) (rV (As := [.int 0, .int 0]) (rest := []) ⟨hx, hb, hml, hown, hts⟩ (c_X9_generator l D z tM tS h a b c9 hh hh1 d0 d1 d2 d3 t9 t91 r9 r91 r92 r93 v 0 0 H.size) (cwV 2 hts gL_isShowSo_X9_generator rfl rfl rfl (by decide +kernel) ⟨Nat.le_trans (by decide) hRf, Nat.le_trans (by decide) hRl⟩) (ev_ok tM tS) (e_go (ev_ok tM tS) hE hD hS hA (List.range 128) (gN len9)) hK hP hD (List.range 128) nd128 (gN len9) (va_recv hK hP (ci := 9) (q0 := 0) rfl rfl) rfl hl.1 rfl (Nat.le_of_ble_eq_true rfl) dL_isShowSo_31 ⟨Nat.zero_le _, Nat.zero_le _⟩) hK hP hD hS hA (fun zr zu H locs hw hP hD hS => ?_)
  have hw : zr = (f_X9_generator v 0 0) := hw
  subst hw
  have hP : va_P D vwCl (wX9 z h a b c9 hh hh1 d0 d1 d2 d3 t9 t91 r9 r91 r92 r93 v) H := hP
  have hD : va_D A (wX9 z h a b c9 hh hh1 d0 d1 d2 d3 t9 t91 r9 r91 r92 r93 v) := hD
  refine lv_iload_n hx hb dL_isShowSo_34 rfl (lv_at hl 4 rfl) ?_
  refine lv_icmp_ne (tgt := 53) hx hb dL_isShowSo_35 (by decide) (fun c_1 => ?_) (fun c_1 => ?_)
  · refine lv_iconst (v := 1) hx hb dL_isShowSo_53 (by decide) ?_
    refine lv_istore (lv' := [(5, .int 1), (4, .int (f_X9_barn v x 4)), (3, .int (f_X9_ifPrice v x (f_X9_count v 11))), (2, .int (f_X9_barn v x 6)), (0, .ref h), (1, .int x)]) hx hb dL_isShowSo_54 hl (by decide) rfl (fun ls hl => ?_)
    refine lv_aload_n hx hb dL_isShowSo_56 rfl (lv_at hl 4 rfl) ?_
    refine lv_iload hx hb dL_isShowSo_57 (lv_at hl 0 rfl) ?_
    refine lv_iconst (v := 1) hx hb dL_isShowSo_59 (by decide) ?_
    refine call_W (w1 := fun _ => wX9 z h a b c9 hh hh1 d0 d1 d2 d3 t9 t91 r9 r91 r92 r93 v) len9 (fun _ => len9) (rV (As := [.int 1, .int 1]) (rest := []) ⟨hx, hb, hml, hown, hts⟩ (c_X9_generator l D z tM tS h a b c9 hh hh1 d0 d1 d2 d3 t9 t91 r9 r91 r92 r93 v 1 1 H.size) (cwV 2 hts gL_isShowSo_X9_generator rfl rfl rfl (by decide +kernel) ⟨Nat.le_trans (by decide) hRf, Nat.le_trans (by decide) hRl⟩) (ev_ok tM tS) (e_go (ev_ok tM tS) hE hD hS hA (List.range 128) (gN len9)) hK hP hD (List.range 128) nd128 (gN len9) (va_recv hK hP (ci := 9) (q0 := 0) rfl rfl) rfl hl.1 rfl (Nat.le_of_ble_eq_true rfl) dL_isShowSo_60 ⟨Nat.zero_le _, Nat.zero_le _⟩) hK hP hD hS hA (fun zr zu H locs hw hP hD hS => ?_)
    have hw : zr = (f_X9_generator v 1 1) := hw
    subst hw
    have hP : va_P D vwCl (wX9 z h a b c9 hh hh1 d0 d1 d2 d3 t9 t91 r9 r91 r92 r93 v) H := hP
    have hD : va_D A (wX9 z h a b c9 hh hh1 d0 d1 d2 d3 t9 t91 r9 r91 r92 r93 v) := hD
    refine lv_istore (lv' := [(6, .int (f_X9_generator v 1 1)), (5, .int 1), (4, .int (f_X9_barn v x 4)), (3, .int (f_X9_ifPrice v x (f_X9_count v 11))), (2, .int (f_X9_barn v x 6)), (0, .ref h), (1, .int x)]) hx hb dL_isShowSo_63 hl (by decide) rfl (fun ls hl => ?_)
    refine lv_aload_n hx hb dL_isShowSo_65 rfl (lv_at hl 5 rfl) ?_
    refine lv_iconst (v := 4) hx hb dL_isShowSo_66 (by decide) ?_
    refine call_W (w1 := fun _ => wX9 z h a b c9 hh hh1 d0 d1 d2 d3 t9 t91 r9 r91 r92 r93 v) len9 (fun _ => len9) (rV (As := [.int 4]) (rest := []) ⟨hx, hb, hml, hown, hts⟩ (c_X9_count l D z tM tS h a b c9 hh hh1 d0 d1 d2 d3 t9 t91 r9 r91 r92 r93 v 4 H.size) (cwV 1 hts gL_isShowSo_X9_count rfl rfl rfl (by decide +kernel) ⟨Nat.le_trans (by decide) hRf, Nat.le_trans (by decide) hRl⟩) (ev_ok tM tS) (e_go (ev_ok tM tS) hE hD hS hA (List.range 128) (gN len9)) hK hP hD (List.range 128) nd128 (gN len9) (va_recv hK hP (ci := 9) (q0 := 0) rfl rfl) rfl hl.1 rfl (Nat.le_of_ble_eq_true rfl) dL_isShowSo_67 ⟨Nat.zero_le _, Nat.zero_le _⟩) hK hP hD hS hA (fun zr zu H locs hw hP hD hS => ?_)
    have hw : zr = (f_X9_count v 4) := hw
    subst hw
    have hP : va_P D vwCl (wX9 z h a b c9 hh hh1 d0 d1 d2 d3 t9 t91 r9 r91 r92 r93 v) H := hP
    have hD : va_D A (wX9 z h a b c9 hh hh1 d0 d1 d2 d3 t9 t91 r9 r91 r92 r93 v) := hD
    refine lv_istore (lv' := [(7, .int (f_X9_count v 4)), (6, .int (f_X9_generator v 1 1)), (5, .int 1), (4, .int (f_X9_barn v x 4)), (3, .int (f_X9_ifPrice v x (f_X9_count v 11))), (2, .int (f_X9_barn v x 6)), (0, .ref h), (1, .int x)]) hx hb dL_isShowSo_70 hl (by decide) rfl (fun ls hl => ?_)
    refine lv_aload_n hx hb dL_isShowSo_72 rfl (lv_at hl 6 rfl) ?_
    refine lv_iload_n hx hb dL_isShowSo_73 rfl (lv_at hl 7 rfl) ?_
    refine lv_iconst (v := 5) hx hb dL_isShowSo_74 (by decide) ?_
    refine call_W (w1 := fun _ => wX9 z h a b c9 hh hh1 d0 d1 d2 d3 t9 t91 r9 r91 r92 r93 v) len9 (fun _ => len9) (rV (As := [.int x, .int 5]) (rest := []) ⟨hx, hb, hml, hown, hts⟩ (c_X9_barn l D z tM tS h a b c9 hh hh1 d0 d1 d2 d3 t9 t91 r9 r91 r92 r93 v x 5 H.size) (cwV 2 hts gL_isShowSo_X9_barn rfl rfl rfl (by decide +kernel) ⟨Nat.le_trans (by decide) hRf, Nat.le_trans (by decide) hRl⟩) (ev_ok tM tS) (e_go (ev_ok tM tS) hE hD hS hA (List.range 128) (gN len9)) hK hP hD (List.range 128) nd128 (gN len9) (va_recv hK hP (ci := 9) (q0 := 0) rfl rfl) rfl hl.1 rfl (Nat.le_of_ble_eq_true rfl) dL_isShowSo_75 ⟨Nat.zero_le _, Nat.zero_le _⟩) hK hP hD hS hA (fun zr zu H locs hw hP hD hS => ?_)
    have hw : zr = (f_X9_barn v x 5) := hw
    subst hw
    have hP : va_P D vwCl (wX9 z h a b c9 hh hh1 d0 d1 d2 d3 t9 t91 r9 r91 r92 r93 v) H := hP
    have hD : va_D A (wX9 z h a b c9 hh hh1 d0 d1 d2 d3 t9 t91 r9 r91 r92 r93 v) := hD
    refine lv_istore (lv' := [(8, .int (f_X9_barn v x 5)), (7, .int (f_X9_count v 4)), (6, .int (f_X9_generator v 1 1)), (5, .int 1), (4, .int (f_X9_barn v x 4)), (3, .int (f_X9_ifPrice v x (f_X9_count v 11))), (2, .int (f_X9_barn v x 6)), (0, .ref h), (1, .int x)]) hx hb dL_isShowSo_78 hl (by decide) rfl (fun ls hl => ?_)
    refine lv_aload_n hx hb dL_isShowSo_80 rfl (lv_at hl 7 rfl) ?_
    refine lv_bipush (v := 10) hx hb dL_isShowSo_81 (by decide) ?_
    refine call_W (w1 := fun _ => wX9 z h a b c9 hh hh1 d0 d1 d2 d3 t9 t91 r9 r91 r92 r93 v) len9 (fun _ => len9) (rV (As := [.int 10]) (rest := []) ⟨hx, hb, hml, hown, hts⟩ (c_X9_count l D z tM tS h a b c9 hh hh1 d0 d1 d2 d3 t9 t91 r9 r91 r92 r93 v 10 H.size) (cwV 1 hts gL_isShowSo_X9_count rfl rfl rfl (by decide +kernel) ⟨Nat.le_trans (by decide) hRf, Nat.le_trans (by decide) hRl⟩) (ev_ok tM tS) (e_go (ev_ok tM tS) hE hD hS hA (List.range 128) (gN len9)) hK hP hD (List.range 128) nd128 (gN len9) (va_recv hK hP (ci := 9) (q0 := 0) rfl rfl) rfl hl.1 rfl (Nat.le_of_ble_eq_true rfl) dL_isShowSo_83 ⟨Nat.zero_le _, Nat.zero_le _⟩) hK hP hD hS hA (fun zr zu H locs hw hP hD hS => ?_)
    have hw : zr = (f_X9_count v 10) := hw
    subst hw
    have hP : va_P D vwCl (wX9 z h a b c9 hh hh1 d0 d1 d2 d3 t9 t91 r9 r91 r92 r93 v) H := hP
    have hD : va_D A (wX9 z h a b c9 hh hh1 d0 d1 d2 d3 t9 t91 r9 r91 r92 r93 v) := hD
    refine lv_istore (lv' := [(9, .int (f_X9_count v 10)), (8, .int (f_X9_barn v x 5)), (7, .int (f_X9_count v 4)), (6, .int (f_X9_generator v 1 1)), (5, .int 1), (4, .int (f_X9_barn v x 4)), (3, .int (f_X9_ifPrice v x (f_X9_count v 11))), (2, .int (f_X9_barn v x 6)), (0, .ref h), (1, .int x)]) hx hb dL_isShowSo_86 hl (by decide) rfl (fun ls hl => ?_)
    refine lv_aload_n hx hb dL_isShowSo_88 rfl (lv_at hl 8 rfl) ?_
    refine lv_iload_n hx hb dL_isShowSo_89 rfl (lv_at hl 9 rfl) ?_
    refine call_W (w1 := fun zu => wX9 z h a b c9 hh hh1 d0 d1 d2 d3 t9 t91 r9 r91 r92 r93 zu) len9 (fun _ => len9) (rV (As := [.int x]) (rest := []) ⟨hx, hb, hml, hown, hts⟩ (c_X9_show l D z tM tS h a b c9 hh hh1 d0 d1 d2 d3 t9 t91 r9 r91 r92 r93 v x (iv_n hI).1 (iv_n hI).2 (iv_w hI) H.size) (cwV 1 hts gL_isShowSo_X9_show rfl rfl rfl (by decide +kernel) ⟨Nat.le_trans (by decide) hRf, Nat.le_trans (by decide) hRl⟩) (ev_ok tM tS) (e_go (ev_ok tM tS) hE hD hS hA (List.range 128) (gN len9)) hK hP hD (List.range 128) nd128 (gN len9) (va_recv hK hP (ci := 9) (q0 := 0) rfl rfl) rfl hl.1 rfl (Nat.le_of_ble_eq_true rfl) dL_isShowSo_90 ⟨Nat.zero_le _, Nat.zero_le _⟩) hK hP hD hS hA (fun zr zu H locs hw hP hD hS => ?_)
    have hw : (zr, zu) = (f_X9_show v x) := hw
    obtain ⟨q90, hq90⟩ : ∃ q9, q9 = (f_X9_show v x) := ⟨_, rfl⟩
    rw [← hq90] at hw
    obtain ⟨rfl, rfl⟩ := pe hw
    have hP : va_P D vwCl (wX9 z h a b c9 hh hh1 d0 d1 d2 d3 t9 t91 r9 r91 r92 r93 q90.2) H := hP
    have hD : va_D A (wX9 z h a b c9 hh hh1 d0 d1 d2 d3 t9 t91 r9 r91 r92 r93 q90.2) := hD
    have hI_q90 : IV q90.2 := by rw [hq90]; exact iv_show hI x
    refine lv_istore (lv' := [(10, .int q90.1), (9, .int (f_X9_count v 10)), (8, .int (f_X9_barn v x 5)), (7, .int (f_X9_count v 4)), (6, .int (f_X9_generator v 1 1)), (5, .int 1), (4, .int (f_X9_barn v x 4)), (3, .int (f_X9_ifPrice v x (f_X9_count v 11))), (2, .int (f_X9_barn v x 6)), (0, .ref h), (1, .int x)]) hx hb dL_isShowSo_93 hl (by decide) rfl (fun ls hl => ?_)
    refine lv_iload_n hx hb dL_isShowSo_95 rfl (lv_at hl 8 rfl) ?_
    refine lv_if_le (tgt := 124) hx hb dL_isShowSo_96 (by decide) (fun c_2 => ?_) (fun c_2 => ?_)
    · refine lv_iload hx hb dL_isShowSo_124 (lv_at hl 0 rfl) ?_
      refine lv_iload_n hx hb dL_isShowSo_126 rfl (lv_at hl 7 rfl) ?_
      refine lv_icmp_ne (tgt := 254) hx hb dL_isShowSo_127 (by decide) (fun c_3 => ?_) (fun c_3 => ?_)
      · refine lv_iconst (v := 0) hx hb dL_isShowSo_254 (by decide) ?_
        refine lv_istore (lv' := [(11, .int 0), (10, .int q90.1), (9, .int (f_X9_count v 10)), (8, .int (f_X9_barn v x 5)), (7, .int (f_X9_count v 4)), (6, .int (f_X9_generator v 1 1)), (5, .int 1), (4, .int (f_X9_barn v x 4)), (3, .int (f_X9_ifPrice v x (f_X9_count v 11))), (2, .int (f_X9_barn v x 6)), (0, .ref h), (1, .int x)]) hx hb dL_isShowSo_255 hl (by decide) rfl (fun ls hl => ?_)
        refine lv_aload_n hx hb dL_isShowSo_257 rfl (lv_at hl 10 rfl) ?_
        refine call_W (w1 := fun zu => wX9 z h a b c9 hh hh1 d0 d1 d2 d3 t9 t91 r9 r91 r92 r93 zu) len9 (fun _ => len9) (rV (As := []) (rest := []) ⟨hx, hb, hml, hown, hts⟩ (c_X9_undo l D z tM tS h a b c9 hh hh1 d0 d1 d2 d3 t9 t91 r9 r91 r92 r93 q90.2 (iv_n hI_q90).1 (iv_n hI_q90).2 H.size) (cwV 0 hts gL_isShowSo_X9_undo rfl rfl rfl (by decide +kernel) ⟨Nat.le_trans (by decide) hRf, Nat.le_trans (by decide) hRl⟩) (ev_ok tM tS) (e_go (ev_ok tM tS) hE hD hS hA (List.range 128) (gN len9)) hK hP hD (List.range 128) nd128 (gN len9) (va_recv hK hP (ci := 9) (q0 := 0) rfl rfl) rfl hl.1 rfl (Nat.le_of_ble_eq_true rfl) dL_isShowSo_258 ⟨Nat.zero_le _, Nat.zero_le _⟩) hK hP hD hS hA (fun zr zu H locs hw hP hD hS => ?_)
        have hw : (zr, zu) = (f_X9_undo q90.2) := hw
        obtain ⟨q258, hq258⟩ : ∃ q9, q9 = (f_X9_undo q90.2) := ⟨_, rfl⟩
        rw [← hq258] at hw
        obtain ⟨rfl, rfl⟩ := pe hw
        have hP : va_P D vwCl (wX9 z h a b c9 hh hh1 d0 d1 d2 d3 t9 t91 r9 r91 r92 r93 q258.2) H := hP
        have hD : va_D A (wX9 z h a b c9 hh hh1 d0 d1 d2 d3 t9 t91 r9 r91 r92 r93 q258.2) := hD
        refine lv_istore (lv' := [(12, .int q258.1), (11, .int 0), (10, .int q90.1), (9, .int (f_X9_count v 10)), (8, .int (f_X9_barn v x 5)), (7, .int (f_X9_count v 4)), (6, .int (f_X9_generator v 1 1)), (5, .int 1), (4, .int (f_X9_barn v x 4)), (3, .int (f_X9_ifPrice v x (f_X9_count v 11))), (2, .int (f_X9_barn v x 6)), (0, .ref h), (1, .int x)]) hx hb dL_isShowSo_261 hl (by decide) rfl (fun ls hl => ?_)
        refine lv_iload hx hb dL_isShowSo_263 (lv_at hl 1 rfl) ?_
        refine lv_if_eq (tgt := 287) hx hb dL_isShowSo_265 (by decide) (fun c_4 => ?_) (fun c_4 => absurd c_4 (by decide))
        refine lv_iconst (v := 0) hx hb dL_isShowSo_287 (by decide) ?_
        subst hQ
        exact ret_z q258.2 hx hb hr rfl hK hP hD hS rfl ⟨(by unfold f_L_isShowSo; rw [if_neg c_1, ← hq90]; unfold f_L_isShowSo_q90; rw [if_pos c_2, if_neg c_3, ← hq258]; unfold f_L_isShowSo_q258; try rfl), (Or.inl rfl)⟩ dL_isShowSo_288 hlocks
      · refine lv_aload_n hx hb dL_isShowSo_130 rfl (lv_at hl 9 rfl) ?_
        refine lv_iconst (v := 4) hx hb dL_isShowSo_131 (by decide) ?_
        refine call_W (w1 := fun _ => wX9 z h a b c9 hh hh1 d0 d1 d2 d3 t9 t91 r9 r91 r92 r93 q90.2) len9 (fun _ => len9) (rV (As := [.int 4]) (rest := []) ⟨hx, hb, hml, hown, hts⟩ (c_X9_count l D z tM tS h a b c9 hh hh1 d0 d1 d2 d3 t9 t91 r9 r91 r92 r93 q90.2 4 H.size) (cwV 1 hts gL_isShowSo_X9_count rfl rfl rfl (by decide +kernel) ⟨Nat.le_trans (by decide) hRf, Nat.le_trans (by decide) hRl⟩) (ev_ok tM tS) (e_go (ev_ok tM tS) hE hD hS hA (List.range 128) (gN len9)) hK hP hD (List.range 128) nd128 (gN len9) (va_recv hK hP (ci := 9) (q0 := 0) rfl rfl) rfl hl.1 rfl (Nat.le_of_ble_eq_true rfl) dL_isShowSo_132 ⟨Nat.zero_le _, Nat.zero_le _⟩) hK hP hD hS hA (fun zr zu H locs hw hP hD hS => ?_)
        have hw : zr = (f_X9_count q90.2 4) := hw
        subst hw
        have hP : va_P D vwCl (wX9 z h a b c9 hh hh1 d0 d1 d2 d3 t9 t91 r9 r91 r92 r93 q90.2) H := hP
        have hD : va_D A (wX9 z h a b c9 hh hh1 d0 d1 d2 d3 t9 t91 r9 r91 r92 r93 q90.2) := hD
        refine lv_iload hx hb dL_isShowSo_135 (lv_at hl 3 rfl) ?_
        refine lv_iload hx hb dL_isShowSo_137 (lv_at hl 0 rfl) ?_
        refine lv_iadd hx hb dL_isShowSo_139 ?_
        refine lv_icmp_ne (tgt := 254) hx hb dL_isShowSo_140 (by decide) (fun c_5 => ?_) (fun c_5 => ?_)
        · refine lv_iconst (v := 0) hx hb dL_isShowSo_254 (by decide) ?_
          refine lv_istore (lv' := [(11, .int 0), (10, .int q90.1), (9, .int (f_X9_count v 10)), (8, .int (f_X9_barn v x 5)), (7, .int (f_X9_count v 4)), (6, .int (f_X9_generator v 1 1)), (5, .int 1), (4, .int (f_X9_barn v x 4)), (3, .int (f_X9_ifPrice v x (f_X9_count v 11))), (2, .int (f_X9_barn v x 6)), (0, .ref h), (1, .int x)]) hx hb dL_isShowSo_255 hl (by decide) rfl (fun ls hl => ?_)
          refine lv_aload_n hx hb dL_isShowSo_257 rfl (lv_at hl 10 rfl) ?_
          refine call_W (w1 := fun zu => wX9 z h a b c9 hh hh1 d0 d1 d2 d3 t9 t91 r9 r91 r92 r93 zu) len9 (fun _ => len9) (rV (As := []) (rest := []) ⟨hx, hb, hml, hown, hts⟩ (c_X9_undo l D z tM tS h a b c9 hh hh1 d0 d1 d2 d3 t9 t91 r9 r91 r92 r93 q90.2 (iv_n hI_q90).1 (iv_n hI_q90).2 H.size) (cwV 0 hts gL_isShowSo_X9_undo rfl rfl rfl (by decide +kernel) ⟨Nat.le_trans (by decide) hRf, Nat.le_trans (by decide) hRl⟩) (ev_ok tM tS) (e_go (ev_ok tM tS) hE hD hS hA (List.range 128) (gN len9)) hK hP hD (List.range 128) nd128 (gN len9) (va_recv hK hP (ci := 9) (q0 := 0) rfl rfl) rfl hl.1 rfl (Nat.le_of_ble_eq_true rfl) dL_isShowSo_258 ⟨Nat.zero_le _, Nat.zero_le _⟩) hK hP hD hS hA (fun zr zu H locs hw hP hD hS => ?_)
          have hw : (zr, zu) = (f_X9_undo q90.2) := hw
          obtain ⟨q258_2, hq258_2⟩ : ∃ q9, q9 = (f_X9_undo q90.2) := ⟨_, rfl⟩
          rw [← hq258_2] at hw
          obtain ⟨rfl, rfl⟩ := pe hw
          have hP : va_P D vwCl (wX9 z h a b c9 hh hh1 d0 d1 d2 d3 t9 t91 r9 r91 r92 r93 q258_2.2) H := hP
          have hD : va_D A (wX9 z h a b c9 hh hh1 d0 d1 d2 d3 t9 t91 r9 r91 r92 r93 q258_2.2) := hD
          refine lv_istore (lv' := [(12, .int q258_2.1), (11, .int 0), (10, .int q90.1), (9, .int (f_X9_count v 10)), (8, .int (f_X9_barn v x 5)), (7, .int (f_X9_count v 4)), (6, .int (f_X9_generator v 1 1)), (5, .int 1), (4, .int (f_X9_barn v x 4)), (3, .int (f_X9_ifPrice v x (f_X9_count v 11))), (2, .int (f_X9_barn v x 6)), (0, .ref h), (1, .int x)]) hx hb dL_isShowSo_261 hl (by decide) rfl (fun ls hl => ?_)
          refine lv_iload hx hb dL_isShowSo_263 (lv_at hl 1 rfl) ?_
          refine lv_if_eq (tgt := 287) hx hb dL_isShowSo_265 (by decide) (fun c_6 => ?_) (fun c_6 => absurd c_6 (by decide))
          refine lv_iconst (v := 0) hx hb dL_isShowSo_287 (by decide) ?_
          subst hQ
          exact ret_z q258_2.2 hx hb hr rfl hK hP hD hS rfl ⟨(by unfold f_L_isShowSo; rw [if_neg c_1, ← hq90]; unfold f_L_isShowSo_q90; rw [if_pos c_2, if_pos c_3, if_neg c_5, ← hq258_2]; unfold f_L_isShowSo_q258_2; try rfl), (Or.inl rfl)⟩ dL_isShowSo_288 hlocks
        · refine lv_aload_n hx hb dL_isShowSo_143 rfl (lv_at hl 9 rfl) ?_
          refine lv_iload hx hb dL_isShowSo_144 (lv_at hl 5 rfl) ?_
          refine lv_iconst (v := 1) hx hb dL_isShowSo_146 (by decide) ?_
          refine call_W (w1 := fun _ => wX9 z h a b c9 hh hh1 d0 d1 d2 d3 t9 t91 r9 r91 r92 r93 q90.2) len9 (fun _ => len9) (rV (As := [.int 1, .int 1]) (rest := []) ⟨hx, hb, hml, hown, hts⟩ (c_X9_generator l D z tM tS h a b c9 hh hh1 d0 d1 d2 d3 t9 t91 r9 r91 r92 r93 q90.2 1 1 H.size) (cwV 2 hts gL_isShowSo_X9_generator rfl rfl rfl (by decide +kernel) ⟨Nat.le_trans (by decide) hRf, Nat.le_trans (by decide) hRl⟩) (ev_ok tM tS) (e_go (ev_ok tM tS) hE hD hS hA (List.range 128) (gN len9)) hK hP hD (List.range 128) nd128 (gN len9) (va_recv hK hP (ci := 9) (q0 := 0) rfl rfl) rfl hl.1 rfl (Nat.le_of_ble_eq_true rfl) dL_isShowSo_147 ⟨Nat.zero_le _, Nat.zero_le _⟩) hK hP hD hS hA (fun zr zu H locs hw hP hD hS => ?_)
          have hw : zr = (f_X9_generator q90.2 1 1) := hw
          subst hw
          have hP : va_P D vwCl (wX9 z h a b c9 hh hh1 d0 d1 d2 d3 t9 t91 r9 r91 r92 r93 q90.2) H := hP
          have hD : va_D A (wX9 z h a b c9 hh hh1 d0 d1 d2 d3 t9 t91 r9 r91 r92 r93 q90.2) := hD
          refine lv_iload hx hb dL_isShowSo_150 (lv_at hl 4 rfl) ?_
          refine lv_iload hx hb dL_isShowSo_152 (lv_at hl 6 rfl) ?_
          refine lv_isub hx hb dL_isShowSo_154 ?_
          refine lv_icmp_ne (tgt := 254) hx hb dL_isShowSo_155 (by decide) (fun c_7 => ?_) (fun c_7 => ?_)
          · refine lv_iconst (v := 0) hx hb dL_isShowSo_254 (by decide) ?_
            refine lv_istore (lv' := [(11, .int 0), (10, .int q90.1), (9, .int (f_X9_count v 10)), (8, .int (f_X9_barn v x 5)), (7, .int (f_X9_count v 4)), (6, .int (f_X9_generator v 1 1)), (5, .int 1), (4, .int (f_X9_barn v x 4)), (3, .int (f_X9_ifPrice v x (f_X9_count v 11))), (2, .int (f_X9_barn v x 6)), (0, .ref h), (1, .int x)]) hx hb dL_isShowSo_255 hl (by decide) rfl (fun ls hl => ?_)
            refine lv_aload_n hx hb dL_isShowSo_257 rfl (lv_at hl 10 rfl) ?_
            refine call_W (w1 := fun zu => wX9 z h a b c9 hh hh1 d0 d1 d2 d3 t9 t91 r9 r91 r92 r93 zu) len9 (fun _ => len9) (rV (As := []) (rest := []) ⟨hx, hb, hml, hown, hts⟩ (c_X9_undo l D z tM tS h a b c9 hh hh1 d0 d1 d2 d3 t9 t91 r9 r91 r92 r93 q90.2 (iv_n hI_q90).1 (iv_n hI_q90).2 H.size) (cwV 0 hts gL_isShowSo_X9_undo rfl rfl rfl (by decide +kernel) ⟨Nat.le_trans (by decide) hRf, Nat.le_trans (by decide) hRl⟩) (ev_ok tM tS) (e_go (ev_ok tM tS) hE hD hS hA (List.range 128) (gN len9)) hK hP hD (List.range 128) nd128 (gN len9) (va_recv hK hP (ci := 9) (q0 := 0) rfl rfl) rfl hl.1 rfl (Nat.le_of_ble_eq_true rfl) dL_isShowSo_258 ⟨Nat.zero_le _, Nat.zero_le _⟩) hK hP hD hS hA (fun zr zu H locs hw hP hD hS => ?_)
            have hw : (zr, zu) = (f_X9_undo q90.2) := hw
            obtain ⟨q258_3, hq258_3⟩ : ∃ q9, q9 = (f_X9_undo q90.2) := ⟨_, rfl⟩
            rw [← hq258_3] at hw
            obtain ⟨rfl, rfl⟩ := pe hw
            have hP : va_P D vwCl (wX9 z h a b c9 hh hh1 d0 d1 d2 d3 t9 t91 r9 r91 r92 r93 q258_3.2) H := hP
            have hD : va_D A (wX9 z h a b c9 hh hh1 d0 d1 d2 d3 t9 t91 r9 r91 r92 r93 q258_3.2) := hD
            refine lv_istore (lv' := [(12, .int q258_3.1), (11, .int 0), (10, .int q90.1), (9, .int (f_X9_count v 10)), (8, .int (f_X9_barn v x 5)), (7, .int (f_X9_count v 4)), (6, .int (f_X9_generator v 1 1)), (5, .int 1), (4, .int (f_X9_barn v x 4)), (3, .int (f_X9_ifPrice v x (f_X9_count v 11))), (2, .int (f_X9_barn v x 6)), (0, .ref h), (1, .int x)]) hx hb dL_isShowSo_261 hl (by decide) rfl (fun ls hl => ?_)
            refine lv_iload hx hb dL_isShowSo_263 (lv_at hl 1 rfl) ?_
            refine lv_if_eq (tgt := 287) hx hb dL_isShowSo_265 (by decide) (fun c_8 => ?_) (fun c_8 => absurd c_8 (by decide))
            refine lv_iconst (v := 0) hx hb dL_isShowSo_287 (by decide) ?_
            subst hQ
            exact ret_z q258_3.2 hx hb hr rfl hK hP hD hS rfl ⟨(by unfold f_L_isShowSo; rw [if_neg c_1, ← hq90]; unfold f_L_isShowSo_q90; rw [if_pos c_2, if_pos c_3, if_pos c_5, if_neg c_7, ← hq258_3]; unfold f_L_isShowSo_q258_3; try rfl), (Or.inl rfl)⟩ dL_isShowSo_288 hlocks
          · refine lv_aload_n hx hb dL_isShowSo_158 rfl (lv_at hl 9 rfl) ?_
            refine lv_bipush (v := 10) hx hb dL_isShowSo_159 (by decide) ?_
            refine call_W (w1 := fun _ => wX9 z h a b c9 hh hh1 d0 d1 d2 d3 t9 t91 r9 r91 r92 r93 q90.2) len9 (fun _ => len9) (rV (As := [.int 10]) (rest := []) ⟨hx, hb, hml, hown, hts⟩ (c_X9_count l D z tM tS h a b c9 hh hh1 d0 d1 d2 d3 t9 t91 r9 r91 r92 r93 q90.2 10 H.size) (cwV 1 hts gL_isShowSo_X9_count rfl rfl rfl (by decide +kernel) ⟨Nat.le_trans (by decide) hRf, Nat.le_trans (by decide) hRl⟩) (ev_ok tM tS) (e_go (ev_ok tM tS) hE hD hS hA (List.range 128) (gN len9)) hK hP hD (List.range 128) nd128 (gN len9) (va_recv hK hP (ci := 9) (q0 := 0) rfl rfl) rfl hl.1 rfl (Nat.le_of_ble_eq_true rfl) dL_isShowSo_161 ⟨Nat.zero_le _, Nat.zero_le _⟩) hK hP hD hS hA (fun zr zu H locs hw hP hD hS => ?_)
            have hw : zr = (f_X9_count q90.2 10) := hw
            subst hw
            have hP : va_P D vwCl (wX9 z h a b c9 hh hh1 d0 d1 d2 d3 t9 t91 r9 r91 r92 r93 q90.2) H := hP
            have hD : va_D A (wX9 z h a b c9 hh hh1 d0 d1 d2 d3 t9 t91 r9 r91 r92 r93 q90.2) := hD
            refine lv_iload hx hb dL_isShowSo_164 (lv_at hl 1 rfl) ?_
            refine lv_iload hx hb dL_isShowSo_166 (lv_at hl 2 rfl) ?_
            refine lv_iadd hx hb dL_isShowSo_168 ?_
            refine lv_icmp_ne (tgt := 254) hx hb dL_isShowSo_169 (by decide) (fun c_9 => ?_) (fun c_9 => ?_)
            · refine lv_iconst (v := 0) hx hb dL_isShowSo_254 (by decide) ?_
              refine lv_istore (lv' := [(11, .int 0), (10, .int q90.1), (9, .int (f_X9_count v 10)), (8, .int (f_X9_barn v x 5)), (7, .int (f_X9_count v 4)), (6, .int (f_X9_generator v 1 1)), (5, .int 1), (4, .int (f_X9_barn v x 4)), (3, .int (f_X9_ifPrice v x (f_X9_count v 11))), (2, .int (f_X9_barn v x 6)), (0, .ref h), (1, .int x)]) hx hb dL_isShowSo_255 hl (by decide) rfl (fun ls hl => ?_)
              refine lv_aload_n hx hb dL_isShowSo_257 rfl (lv_at hl 10 rfl) ?_
              refine call_W (w1 := fun zu => wX9 z h a b c9 hh hh1 d0 d1 d2 d3 t9 t91 r9 r91 r92 r93 zu) len9 (fun _ => len9) (rV (As := []) (rest := []) ⟨hx, hb, hml, hown, hts⟩ (c_X9_undo l D z tM tS h a b c9 hh hh1 d0 d1 d2 d3 t9 t91 r9 r91 r92 r93 q90.2 (iv_n hI_q90).1 (iv_n hI_q90).2 H.size) (cwV 0 hts gL_isShowSo_X9_undo rfl rfl rfl (by decide +kernel) ⟨Nat.le_trans (by decide) hRf, Nat.le_trans (by decide) hRl⟩) (ev_ok tM tS) (e_go (ev_ok tM tS) hE hD hS hA (List.range 128) (gN len9)) hK hP hD (List.range 128) nd128 (gN len9) (va_recv hK hP (ci := 9) (q0 := 0) rfl rfl) rfl hl.1 rfl (Nat.le_of_ble_eq_true rfl) dL_isShowSo_258 ⟨Nat.zero_le _, Nat.zero_le _⟩) hK hP hD hS hA (fun zr zu H locs hw hP hD hS => ?_)
              have hw : (zr, zu) = (f_X9_undo q90.2) := hw
              obtain ⟨q258_4, hq258_4⟩ : ∃ q9, q9 = (f_X9_undo q90.2) := ⟨_, rfl⟩
              rw [← hq258_4] at hw
              obtain ⟨rfl, rfl⟩ := pe hw
              have hP : va_P D vwCl (wX9 z h a b c9 hh hh1 d0 d1 d2 d3 t9 t91 r9 r91 r92 r93 q258_4.2) H := hP
              have hD : va_D A (wX9 z h a b c9 hh hh1 d0 d1 d2 d3 t9 t91 r9 r91 r92 r93 q258_4.2) := hD
              refine lv_istore (lv' := [(12, .int q258_4.1), (11, .int 0), (10, .int q90.1), (9, .int (f_X9_count v 10)), (8, .int (f_X9_barn v x 5)), (7, .int (f_X9_count v 4)), (6, .int (f_X9_generator v 1 1)), (5, .int 1), (4, .int (f_X9_barn v x 4)), (3, .int (f_X9_ifPrice v x (f_X9_count v 11))), (2, .int (f_X9_barn v x 6)), (0, .ref h), (1, .int x)]) hx hb dL_isShowSo_261 hl (by decide) rfl (fun ls hl => ?_)
              refine lv_iload hx hb dL_isShowSo_263 (lv_at hl 1 rfl) ?_
              refine lv_if_eq (tgt := 287) hx hb dL_isShowSo_265 (by decide) (fun c_10 => ?_) (fun c_10 => absurd c_10 (by decide))
              refine lv_iconst (v := 0) hx hb dL_isShowSo_287 (by decide) ?_
              subst hQ
              exact ret_z q258_4.2 hx hb hr rfl hK hP hD hS rfl ⟨(by unfold f_L_isShowSo; rw [if_neg c_1, ← hq90]; unfold f_L_isShowSo_q90; rw [if_pos c_2, if_pos c_3, if_pos c_5, if_pos c_7, if_neg c_9, ← hq258_4]; unfold f_L_isShowSo_q258_4; try rfl), (Or.inl rfl)⟩ dL_isShowSo_288 hlocks
            · refine lv_aload_n hx hb dL_isShowSo_172 rfl (lv_at hl 9 rfl) ?_
              refine lv_iload_n hx hb dL_isShowSo_173 rfl (lv_at hl 10 rfl) ?_
              refine lv_bipush (v := 6) hx hb dL_isShowSo_174 (by decide) ?_
              refine call_W (w1 := fun _ => wX9 z h a b c9 hh hh1 d0 d1 d2 d3 t9 t91 r9 r91 r92 r93 q90.2) len9 (fun _ => len9) (rV (As := [.int x, .int 6]) (rest := []) ⟨hx, hb, hml, hown, hts⟩ (c_X9_barn l D z tM tS h a b c9 hh hh1 d0 d1 d2 d3 t9 t91 r9 r91 r92 r93 q90.2 x 6 H.size) (cwV 2 hts gL_isShowSo_X9_barn rfl rfl rfl (by decide +kernel) ⟨Nat.le_trans (by decide) hRf, Nat.le_trans (by decide) hRl⟩) (ev_ok tM tS) (e_go (ev_ok tM tS) hE hD hS hA (List.range 128) (gN len9)) hK hP hD (List.range 128) nd128 (gN len9) (va_recv hK hP (ci := 9) (q0 := 0) rfl rfl) rfl hl.1 rfl (Nat.le_of_ble_eq_true rfl) dL_isShowSo_176 ⟨Nat.zero_le _, Nat.zero_le _⟩) hK hP hD hS hA (fun zr zu H locs hw hP hD hS => ?_)
              have hw : zr = (f_X9_barn q90.2 x 6) := hw
              subst hw
              have hP : va_P D vwCl (wX9 z h a b c9 hh hh1 d0 d1 d2 d3 t9 t91 r9 r91 r92 r93 q90.2) H := hP
              have hD : va_D A (wX9 z h a b c9 hh hh1 d0 d1 d2 d3 t9 t91 r9 r91 r92 r93 q90.2) := hD
              refine lv_iconst (v := 1) hx hb dL_isShowSo_179 (by decide) ?_
              refine lv_icmp_ne (tgt := 254) hx hb dL_isShowSo_180 (by decide) (fun c_11 => ?_) (fun c_11 => ?_)
              · refine lv_iconst (v := 0) hx hb dL_isShowSo_254 (by decide) ?_
                refine lv_istore (lv' := [(11, .int 0), (10, .int q90.1), (9, .int (f_X9_count v 10)), (8, .int (f_X9_barn v x 5)), (7, .int (f_X9_count v 4)), (6, .int (f_X9_generator v 1 1)), (5, .int 1), (4, .int (f_X9_barn v x 4)), (3, .int (f_X9_ifPrice v x (f_X9_count v 11))), (2, .int (f_X9_barn v x 6)), (0, .ref h), (1, .int x)]) hx hb dL_isShowSo_255 hl (by decide) rfl (fun ls hl => ?_)
                refine lv_aload_n hx hb dL_isShowSo_257 rfl (lv_at hl 10 rfl) ?_
                refine call_W (w1 := fun zu => wX9 z h a b c9 hh hh1 d0 d1 d2 d3 t9 t91 r9 r91 r92 r93 zu) len9 (fun _ => len9) (rV (As := []) (rest := []) ⟨hx, hb, hml, hown, hts⟩ (c_X9_undo l D z tM tS h a b c9 hh hh1 d0 d1 d2 d3 t9 t91 r9 r91 r92 r93 q90.2 (iv_n hI_q90).1 (iv_n hI_q90).2 H.size) (cwV 0 hts gL_isShowSo_X9_undo rfl rfl rfl (by decide +kernel) ⟨Nat.le_trans (by decide) hRf, Nat.le_trans (by decide) hRl⟩) (ev_ok tM tS) (e_go (ev_ok tM tS) hE hD hS hA (List.range 128) (gN len9)) hK hP hD (List.range 128) nd128 (gN len9) (va_recv hK hP (ci := 9) (q0 := 0) rfl rfl) rfl hl.1 rfl (Nat.le_of_ble_eq_true rfl) dL_isShowSo_258 ⟨Nat.zero_le _, Nat.zero_le _⟩) hK hP hD hS hA (fun zr zu H locs hw hP hD hS => ?_)
                have hw : (zr, zu) = (f_X9_undo q90.2) := hw
                obtain ⟨q258_5, hq258_5⟩ : ∃ q9, q9 = (f_X9_undo q90.2) := ⟨_, rfl⟩
                rw [← hq258_5] at hw
                obtain ⟨rfl, rfl⟩ := pe hw
                have hP : va_P D vwCl (wX9 z h a b c9 hh hh1 d0 d1 d2 d3 t9 t91 r9 r91 r92 r93 q258_5.2) H := hP
                have hD : va_D A (wX9 z h a b c9 hh hh1 d0 d1 d2 d3 t9 t91 r9 r91 r92 r93 q258_5.2) := hD
                refine lv_istore (lv' := [(12, .int q258_5.1), (11, .int 0), (10, .int q90.1), (9, .int (f_X9_count v 10)), (8, .int (f_X9_barn v x 5)), (7, .int (f_X9_count v 4)), (6, .int (f_X9_generator v 1 1)), (5, .int 1), (4, .int (f_X9_barn v x 4)), (3, .int (f_X9_ifPrice v x (f_X9_count v 11))), (2, .int (f_X9_barn v x 6)), (0, .ref h), (1, .int x)]) hx hb dL_isShowSo_261 hl (by decide) rfl (fun ls hl => ?_)
                refine lv_iload hx hb dL_isShowSo_263 (lv_at hl 1 rfl) ?_
                refine lv_if_eq (tgt := 287) hx hb dL_isShowSo_265 (by decide) (fun c_12 => ?_) (fun c_12 => absurd c_12 (by decide))
                refine lv_iconst (v := 0) hx hb dL_isShowSo_287 (by decide) ?_
                subst hQ
                exact ret_z q258_5.2 hx hb hr rfl hK hP hD hS rfl ⟨(by unfold f_L_isShowSo; rw [if_neg c_1, ← hq90]; unfold f_L_isShowSo_q90; rw [if_pos c_2, if_pos c_3, if_pos c_5, if_pos c_7, if_pos c_9, if_neg c_11, ← hq258_5]; unfold f_L_isShowSo_q258_5; try rfl), (Or.inl rfl)⟩ dL_isShowSo_288 hlocks
              · refine lv_aload_n hx hb dL_isShowSo_183 rfl (lv_at hl 9 rfl) ?_
                refine lv_iload_n hx hb dL_isShowSo_184 rfl (lv_at hl 10 rfl) ?_
                refine call_W (w1 := fun zu => wX9 z h a b c9 hh hh1 d0 d1 d2 d3 t9 t91 r9 r91 r92 r93 zu) len9 (fun _ => len9) (rV (As := [.int x]) (rest := []) ⟨hx, hb, hml, hown, hts⟩ (c_X9_show l D z tM tS h a b c9 hh hh1 d0 d1 d2 d3 t9 t91 r9 r91 r92 r93 q90.2 x (iv_n hI_q90).1 (iv_n hI_q90).2 (iv_w hI_q90) H.size) (cwV 1 hts gL_isShowSo_X9_show rfl rfl rfl (by decide +kernel) ⟨Nat.le_trans (by decide) hRf, Nat.le_trans (by decide) hRl⟩) (ev_ok tM tS) (e_go (ev_ok tM tS) hE hD hS hA (List.range 128) (gN len9)) hK hP hD (List.range 128) nd128 (gN len9) (va_recv hK hP (ci := 9) (q0 := 0) rfl rfl) rfl hl.1 rfl (Nat.le_of_ble_eq_true rfl) dL_isShowSo_185 ⟨Nat.zero_le _, Nat.zero_le _⟩) hK hP hD hS hA (fun zr zu H locs hw hP hD hS => ?_)
                have hw : (zr, zu) = (f_X9_show q90.2 x) := hw
                obtain ⟨q185, hq185⟩ : ∃ q9, q9 = (f_X9_show q90.2 x) := ⟨_, rfl⟩
                rw [← hq185] at hw
                obtain ⟨rfl, rfl⟩ := pe hw
                have hP : va_P D vwCl (wX9 z h a b c9 hh hh1 d0 d1 d2 d3 t9 t91 r9 r91 r92 r93 q185.2) H := hP
                have hD : va_D A (wX9 z h a b c9 hh hh1 d0 d1 d2 d3 t9 t91 r9 r91 r92 r93 q185.2) := hD
                have hI_q185 : IV q185.2 := by rw [hq185]; exact iv_show hI_q90 x
                refine lv_ldc (v := (-10000011)) hx hb hown (hts (.constant RL 67 (-10000011)) (by decide +kernel)) dL_isShowSo_188 ?_
                refine lv_icmp_ne (tgt := 254) hx hb dL_isShowSo_190 (by decide) (fun c_13 => ?_) (fun c_13 => ?_)
                · refine lv_iconst (v := 0) hx hb dL_isShowSo_254 (by decide) ?_
                  refine lv_istore (lv' := [(11, .int 0), (10, .int q90.1), (9, .int (f_X9_count v 10)), (8, .int (f_X9_barn v x 5)), (7, .int (f_X9_count v 4)), (6, .int (f_X9_generator v 1 1)), (5, .int 1), (4, .int (f_X9_barn v x 4)), (3, .int (f_X9_ifPrice v x (f_X9_count v 11))), (2, .int (f_X9_barn v x 6)), (0, .ref h), (1, .int x)]) hx hb dL_isShowSo_255 hl (by decide) rfl (fun ls hl => ?_)
                  refine lv_aload_n hx hb dL_isShowSo_257 rfl (lv_at hl 10 rfl) ?_
                  refine call_W (w1 := fun zu => wX9 z h a b c9 hh hh1 d0 d1 d2 d3 t9 t91 r9 r91 r92 r93 zu) len9 (fun _ => len9) (rV (As := []) (rest := []) ⟨hx, hb, hml, hown, hts⟩ (c_X9_undo l D z tM tS h a b c9 hh hh1 d0 d1 d2 d3 t9 t91 r9 r91 r92 r93 q185.2 (iv_n hI_q185).1 (iv_n hI_q185).2 H.size) (cwV 0 hts gL_isShowSo_X9_undo rfl rfl rfl (by decide +kernel) ⟨Nat.le_trans (by decide) hRf, Nat.le_trans (by decide) hRl⟩) (ev_ok tM tS) (e_go (ev_ok tM tS) hE hD hS hA (List.range 128) (gN len9)) hK hP hD (List.range 128) nd128 (gN len9) (va_recv hK hP (ci := 9) (q0 := 0) rfl rfl) rfl hl.1 rfl (Nat.le_of_ble_eq_true rfl) dL_isShowSo_258 ⟨Nat.zero_le _, Nat.zero_le _⟩) hK hP hD hS hA (fun zr zu H locs hw hP hD hS => ?_)
                  have hw : (zr, zu) = (f_X9_undo q185.2) := hw
                  obtain ⟨q258_7, hq258_7⟩ : ∃ q9, q9 = (f_X9_undo q185.2) := ⟨_, rfl⟩
                  rw [← hq258_7] at hw
                  obtain ⟨rfl, rfl⟩ := pe hw
                  have hP : va_P D vwCl (wX9 z h a b c9 hh hh1 d0 d1 d2 d3 t9 t91 r9 r91 r92 r93 q258_7.2) H := hP
                  have hD : va_D A (wX9 z h a b c9 hh hh1 d0 d1 d2 d3 t9 t91 r9 r91 r92 r93 q258_7.2) := hD
                  refine lv_istore (lv' := [(12, .int q258_7.1), (11, .int 0), (10, .int q90.1), (9, .int (f_X9_count v 10)), (8, .int (f_X9_barn v x 5)), (7, .int (f_X9_count v 4)), (6, .int (f_X9_generator v 1 1)), (5, .int 1), (4, .int (f_X9_barn v x 4)), (3, .int (f_X9_ifPrice v x (f_X9_count v 11))), (2, .int (f_X9_barn v x 6)), (0, .ref h), (1, .int x)]) hx hb dL_isShowSo_261 hl (by decide) rfl (fun ls hl => ?_)
                  refine lv_iload hx hb dL_isShowSo_263 (lv_at hl 1 rfl) ?_
                  refine lv_if_eq (tgt := 287) hx hb dL_isShowSo_265 (by decide) (fun c_14 => ?_) (fun c_14 => absurd c_14 (by decide))
                  refine lv_iconst (v := 0) hx hb dL_isShowSo_287 (by decide) ?_
                  subst hQ
                  exact ret_z q258_7.2 hx hb hr rfl hK hP hD hS rfl ⟨(by unfold f_L_isShowSo; rw [if_neg c_1, ← hq90]; unfold f_L_isShowSo_q90; rw [if_pos c_2, if_pos c_3, if_pos c_5, if_pos c_7, if_pos c_9, if_pos c_11, ← hq185]; unfold f_L_isShowSo_q185; rw [if_neg c_13, ← hq258_7]; unfold f_L_isShowSo_q258_7; try rfl), (Or.inl rfl)⟩ dL_isShowSo_288 hlocks
                · refine lv_aload_n hx hb dL_isShowSo_193 rfl (lv_at hl 9 rfl) ?_
                  refine lv_iconst (v := 0) hx hb dL_isShowSo_194 (by decide) ?_
                  refine lv_iconst (v := 1) hx hb dL_isShowSo_195 (by decide) ?_
                  refine call_W (w1 := fun _ => wX9 z h a b c9 hh hh1 d0 d1 d2 d3 t9 t91 r9 r91 r92 r93 q185.2) len9 (fun _ => len9) (rV (As := [.int 0, .int 1]) (rest := []) ⟨hx, hb, hml, hown, hts⟩ (c_X9_showOf l D z tM tS h a b c9 hh hh1 d0 d1 d2 d3 t9 t91 r9 r91 r92 r93 q185.2 0 1 (iv_ls hI_q185) H.size) (cwV 2 hts gL_isShowSo_X9_showOf rfl rfl rfl (by decide +kernel) ⟨Nat.le_trans (by decide) hRf, Nat.le_trans (by decide) hRl⟩) (ev_ok tM tS) (e_go (ev_ok tM tS) hE hD hS hA (List.range 128) (gN len9)) hK hP hD (List.range 128) nd128 (gN len9) (va_recv hK hP (ci := 9) (q0 := 0) rfl rfl) rfl hl.1 rfl (Nat.le_of_ble_eq_true rfl) dL_isShowSo_196 ⟨Nat.zero_le _, Nat.zero_le _⟩) hK hP hD hS hA (fun zr zu H locs hw hP hD hS => ?_)
                  have hw : zr = (f_X9_showOf q185.2 0 1) := hw
                  subst hw
                  have hP : va_P D vwCl (wX9 z h a b c9 hh hh1 d0 d1 d2 d3 t9 t91 r9 r91 r92 r93 q185.2) H := hP
                  have hD : va_D A (wX9 z h a b c9 hh hh1 d0 d1 d2 d3 t9 t91 r9 r91 r92 r93 q185.2) := hD
                  refine lv_iload_n hx hb dL_isShowSo_199 rfl (lv_at hl 10 rfl) ?_
                  refine lv_icmp_ne (tgt := 254) hx hb dL_isShowSo_200 (by decide) (fun c_15 => ?_) (fun c_15 => ?_)
                  · refine lv_iconst (v := 0) hx hb dL_isShowSo_254 (by decide) ?_
                    refine lv_istore (lv' := [(11, .int 0), (10, .int q90.1), (9, .int (f_X9_count v 10)), (8, .int (f_X9_barn v x 5)), (7, .int (f_X9_count v 4)), (6, .int (f_X9_generator v 1 1)), (5, .int 1), (4, .int (f_X9_barn v x 4)), (3, .int (f_X9_ifPrice v x (f_X9_count v 11))), (2, .int (f_X9_barn v x 6)), (0, .ref h), (1, .int x)]) hx hb dL_isShowSo_255 hl (by decide) rfl (fun ls hl => ?_)
                    refine lv_aload_n hx hb dL_isShowSo_257 rfl (lv_at hl 10 rfl) ?_
                    refine call_W (w1 := fun zu => wX9 z h a b c9 hh hh1 d0 d1 d2 d3 t9 t91 r9 r91 r92 r93 zu) len9 (fun _ => len9) (rV (As := []) (rest := []) ⟨hx, hb, hml, hown, hts⟩ (c_X9_undo l D z tM tS h a b c9 hh hh1 d0 d1 d2 d3 t9 t91 r9 r91 r92 r93 q185.2 (iv_n hI_q185).1 (iv_n hI_q185).2 H.size) (cwV 0 hts gL_isShowSo_X9_undo rfl rfl rfl (by decide +kernel) ⟨Nat.le_trans (by decide) hRf, Nat.le_trans (by decide) hRl⟩) (ev_ok tM tS) (e_go (ev_ok tM tS) hE hD hS hA (List.range 128) (gN len9)) hK hP hD (List.range 128) nd128 (gN len9) (va_recv hK hP (ci := 9) (q0 := 0) rfl rfl) rfl hl.1 rfl (Nat.le_of_ble_eq_true rfl) dL_isShowSo_258 ⟨Nat.zero_le _, Nat.zero_le _⟩) hK hP hD hS hA (fun zr zu H locs hw hP hD hS => ?_)
                    have hw : (zr, zu) = (f_X9_undo q185.2) := hw
                    obtain ⟨q258_8, hq258_8⟩ : ∃ q9, q9 = (f_X9_undo q185.2) := ⟨_, rfl⟩
                    rw [← hq258_8] at hw
                    obtain ⟨rfl, rfl⟩ := pe hw
                    have hP : va_P D vwCl (wX9 z h a b c9 hh hh1 d0 d1 d2 d3 t9 t91 r9 r91 r92 r93 q258_8.2) H := hP
                    have hD : va_D A (wX9 z h a b c9 hh hh1 d0 d1 d2 d3 t9 t91 r9 r91 r92 r93 q258_8.2) := hD
                    refine lv_istore (lv' := [(12, .int q258_8.1), (11, .int 0), (10, .int q90.1), (9, .int (f_X9_count v 10)), (8, .int (f_X9_barn v x 5)), (7, .int (f_X9_count v 4)), (6, .int (f_X9_generator v 1 1)), (5, .int 1), (4, .int (f_X9_barn v x 4)), (3, .int (f_X9_ifPrice v x (f_X9_count v 11))), (2, .int (f_X9_barn v x 6)), (0, .ref h), (1, .int x)]) hx hb dL_isShowSo_261 hl (by decide) rfl (fun ls hl => ?_)
                    refine lv_iload hx hb dL_isShowSo_263 (lv_at hl 1 rfl) ?_
                    refine lv_if_eq (tgt := 287) hx hb dL_isShowSo_265 (by decide) (fun c_16 => ?_) (fun c_16 => absurd c_16 (by decide))
                    refine lv_iconst (v := 0) hx hb dL_isShowSo_287 (by decide) ?_
                    subst hQ
                    exact ret_z q258_8.2 hx hb hr rfl hK hP hD hS rfl ⟨(by unfold f_L_isShowSo; rw [if_neg c_1, ← hq90]; unfold f_L_isShowSo_q90; rw [if_pos c_2, if_pos c_3, if_pos c_5, if_pos c_7, if_pos c_9, if_pos c_11, ← hq185]; unfold f_L_isShowSo_q185; rw [if_pos c_13, if_neg c_15, ← hq258_8]; unfold f_L_isShowSo_q258_8; try rfl), (Or.inl rfl)⟩ dL_isShowSo_288 hlocks
                  · refine lv_aload_n hx hb dL_isShowSo_203 rfl (lv_at hl 9 rfl) ?_
                    refine lv_iconst (v := 0) hx hb dL_isShowSo_204 (by decide) ?_
                    refine lv_iconst (v := 2) hx hb dL_isShowSo_205 (by decide) ?_
                    refine call_W (w1 := fun _ => wX9 z h a b c9 hh hh1 d0 d1 d2 d3 t9 t91 r9 r91 r92 r93 q185.2) len9 (fun _ => len9) (rV (As := [.int 0, .int 2]) (rest := []) ⟨hx, hb, hml, hown, hts⟩ (c_X9_showOf l D z tM tS h a b c9 hh hh1 d0 d1 d2 d3 t9 t91 r9 r91 r92 r93 q185.2 0 2 (iv_ls hI_q185) H.size) (cwV 2 hts gL_isShowSo_X9_showOf rfl rfl rfl (by decide +kernel) ⟨Nat.le_trans (by decide) hRf, Nat.le_trans (by decide) hRl⟩) (ev_ok tM tS) (e_go (ev_ok tM tS) hE hD hS hA (List.range 128) (gN len9)) hK hP hD (List.range 128) nd128 (gN len9) (va_recv hK hP (ci := 9) (q0 := 0) rfl rfl) rfl hl.1 rfl (Nat.le_of_ble_eq_true rfl) dL_isShowSo_206 ⟨Nat.zero_le _, Nat.zero_le _⟩) hK hP hD hS hA (fun zr zu H locs hw hP hD hS => ?_)
                    have hw : zr = (f_X9_showOf q185.2 0 2) := hw
                    subst hw
                    have hP : va_P D vwCl (wX9 z h a b c9 hh hh1 d0 d1 d2 d3 t9 t91 r9 r91 r92 r93 q185.2) H := hP
                    have hD : va_D A (wX9 z h a b c9 hh hh1 d0 d1 d2 d3 t9 t91 r9 r91 r92 r93 q185.2) := hD
                    refine lv_iload hx hb dL_isShowSo_209 (lv_at hl 2 rfl) ?_
                    refine lv_icmp_ne (tgt := 254) hx hb dL_isShowSo_211 (by decide) (fun c_17 => ?_) (fun c_17 => ?_)
                    · refine lv_iconst (v := 0) hx hb dL_isShowSo_254 (by decide) ?_
                      refine lv_istore (lv' := [(11, .int 0), (10, .int q90.1), (9, .int (f_X9_count v 10)), (8, .int (f_X9_barn v x 5)), (7, .int (f_X9_count v 4)), (6, .int (f_X9_generator v 1 1)), (5, .int 1), (4, .int (f_X9_barn v x 4)), (3, .int (f_X9_ifPrice v x (f_X9_count v 11))), (2, .int (f_X9_barn v x 6)), (0, .ref h), (1, .int x)]) hx hb dL_isShowSo_255 hl (by decide) rfl (fun ls hl => ?_)
                      refine lv_aload_n hx hb dL_isShowSo_257 rfl (lv_at hl 10 rfl) ?_
                      refine call_W (w1 := fun zu => wX9 z h a b c9 hh hh1 d0 d1 d2 d3 t9 t91 r9 r91 r92 r93 zu) len9 (fun _ => len9) (rV (As := []) (rest := []) ⟨hx, hb, hml, hown, hts⟩ (c_X9_undo l D z tM tS h a b c9 hh hh1 d0 d1 d2 d3 t9 t91 r9 r91 r92 r93 q185.2 (iv_n hI_q185).1 (iv_n hI_q185).2 H.size) (cwV 0 hts gL_isShowSo_X9_undo rfl rfl rfl (by decide +kernel) ⟨Nat.le_trans (by decide) hRf, Nat.le_trans (by decide) hRl⟩) (ev_ok tM tS) (e_go (ev_ok tM tS) hE hD hS hA (List.range 128) (gN len9)) hK hP hD (List.range 128) nd128 (gN len9) (va_recv hK hP (ci := 9) (q0 := 0) rfl rfl) rfl hl.1 rfl (Nat.le_of_ble_eq_true rfl) dL_isShowSo_258 ⟨Nat.zero_le _, Nat.zero_le _⟩) hK hP hD hS hA (fun zr zu H locs hw hP hD hS => ?_)
                      have hw : (zr, zu) = (f_X9_undo q185.2) := hw
                      obtain ⟨q258_9, hq258_9⟩ : ∃ q9, q9 = (f_X9_undo q185.2) := ⟨_, rfl⟩
                      rw [← hq258_9] at hw
                      obtain ⟨rfl, rfl⟩ := pe hw
                      have hP : va_P D vwCl (wX9 z h a b c9 hh hh1 d0 d1 d2 d3 t9 t91 r9 r91 r92 r93 q258_9.2) H := hP
                      have hD : va_D A (wX9 z h a b c9 hh hh1 d0 d1 d2 d3 t9 t91 r9 r91 r92 r93 q258_9.2) := hD
                      refine lv_istore (lv' := [(12, .int q258_9.1), (11, .int 0), (10, .int q90.1), (9, .int (f_X9_count v 10)), (8, .int (f_X9_barn v x 5)), (7, .int (f_X9_count v 4)), (6, .int (f_X9_generator v 1 1)), (5, .int 1), (4, .int (f_X9_barn v x 4)), (3, .int (f_X9_ifPrice v x (f_X9_count v 11))), (2, .int (f_X9_barn v x 6)), (0, .ref h), (1, .int x)]) hx hb dL_isShowSo_261 hl (by decide) rfl (fun ls hl => ?_)
                      refine lv_iload hx hb dL_isShowSo_263 (lv_at hl 1 rfl) ?_
                      refine lv_if_eq (tgt := 287) hx hb dL_isShowSo_265 (by decide) (fun c_18 => ?_) (fun c_18 => absurd c_18 (by decide))
                      refine lv_iconst (v := 0) hx hb dL_isShowSo_287 (by decide) ?_
                      subst hQ
                      exact ret_z q258_9.2 hx hb hr rfl hK hP hD hS rfl ⟨(by unfold f_L_isShowSo; rw [if_neg c_1, ← hq90]; unfold f_L_isShowSo_q90; rw [if_pos c_2, if_pos c_3, if_pos c_5, if_pos c_7, if_pos c_9, if_pos c_11, ← hq185]; unfold f_L_isShowSo_q185; rw [if_pos c_13, if_pos c_15, if_neg c_17, ← hq258_9]; unfold f_L_isShowSo_q258_9; try rfl), (Or.inl rfl)⟩ dL_isShowSo_288 hlocks
                    · refine lv_aload_n hx hb dL_isShowSo_214 rfl (lv_at hl 9 rfl) ?_
                      refine lv_iconst (v := 0) hx hb dL_isShowSo_215 (by decide) ?_
                      refine lv_iconst (v := 3) hx hb dL_isShowSo_216 (by decide) ?_
                      refine call_W (w1 := fun _ => wX9 z h a b c9 hh hh1 d0 d1 d2 d3 t9 t91 r9 r91 r92 r93 q185.2) len9 (fun _ => len9) (rV (As := [.int 0, .int 3]) (rest := []) ⟨hx, hb, hml, hown, hts⟩ (c_X9_showOf l D z tM tS h a b c9 hh hh1 d0 d1 d2 d3 t9 t91 r9 r91 r92 r93 q185.2 0 3 (iv_ls hI_q185) H.size) (cwV 2 hts gL_isShowSo_X9_showOf rfl rfl rfl (by decide +kernel) ⟨Nat.le_trans (by decide) hRf, Nat.le_trans (by decide) hRl⟩) (ev_ok tM tS) (e_go (ev_ok tM tS) hE hD hS hA (List.range 128) (gN len9)) hK hP hD (List.range 128) nd128 (gN len9) (va_recv hK hP (ci := 9) (q0 := 0) rfl rfl) rfl hl.1 rfl (Nat.le_of_ble_eq_true rfl) dL_isShowSo_217 ⟨Nat.zero_le _, Nat.zero_le _⟩) hK hP hD hS hA (fun zr zu H locs hw hP hD hS => ?_)
                      have hw : zr = (f_X9_showOf q185.2 0 3) := hw
                      subst hw
                      have hP : va_P D vwCl (wX9 z h a b c9 hh hh1 d0 d1 d2 d3 t9 t91 r9 r91 r92 r93 q185.2) H := hP
                      have hD : va_D A (wX9 z h a b c9 hh hh1 d0 d1 d2 d3 t9 t91 r9 r91 r92 r93 q185.2) := hD
                      refine lv_iload hx hb dL_isShowSo_220 (lv_at hl 0 rfl) ?_
                      refine lv_icmp_ne (tgt := 254) hx hb dL_isShowSo_222 (by decide) (fun c_19 => ?_) (fun c_19 => ?_)
                      · refine lv_iconst (v := 0) hx hb dL_isShowSo_254 (by decide) ?_
                        refine lv_istore (lv' := [(11, .int 0), (10, .int q90.1), (9, .int (f_X9_count v 10)), (8, .int (f_X9_barn v x 5)), (7, .int (f_X9_count v 4)), (6, .int (f_X9_generator v 1 1)), (5, .int 1), (4, .int (f_X9_barn v x 4)), (3, .int (f_X9_ifPrice v x (f_X9_count v 11))), (2, .int (f_X9_barn v x 6)), (0, .ref h), (1, .int x)]) hx hb dL_isShowSo_255 hl (by decide) rfl (fun ls hl => ?_)
                        refine lv_aload_n hx hb dL_isShowSo_257 rfl (lv_at hl 10 rfl) ?_
                        refine call_W (w1 := fun zu => wX9 z h a b c9 hh hh1 d0 d1 d2 d3 t9 t91 r9 r91 r92 r93 zu) len9 (fun _ => len9) (rV (As := []) (rest := []) ⟨hx, hb, hml, hown, hts⟩ (c_X9_undo l D z tM tS h a b c9 hh hh1 d0 d1 d2 d3 t9 t91 r9 r91 r92 r93 q185.2 (iv_n hI_q185).1 (iv_n hI_q185).2 H.size) (cwV 0 hts gL_isShowSo_X9_undo rfl rfl rfl (by decide +kernel) ⟨Nat.le_trans (by decide) hRf, Nat.le_trans (by decide) hRl⟩) (ev_ok tM tS) (e_go (ev_ok tM tS) hE hD hS hA (List.range 128) (gN len9)) hK hP hD (List.range 128) nd128 (gN len9) (va_recv hK hP (ci := 9) (q0 := 0) rfl rfl) rfl hl.1 rfl (Nat.le_of_ble_eq_true rfl) dL_isShowSo_258 ⟨Nat.zero_le _, Nat.zero_le _⟩) hK hP hD hS hA (fun zr zu H locs hw hP hD hS => ?_)
                        have hw : (zr, zu) = (f_X9_undo q185.2) := hw
                        obtain ⟨q258_10, hq258_10⟩ : ∃ q9, q9 = (f_X9_undo q185.2) := ⟨_, rfl⟩
                        rw [← hq258_10] at hw
                        obtain ⟨rfl, rfl⟩ := pe hw
                        have hP : va_P D vwCl (wX9 z h a b c9 hh hh1 d0 d1 d2 d3 t9 t91 r9 r91 r92 r93 q258_10.2) H := hP
                        have hD : va_D A (wX9 z h a b c9 hh hh1 d0 d1 d2 d3 t9 t91 r9 r91 r92 r93 q258_10.2) := hD
                        refine lv_istore (lv' := [(12, .int q258_10.1), (11, .int 0), (10, .int q90.1), (9, .int (f_X9_count v 10)), (8, .int (f_X9_barn v x 5)), (7, .int (f_X9_count v 4)), (6, .int (f_X9_generator v 1 1)), (5, .int 1), (4, .int (f_X9_barn v x 4)), (3, .int (f_X9_ifPrice v x (f_X9_count v 11))), (2, .int (f_X9_barn v x 6)), (0, .ref h), (1, .int x)]) hx hb dL_isShowSo_261 hl (by decide) rfl (fun ls hl => ?_)
                        refine lv_iload hx hb dL_isShowSo_263 (lv_at hl 1 rfl) ?_
                        refine lv_if_eq (tgt := 287) hx hb dL_isShowSo_265 (by decide) (fun c_20 => ?_) (fun c_20 => absurd c_20 (by decide))
                        refine lv_iconst (v := 0) hx hb dL_isShowSo_287 (by decide) ?_
                        subst hQ
                        exact ret_z q258_10.2 hx hb hr rfl hK hP hD hS rfl ⟨(by unfold f_L_isShowSo; rw [if_neg c_1, ← hq90]; unfold f_L_isShowSo_q90; rw [if_pos c_2, if_pos c_3, if_pos c_5, if_pos c_7, if_pos c_9, if_pos c_11, ← hq185]; unfold f_L_isShowSo_q185; rw [if_pos c_13, if_pos c_15, if_pos c_17, if_neg c_19, ← hq258_10]; unfold f_L_isShowSo_q258_10; try rfl), (Or.inl rfl)⟩ dL_isShowSo_288 hlocks
                      · refine lv_aload_n hx hb dL_isShowSo_225 rfl (lv_at hl 9 rfl) ?_
                        refine lv_iconst (v := 0) hx hb dL_isShowSo_226 (by decide) ?_
                        refine lv_iconst (v := 4) hx hb dL_isShowSo_227 (by decide) ?_
                        refine call_W (w1 := fun _ => wX9 z h a b c9 hh hh1 d0 d1 d2 d3 t9 t91 r9 r91 r92 r93 q185.2) len9 (fun _ => len9) (rV (As := [.int 0, .int 4]) (rest := []) ⟨hx, hb, hml, hown, hts⟩ (c_X9_showOf l D z tM tS h a b c9 hh hh1 d0 d1 d2 d3 t9 t91 r9 r91 r92 r93 q185.2 0 4 (iv_ls hI_q185) H.size) (cwV 2 hts gL_isShowSo_X9_showOf rfl rfl rfl (by decide +kernel) ⟨Nat.le_trans (by decide) hRf, Nat.le_trans (by decide) hRl⟩) (ev_ok tM tS) (e_go (ev_ok tM tS) hE hD hS hA (List.range 128) (gN len9)) hK hP hD (List.range 128) nd128 (gN len9) (va_recv hK hP (ci := 9) (q0 := 0) rfl rfl) rfl hl.1 rfl (Nat.le_of_ble_eq_true rfl) dL_isShowSo_228 ⟨Nat.zero_le _, Nat.zero_le _⟩) hK hP hD hS hA (fun zr zu H locs hw hP hD hS => ?_)
                        have hw : zr = (f_X9_showOf q185.2 0 4) := hw
                        subst hw
                        have hP : va_P D vwCl (wX9 z h a b c9 hh hh1 d0 d1 d2 d3 t9 t91 r9 r91 r92 r93 q185.2) H := hP
                        have hD : va_D A (wX9 z h a b c9 hh hh1 d0 d1 d2 d3 t9 t91 r9 r91 r92 r93 q185.2) := hD
                        refine lv_iload hx hb dL_isShowSo_231 (lv_at hl 6 rfl) ?_
                        refine lv_icmp_ne (tgt := 254) hx hb dL_isShowSo_233 (by decide) (fun c_21 => ?_) (fun c_21 => ?_)
                        · refine lv_iconst (v := 0) hx hb dL_isShowSo_254 (by decide) ?_
                          refine lv_istore (lv' := [(11, .int 0), (10, .int q90.1), (9, .int (f_X9_count v 10)), (8, .int (f_X9_barn v x 5)), (7, .int (f_X9_count v 4)), (6, .int (f_X9_generator v 1 1)), (5, .int 1), (4, .int (f_X9_barn v x 4)), (3, .int (f_X9_ifPrice v x (f_X9_count v 11))), (2, .int (f_X9_barn v x 6)), (0, .ref h), (1, .int x)]) hx hb dL_isShowSo_255 hl (by decide) rfl (fun ls hl => ?_)
                          refine lv_aload_n hx hb dL_isShowSo_257 rfl (lv_at hl 10 rfl) ?_
                          refine call_W (w1 := fun zu => wX9 z h a b c9 hh hh1 d0 d1 d2 d3 t9 t91 r9 r91 r92 r93 zu) len9 (fun _ => len9) (rV (As := []) (rest := []) ⟨hx, hb, hml, hown, hts⟩ (c_X9_undo l D z tM tS h a b c9 hh hh1 d0 d1 d2 d3 t9 t91 r9 r91 r92 r93 q185.2 (iv_n hI_q185).1 (iv_n hI_q185).2 H.size) (cwV 0 hts gL_isShowSo_X9_undo rfl rfl rfl (by decide +kernel) ⟨Nat.le_trans (by decide) hRf, Nat.le_trans (by decide) hRl⟩) (ev_ok tM tS) (e_go (ev_ok tM tS) hE hD hS hA (List.range 128) (gN len9)) hK hP hD (List.range 128) nd128 (gN len9) (va_recv hK hP (ci := 9) (q0 := 0) rfl rfl) rfl hl.1 rfl (Nat.le_of_ble_eq_true rfl) dL_isShowSo_258 ⟨Nat.zero_le _, Nat.zero_le _⟩) hK hP hD hS hA (fun zr zu H locs hw hP hD hS => ?_)
                          have hw : (zr, zu) = (f_X9_undo q185.2) := hw
                          obtain ⟨q258_11, hq258_11⟩ : ∃ q9, q9 = (f_X9_undo q185.2) := ⟨_, rfl⟩
                          rw [← hq258_11] at hw
                          obtain ⟨rfl, rfl⟩ := pe hw
                          have hP : va_P D vwCl (wX9 z h a b c9 hh hh1 d0 d1 d2 d3 t9 t91 r9 r91 r92 r93 q258_11.2) H := hP
                          have hD : va_D A (wX9 z h a b c9 hh hh1 d0 d1 d2 d3 t9 t91 r9 r91 r92 r93 q258_11.2) := hD
                          refine lv_istore (lv' := [(12, .int q258_11.1), (11, .int 0), (10, .int q90.1), (9, .int (f_X9_count v 10)), (8, .int (f_X9_barn v x 5)), (7, .int (f_X9_count v 4)), (6, .int (f_X9_generator v 1 1)), (5, .int 1), (4, .int (f_X9_barn v x 4)), (3, .int (f_X9_ifPrice v x (f_X9_count v 11))), (2, .int (f_X9_barn v x 6)), (0, .ref h), (1, .int x)]) hx hb dL_isShowSo_261 hl (by decide) rfl (fun ls hl => ?_)
                          refine lv_iload hx hb dL_isShowSo_263 (lv_at hl 1 rfl) ?_
                          refine lv_if_eq (tgt := 287) hx hb dL_isShowSo_265 (by decide) (fun c_22 => ?_) (fun c_22 => absurd c_22 (by decide))
                          refine lv_iconst (v := 0) hx hb dL_isShowSo_287 (by decide) ?_
                          subst hQ
                          exact ret_z q258_11.2 hx hb hr rfl hK hP hD hS rfl ⟨(by unfold f_L_isShowSo; rw [if_neg c_1, ← hq90]; unfold f_L_isShowSo_q90; rw [if_pos c_2, if_pos c_3, if_pos c_5, if_pos c_7, if_pos c_9, if_pos c_11, ← hq185]; unfold f_L_isShowSo_q185; rw [if_pos c_13, if_pos c_15, if_pos c_17, if_pos c_19, if_neg c_21, ← hq258_11]; unfold f_L_isShowSo_q258_11; try rfl), (Or.inl rfl)⟩ dL_isShowSo_288 hlocks
                        · refine lv_aload_n hx hb dL_isShowSo_236 rfl (lv_at hl 9 rfl) ?_
                          refine lv_iconst (v := 0) hx hb dL_isShowSo_237 (by decide) ?_
                          refine lv_iconst (v := 0) hx hb dL_isShowSo_238 (by decide) ?_
                          refine call_W (w1 := fun _ => wX9 z h a b c9 hh hh1 d0 d1 d2 d3 t9 t91 r9 r91 r92 r93 q185.2) len9 (fun _ => len9) (rV (As := [.int 0, .int 0]) (rest := []) ⟨hx, hb, hml, hown, hts⟩ (c_X9_showOf l D z tM tS h a b c9 hh hh1 d0 d1 d2 d3 t9 t91 r9 r91 r92 r93 q185.2 0 0 (iv_ls hI_q185) H.size) (cwV 2 hts gL_isShowSo_X9_showOf rfl rfl rfl (by decide +kernel) ⟨Nat.le_trans (by decide) hRf, Nat.le_trans (by decide) hRl⟩) (ev_ok tM tS) (e_go (ev_ok tM tS) hE hD hS hA (List.range 128) (gN len9)) hK hP hD (List.range 128) nd128 (gN len9) (va_recv hK hP (ci := 9) (q0 := 0) rfl rfl) rfl hl.1 rfl (Nat.le_of_ble_eq_true rfl) dL_isShowSo_239 ⟨Nat.zero_le _, Nat.zero_le _⟩) hK hP hD hS hA (fun zr zu H locs hw hP hD hS => ?_)
                          have hw : zr = (f_X9_showOf q185.2 0 0) := hw
                          subst hw
                          have hP : va_P D vwCl (wX9 z h a b c9 hh hh1 d0 d1 d2 d3 t9 t91 r9 r91 r92 r93 q185.2) H := hP
                          have hD : va_D A (wX9 z h a b c9 hh hh1 d0 d1 d2 d3 t9 t91 r9 r91 r92 r93 q185.2) := hD
                          refine lv_aload_n hx hb dL_isShowSo_242 rfl (lv_at hl 9 rfl) ?_
                          refine lv_iconst (v := 0) hx hb dL_isShowSo_243 (by decide) ?_
                          refine call_W (w1 := fun _ => wX9 z h a b c9 hh hh1 d0 d1 d2 d3 t9 t91 r9 r91 r92 r93 q185.2) len9 (fun _ => len9) (rV (As := [.int 0]) (rest := [.int (f_X9_showOf q185.2 0 0)]) ⟨hx, hb, hml, hown, hts⟩ (c_X9_count l D z tM tS h a b c9 hh hh1 d0 d1 d2 d3 t9 t91 r9 r91 r92 r93 q185.2 0 H.size) (cwV 1 hts gL_isShowSo_X9_count rfl rfl rfl (by decide +kernel) ⟨Nat.le_trans (by decide) hRf, Nat.le_trans (by decide) hRl⟩) (ev_ok tM tS) (e_go (ev_ok tM tS) hE hD hS hA (List.range 128) (gN len9)) hK hP hD (List.range 128) nd128 (gN len9) (va_recv hK hP (ci := 9) (q0 := 0) rfl rfl) rfl hl.1 rfl (Nat.le_of_ble_eq_true rfl) dL_isShowSo_244 ⟨Nat.zero_le _, Nat.zero_le _⟩) hK hP hD hS hA (fun zr zu H locs hw hP hD hS => ?_)
                          have hw : zr = (f_X9_count q185.2 0) := hw
                          subst hw
                          have hP : va_P D vwCl (wX9 z h a b c9 hh hh1 d0 d1 d2 d3 t9 t91 r9 r91 r92 r93 q185.2) H := hP
                          have hD : va_D A (wX9 z h a b c9 hh hh1 d0 d1 d2 d3 t9 t91 r9 r91 r92 r93 q185.2) := hD
                          refine lv_icmp_ne (tgt := 254) hx hb dL_isShowSo_247 (by decide) (fun c_23 => ?_) (fun c_23 => ?_)
                          · refine lv_iconst (v := 0) hx hb dL_isShowSo_254 (by decide) ?_
                            refine lv_istore (lv' := [(11, .int 0), (10, .int q90.1), (9, .int (f_X9_count v 10)), (8, .int (f_X9_barn v x 5)), (7, .int (f_X9_count v 4)), (6, .int (f_X9_generator v 1 1)), (5, .int 1), (4, .int (f_X9_barn v x 4)), (3, .int (f_X9_ifPrice v x (f_X9_count v 11))), (2, .int (f_X9_barn v x 6)), (0, .ref h), (1, .int x)]) hx hb dL_isShowSo_255 hl (by decide) rfl (fun ls hl => ?_)
                            refine lv_aload_n hx hb dL_isShowSo_257 rfl (lv_at hl 10 rfl) ?_
                            refine call_W (w1 := fun zu => wX9 z h a b c9 hh hh1 d0 d1 d2 d3 t9 t91 r9 r91 r92 r93 zu) len9 (fun _ => len9) (rV (As := []) (rest := []) ⟨hx, hb, hml, hown, hts⟩ (c_X9_undo l D z tM tS h a b c9 hh hh1 d0 d1 d2 d3 t9 t91 r9 r91 r92 r93 q185.2 (iv_n hI_q185).1 (iv_n hI_q185).2 H.size) (cwV 0 hts gL_isShowSo_X9_undo rfl rfl rfl (by decide +kernel) ⟨Nat.le_trans (by decide) hRf, Nat.le_trans (by decide) hRl⟩) (ev_ok tM tS) (e_go (ev_ok tM tS) hE hD hS hA (List.range 128) (gN len9)) hK hP hD (List.range 128) nd128 (gN len9) (va_recv hK hP (ci := 9) (q0 := 0) rfl rfl) rfl hl.1 rfl (Nat.le_of_ble_eq_true rfl) dL_isShowSo_258 ⟨Nat.zero_le _, Nat.zero_le _⟩) hK hP hD hS hA (fun zr zu H locs hw hP hD hS => ?_)
                            have hw : (zr, zu) = (f_X9_undo q185.2) := hw
                            obtain ⟨q258_12, hq258_12⟩ : ∃ q9, q9 = (f_X9_undo q185.2) := ⟨_, rfl⟩
                            rw [← hq258_12] at hw
                            obtain ⟨rfl, rfl⟩ := pe hw
                            have hP : va_P D vwCl (wX9 z h a b c9 hh hh1 d0 d1 d2 d3 t9 t91 r9 r91 r92 r93 q258_12.2) H := hP
                            have hD : va_D A (wX9 z h a b c9 hh hh1 d0 d1 d2 d3 t9 t91 r9 r91 r92 r93 q258_12.2) := hD
                            refine lv_istore (lv' := [(12, .int q258_12.1), (11, .int 0), (10, .int q90.1), (9, .int (f_X9_count v 10)), (8, .int (f_X9_barn v x 5)), (7, .int (f_X9_count v 4)), (6, .int (f_X9_generator v 1 1)), (5, .int 1), (4, .int (f_X9_barn v x 4)), (3, .int (f_X9_ifPrice v x (f_X9_count v 11))), (2, .int (f_X9_barn v x 6)), (0, .ref h), (1, .int x)]) hx hb dL_isShowSo_261 hl (by decide) rfl (fun ls hl => ?_)
                            refine lv_iload hx hb dL_isShowSo_263 (lv_at hl 1 rfl) ?_
                            refine lv_if_eq (tgt := 287) hx hb dL_isShowSo_265 (by decide) (fun c_24 => ?_) (fun c_24 => absurd c_24 (by decide))
                            refine lv_iconst (v := 0) hx hb dL_isShowSo_287 (by decide) ?_
                            subst hQ
                            exact ret_z q258_12.2 hx hb hr rfl hK hP hD hS rfl ⟨(by unfold f_L_isShowSo; rw [if_neg c_1, ← hq90]; unfold f_L_isShowSo_q90; rw [if_pos c_2, if_pos c_3, if_pos c_5, if_pos c_7, if_pos c_9, if_pos c_11, ← hq185]; unfold f_L_isShowSo_q185; rw [if_pos c_13, if_pos c_15, if_pos c_17, if_pos c_19, if_pos c_21, if_neg c_23, ← hq258_12]; unfold f_L_isShowSo_q258_12; try rfl), (Or.inl rfl)⟩ dL_isShowSo_288 hlocks
                          · refine lv_iconst (v := 1) hx hb dL_isShowSo_250 (by decide) ?_
                            refine lv_goto (tgt := 255) hx hb dL_isShowSo_251 (by decide) ?_
                            refine lv_istore (lv' := [(11, .int 1), (10, .int q90.1), (9, .int (f_X9_count v 10)), (8, .int (f_X9_barn v x 5)), (7, .int (f_X9_count v 4)), (6, .int (f_X9_generator v 1 1)), (5, .int 1), (4, .int (f_X9_barn v x 4)), (3, .int (f_X9_ifPrice v x (f_X9_count v 11))), (2, .int (f_X9_barn v x 6)), (0, .ref h), (1, .int x)]) hx hb dL_isShowSo_255 hl (by decide) rfl (fun ls hl => ?_)
                            refine lv_aload_n hx hb dL_isShowSo_257 rfl (lv_at hl 10 rfl) ?_
                            refine call_W (w1 := fun zu => wX9 z h a b c9 hh hh1 d0 d1 d2 d3 t9 t91 r9 r91 r92 r93 zu) len9 (fun _ => len9) (rV (As := []) (rest := []) ⟨hx, hb, hml, hown, hts⟩ (c_X9_undo l D z tM tS h a b c9 hh hh1 d0 d1 d2 d3 t9 t91 r9 r91 r92 r93 q185.2 (iv_n hI_q185).1 (iv_n hI_q185).2 H.size) (cwV 0 hts gL_isShowSo_X9_undo rfl rfl rfl (by decide +kernel) ⟨Nat.le_trans (by decide) hRf, Nat.le_trans (by decide) hRl⟩) (ev_ok tM tS) (e_go (ev_ok tM tS) hE hD hS hA (List.range 128) (gN len9)) hK hP hD (List.range 128) nd128 (gN len9) (va_recv hK hP (ci := 9) (q0 := 0) rfl rfl) rfl hl.1 rfl (Nat.le_of_ble_eq_true rfl) dL_isShowSo_258 ⟨Nat.zero_le _, Nat.zero_le _⟩) hK hP hD hS hA (fun zr zu H locs hw hP hD hS => ?_)
                            have hw : (zr, zu) = (f_X9_undo q185.2) := hw
                            obtain ⟨q258_13, hq258_13⟩ : ∃ q9, q9 = (f_X9_undo q185.2) := ⟨_, rfl⟩
                            rw [← hq258_13] at hw
                            obtain ⟨rfl, rfl⟩ := pe hw
                            have hP : va_P D vwCl (wX9 z h a b c9 hh hh1 d0 d1 d2 d3 t9 t91 r9 r91 r92 r93 q258_13.2) H := hP
                            have hD : va_D A (wX9 z h a b c9 hh hh1 d0 d1 d2 d3 t9 t91 r9 r91 r92 r93 q258_13.2) := hD
                            refine lv_istore (lv' := [(12, .int q258_13.1), (11, .int 1), (10, .int q90.1), (9, .int (f_X9_count v 10)), (8, .int (f_X9_barn v x 5)), (7, .int (f_X9_count v 4)), (6, .int (f_X9_generator v 1 1)), (5, .int 1), (4, .int (f_X9_barn v x 4)), (3, .int (f_X9_ifPrice v x (f_X9_count v 11))), (2, .int (f_X9_barn v x 6)), (0, .ref h), (1, .int x)]) hx hb dL_isShowSo_261 hl (by decide) rfl (fun ls hl => ?_)
                            refine lv_iload hx hb dL_isShowSo_263 (lv_at hl 1 rfl) ?_
                            refine lv_if_eq (tgt := 287) hx hb dL_isShowSo_265 (by decide) (fun c_25 => absurd c_25 (by decide)) (fun c_25 => ?_)
                            refine lv_iload hx hb dL_isShowSo_268 (lv_at hl 0 rfl) ?_
                            refine lv_if_lt (tgt := 287) hx hb dL_isShowSo_270 (by decide) (fun c_26 => ?_) (fun c_26 => ?_)
                            · refine lv_iconst (v := 0) hx hb dL_isShowSo_287 (by decide) ?_
                              subst hQ
                              exact ret_z q258_13.2 hx hb hr rfl hK hP hD hS rfl ⟨(by unfold f_L_isShowSo; rw [if_neg c_1, ← hq90]; unfold f_L_isShowSo_q90; rw [if_pos c_2, if_pos c_3, if_pos c_5, if_pos c_7, if_pos c_9, if_pos c_11, ← hq185]; unfold f_L_isShowSo_q185; rw [if_pos c_13, if_pos c_15, if_pos c_17, if_pos c_19, if_pos c_21, if_pos c_23, ← hq258_13]; unfold f_L_isShowSo_q258_13; rw [if_pos c_26]; try rfl), (Or.inl rfl)⟩ dL_isShowSo_288 hlocks
                            · refine lv_aload_n hx hb dL_isShowSo_273 rfl (lv_at hl 11 rfl) ?_
                              refine lv_iconst (v := 4) hx hb dL_isShowSo_274 (by decide) ?_
                              refine call_W (w1 := fun _ => wX9 z h a b c9 hh hh1 d0 d1 d2 d3 t9 t91 r9 r91 r92 r93 q258_13.2) len9 (fun _ => len9) (rV (As := [.int 4]) (rest := []) ⟨hx, hb, hml, hown, hts⟩ (c_X9_count l D z tM tS h a b c9 hh hh1 d0 d1 d2 d3 t9 t91 r9 r91 r92 r93 q258_13.2 4 H.size) (cwV 1 hts gL_isShowSo_X9_count rfl rfl rfl (by decide +kernel) ⟨Nat.le_trans (by decide) hRf, Nat.le_trans (by decide) hRl⟩) (ev_ok tM tS) (e_go (ev_ok tM tS) hE hD hS hA (List.range 128) (gN len9)) hK hP hD (List.range 128) nd128 (gN len9) (va_recv hK hP (ci := 9) (q0 := 0) rfl rfl) rfl hl.1 rfl (Nat.le_of_ble_eq_true rfl) dL_isShowSo_275 ⟨Nat.zero_le _, Nat.zero_le _⟩) hK hP hD hS hA (fun zr zu H locs hw hP hD hS => ?_)
                              have hw : zr = (f_X9_count q258_13.2 4) := hw
                              subst hw
                              have hP : va_P D vwCl (wX9 z h a b c9 hh hh1 d0 d1 d2 d3 t9 t91 r9 r91 r92 r93 q258_13.2) H := hP
                              have hD : va_D A (wX9 z h a b c9 hh hh1 d0 d1 d2 d3 t9 t91 r9 r91 r92 r93 q258_13.2) := hD
                              refine lv_iload hx hb dL_isShowSo_278 (lv_at hl 5 rfl) ?_
                              refine lv_icmp_ne (tgt := 287) hx hb dL_isShowSo_280 (by decide) (fun c_27 => ?_) (fun c_27 => ?_)
                              · refine lv_iconst (v := 0) hx hb dL_isShowSo_287 (by decide) ?_
                                subst hQ
                                exact ret_z q258_13.2 hx hb hr rfl hK hP hD hS rfl ⟨(by unfold f_L_isShowSo; rw [if_neg c_1, ← hq90]; unfold f_L_isShowSo_q90; rw [if_pos c_2, if_pos c_3, if_pos c_5, if_pos c_7, if_pos c_9, if_pos c_11, ← hq185]; unfold f_L_isShowSo_q185; rw [if_pos c_13, if_pos c_15, if_pos c_17, if_pos c_19, if_pos c_21, if_pos c_23, ← hq258_13]; unfold f_L_isShowSo_q258_13; rw [if_neg c_26, if_neg c_27]; try rfl), (Or.inl rfl)⟩ dL_isShowSo_288 hlocks
                              · refine lv_iconst (v := 1) hx hb dL_isShowSo_283 (by decide) ?_
                                refine lv_goto (tgt := 288) hx hb dL_isShowSo_284 (by decide) ?_
                                subst hQ
                                exact ret_z q258_13.2 hx hb hr rfl hK hP hD hS rfl ⟨(by unfold f_L_isShowSo; rw [if_neg c_1, ← hq90]; unfold f_L_isShowSo_q90; rw [if_pos c_2, if_pos c_3, if_pos c_5, if_pos c_7, if_pos c_9, if_pos c_11, ← hq185]; unfold f_L_isShowSo_q185; rw [if_pos c_13, if_pos c_15, if_pos c_17, if_pos c_19, if_pos c_21, if_pos c_23, ← hq258_13]; unfold f_L_isShowSo_q258_13; rw [if_neg c_26, if_pos c_27]; try rfl), (Or.inr rfl)⟩ dL_isShowSo_288 hlocks
    · refine lv_iload hx hb dL_isShowSo_99 (lv_at hl 0 rfl) ?_
      refine lv_ldc (v := (-10000010)) hx hb hown (hts (.constant RL 66 (-10000010)) (by decide +kernel)) dL_isShowSo_101 ?_
      refine lv_iload_n hx hb dL_isShowSo_103 rfl (lv_at hl 8 rfl) ?_
      refine lv_isub hx hb dL_isShowSo_104 ?_
      refine lv_icmp_ne (tgt := 122) hx hb dL_isShowSo_105 (by decide) (fun c_28 => ?_) (fun c_28 => ?_)
      · refine lv_iconst (v := 0) hx hb dL_isShowSo_122 (by decide) ?_
        subst hQ
        exact ret_z q90.2 hx hb hr rfl hK hP hD hS rfl ⟨(by unfold f_L_isShowSo; rw [if_neg c_1, ← hq90]; unfold f_L_isShowSo_q90; rw [if_neg c_2, if_neg c_28]; try rfl), (Or.inl rfl)⟩ dL_isShowSo_123 hlocks
      · refine lv_aload_n hx hb dL_isShowSo_108 rfl (lv_at hl 9 rfl) ?_
        refine lv_iconst (v := 4) hx hb dL_isShowSo_109 (by decide) ?_
        refine call_W (w1 := fun _ => wX9 z h a b c9 hh hh1 d0 d1 d2 d3 t9 t91 r9 r91 r92 r93 q90.2) len9 (fun _ => len9) (rV (As := [.int 4]) (rest := []) ⟨hx, hb, hml, hown, hts⟩ (c_X9_count l D z tM tS h a b c9 hh hh1 d0 d1 d2 d3 t9 t91 r9 r91 r92 r93 q90.2 4 H.size) (cwV 1 hts gL_isShowSo_X9_count rfl rfl rfl (by decide +kernel) ⟨Nat.le_trans (by decide) hRf, Nat.le_trans (by decide) hRl⟩) (ev_ok tM tS) (e_go (ev_ok tM tS) hE hD hS hA (List.range 128) (gN len9)) hK hP hD (List.range 128) nd128 (gN len9) (va_recv hK hP (ci := 9) (q0 := 0) rfl rfl) rfl hl.1 rfl (Nat.le_of_ble_eq_true rfl) dL_isShowSo_110 ⟨Nat.zero_le _, Nat.zero_le _⟩) hK hP hD hS hA (fun zr zu H locs hw hP hD hS => ?_)
        have hw : zr = (f_X9_count q90.2 4) := hw
        subst hw
        have hP : va_P D vwCl (wX9 z h a b c9 hh hh1 d0 d1 d2 d3 t9 t91 r9 r91 r92 r93 q90.2) H := hP
        have hD : va_D A (wX9 z h a b c9 hh hh1 d0 d1 d2 d3 t9 t91 r9 r91 r92 r93 q90.2) := hD
        refine lv_iload hx hb dL_isShowSo_113 (lv_at hl 3 rfl) ?_
        refine lv_icmp_ne (tgt := 122) hx hb dL_isShowSo_115 (by decide) (fun c_29 => ?_) (fun c_29 => ?_)
        · refine lv_iconst (v := 0) hx hb dL_isShowSo_122 (by decide) ?_
          subst hQ
          exact ret_z q90.2 hx hb hr rfl hK hP hD hS rfl ⟨(by unfold f_L_isShowSo; rw [if_neg c_1, ← hq90]; unfold f_L_isShowSo_q90; rw [if_neg c_2, if_pos c_28, if_neg c_29]; try rfl), (Or.inl rfl)⟩ dL_isShowSo_123 hlocks
        · refine lv_iconst (v := 1) hx hb dL_isShowSo_118 (by decide) ?_
          refine lv_goto (tgt := 123) hx hb dL_isShowSo_119 (by decide) ?_
          subst hQ
          exact ret_z q90.2 hx hb hr rfl hK hP hD hS rfl ⟨(by unfold f_L_isShowSo; rw [if_neg c_1, ← hq90]; unfold f_L_isShowSo_q90; rw [if_neg c_2, if_pos c_28, if_pos c_29]; try rfl), (Or.inr rfl)⟩ dL_isShowSo_123 hlocks
  · refine lv_aload_n hx hb dL_isShowSo_38 rfl (lv_at hl 3 rfl) ?_
    refine lv_iconst (v := 0) hx hb dL_isShowSo_39 (by decide) ?_
    refine lv_iconst (v := 1) hx hb dL_isShowSo_40 (by decide) ?_
    refine call_W (w1 := fun _ => wX9 z h a b c9 hh hh1 d0 d1 d2 d3 t9 t91 r9 r91 r92 r93 v) len9 (fun _ => len9) (rV (As := [.int 0, .int 1]) (rest := []) ⟨hx, hb, hml, hown, hts⟩ (c_X9_generator l D z tM tS h a b c9 hh hh1 d0 d1 d2 d3 t9 t91 r9 r91 r92 r93 v 0 1 H.size) (cwV 2 hts gL_isShowSo_X9_generator rfl rfl rfl (by decide +kernel) ⟨Nat.le_trans (by decide) hRf, Nat.le_trans (by decide) hRl⟩) (ev_ok tM tS) (e_go (ev_ok tM tS) hE hD hS hA (List.range 128) (gN len9)) hK hP hD (List.range 128) nd128 (gN len9) (va_recv hK hP (ci := 9) (q0 := 0) rfl rfl) rfl hl.1 rfl (Nat.le_of_ble_eq_true rfl) dL_isShowSo_41 ⟨Nat.zero_le _, Nat.zero_le _⟩) hK hP hD hS hA (fun zr zu H locs hw hP hD hS => ?_)
    have hw : zr = (f_X9_generator v 0 1) := hw
    subst hw
    have hP : va_P D vwCl (wX9 z h a b c9 hh hh1 d0 d1 d2 d3 t9 t91 r9 r91 r92 r93 v) H := hP
    have hD : va_D A (wX9 z h a b c9 hh hh1 d0 d1 d2 d3 t9 t91 r9 r91 r92 r93 v) := hD
    refine lv_iload hx hb dL_isShowSo_44 (lv_at hl 0 rfl) ?_
    refine lv_icmp_lt (tgt := 53) hx hb dL_isShowSo_46 (by decide) (fun c_30 => ?_) (fun c_30 => ?_)
    · refine lv_iconst (v := 1) hx hb dL_isShowSo_53 (by decide) ?_
      refine lv_istore (lv' := [(5, .int 1), (4, .int (f_X9_barn v x 4)), (3, .int (f_X9_ifPrice v x (f_X9_count v 11))), (2, .int (f_X9_barn v x 6)), (0, .ref h), (1, .int x)]) hx hb dL_isShowSo_54 hl (by decide) rfl (fun ls hl => ?_)
      refine lv_aload_n hx hb dL_isShowSo_56 rfl (lv_at hl 4 rfl) ?_
      refine lv_iload hx hb dL_isShowSo_57 (lv_at hl 0 rfl) ?_
      refine lv_iconst (v := 1) hx hb dL_isShowSo_59 (by decide) ?_
      refine call_W (w1 := fun _ => wX9 z h a b c9 hh hh1 d0 d1 d2 d3 t9 t91 r9 r91 r92 r93 v) len9 (fun _ => len9) (rV (As := [.int 1, .int 1]) (rest := []) ⟨hx, hb, hml, hown, hts⟩ (c_X9_generator l D z tM tS h a b c9 hh hh1 d0 d1 d2 d3 t9 t91 r9 r91 r92 r93 v 1 1 H.size) (cwV 2 hts gL_isShowSo_X9_generator rfl rfl rfl (by decide +kernel) ⟨Nat.le_trans (by decide) hRf, Nat.le_trans (by decide) hRl⟩) (ev_ok tM tS) (e_go (ev_ok tM tS) hE hD hS hA (List.range 128) (gN len9)) hK hP hD (List.range 128) nd128 (gN len9) (va_recv hK hP (ci := 9) (q0 := 0) rfl rfl) rfl hl.1 rfl (Nat.le_of_ble_eq_true rfl) dL_isShowSo_60 ⟨Nat.zero_le _, Nat.zero_le _⟩) hK hP hD hS hA (fun zr zu H locs hw hP hD hS => ?_)
      have hw : zr = (f_X9_generator v 1 1) := hw
      subst hw
      have hP : va_P D vwCl (wX9 z h a b c9 hh hh1 d0 d1 d2 d3 t9 t91 r9 r91 r92 r93 v) H := hP
      have hD : va_D A (wX9 z h a b c9 hh hh1 d0 d1 d2 d3 t9 t91 r9 r91 r92 r93 v) := hD
      refine lv_istore (lv' := [(6, .int (f_X9_generator v 1 1)), (5, .int 1), (4, .int (f_X9_barn v x 4)), (3, .int (f_X9_ifPrice v x (f_X9_count v 11))), (2, .int (f_X9_barn v x 6)), (0, .ref h), (1, .int x)]) hx hb dL_isShowSo_63 hl (by decide) rfl (fun ls hl => ?_)
      refine lv_aload_n hx hb dL_isShowSo_65 rfl (lv_at hl 5 rfl) ?_
      refine lv_iconst (v := 4) hx hb dL_isShowSo_66 (by decide) ?_
      refine call_W (w1 := fun _ => wX9 z h a b c9 hh hh1 d0 d1 d2 d3 t9 t91 r9 r91 r92 r93 v) len9 (fun _ => len9) (rV (As := [.int 4]) (rest := []) ⟨hx, hb, hml, hown, hts⟩ (c_X9_count l D z tM tS h a b c9 hh hh1 d0 d1 d2 d3 t9 t91 r9 r91 r92 r93 v 4 H.size) (cwV 1 hts gL_isShowSo_X9_count rfl rfl rfl (by decide +kernel) ⟨Nat.le_trans (by decide) hRf, Nat.le_trans (by decide) hRl⟩) (ev_ok tM tS) (e_go (ev_ok tM tS) hE hD hS hA (List.range 128) (gN len9)) hK hP hD (List.range 128) nd128 (gN len9) (va_recv hK hP (ci := 9) (q0 := 0) rfl rfl) rfl hl.1 rfl (Nat.le_of_ble_eq_true rfl) dL_isShowSo_67 ⟨Nat.zero_le _, Nat.zero_le _⟩) hK hP hD hS hA (fun zr zu H locs hw hP hD hS => ?_)
      have hw : zr = (f_X9_count v 4) := hw
      subst hw
      have hP : va_P D vwCl (wX9 z h a b c9 hh hh1 d0 d1 d2 d3 t9 t91 r9 r91 r92 r93 v) H := hP
      have hD : va_D A (wX9 z h a b c9 hh hh1 d0 d1 d2 d3 t9 t91 r9 r91 r92 r93 v) := hD
      refine lv_istore (lv' := [(7, .int (f_X9_count v 4)), (6, .int (f_X9_generator v 1 1)), (5, .int 1), (4, .int (f_X9_barn v x 4)), (3, .int (f_X9_ifPrice v x (f_X9_count v 11))), (2, .int (f_X9_barn v x 6)), (0, .ref h), (1, .int x)]) hx hb dL_isShowSo_70 hl (by decide) rfl (fun ls hl => ?_)
      refine lv_aload_n hx hb dL_isShowSo_72 rfl (lv_at hl 6 rfl) ?_
      refine lv_iload_n hx hb dL_isShowSo_73 rfl (lv_at hl 7 rfl) ?_
      refine lv_iconst (v := 5) hx hb dL_isShowSo_74 (by decide) ?_
      refine call_W (w1 := fun _ => wX9 z h a b c9 hh hh1 d0 d1 d2 d3 t9 t91 r9 r91 r92 r93 v) len9 (fun _ => len9) (rV (As := [.int x, .int 5]) (rest := []) ⟨hx, hb, hml, hown, hts⟩ (c_X9_barn l D z tM tS h a b c9 hh hh1 d0 d1 d2 d3 t9 t91 r9 r91 r92 r93 v x 5 H.size) (cwV 2 hts gL_isShowSo_X9_barn rfl rfl rfl (by decide +kernel) ⟨Nat.le_trans (by decide) hRf, Nat.le_trans (by decide) hRl⟩) (ev_ok tM tS) (e_go (ev_ok tM tS) hE hD hS hA (List.range 128) (gN len9)) hK hP hD (List.range 128) nd128 (gN len9) (va_recv hK hP (ci := 9) (q0 := 0) rfl rfl) rfl hl.1 rfl (Nat.le_of_ble_eq_true rfl) dL_isShowSo_75 ⟨Nat.zero_le _, Nat.zero_le _⟩) hK hP hD hS hA (fun zr zu H locs hw hP hD hS => ?_)
      have hw : zr = (f_X9_barn v x 5) := hw
      subst hw
      have hP : va_P D vwCl (wX9 z h a b c9 hh hh1 d0 d1 d2 d3 t9 t91 r9 r91 r92 r93 v) H := hP
      have hD : va_D A (wX9 z h a b c9 hh hh1 d0 d1 d2 d3 t9 t91 r9 r91 r92 r93 v) := hD
      refine lv_istore (lv' := [(8, .int (f_X9_barn v x 5)), (7, .int (f_X9_count v 4)), (6, .int (f_X9_generator v 1 1)), (5, .int 1), (4, .int (f_X9_barn v x 4)), (3, .int (f_X9_ifPrice v x (f_X9_count v 11))), (2, .int (f_X9_barn v x 6)), (0, .ref h), (1, .int x)]) hx hb dL_isShowSo_78 hl (by decide) rfl (fun ls hl => ?_)
      refine lv_aload_n hx hb dL_isShowSo_80 rfl (lv_at hl 7 rfl) ?_
      refine lv_bipush (v := 10) hx hb dL_isShowSo_81 (by decide) ?_
      refine call_W (w1 := fun _ => wX9 z h a b c9 hh hh1 d0 d1 d2 d3 t9 t91 r9 r91 r92 r93 v) len9 (fun _ => len9) (rV (As := [.int 10]) (rest := []) ⟨hx, hb, hml, hown, hts⟩ (c_X9_count l D z tM tS h a b c9 hh hh1 d0 d1 d2 d3 t9 t91 r9 r91 r92 r93 v 10 H.size) (cwV 1 hts gL_isShowSo_X9_count rfl rfl rfl (by decide +kernel) ⟨Nat.le_trans (by decide) hRf, Nat.le_trans (by decide) hRl⟩) (ev_ok tM tS) (e_go (ev_ok tM tS) hE hD hS hA (List.range 128) (gN len9)) hK hP hD (List.range 128) nd128 (gN len9) (va_recv hK hP (ci := 9) (q0 := 0) rfl rfl) rfl hl.1 rfl (Nat.le_of_ble_eq_true rfl) dL_isShowSo_83 ⟨Nat.zero_le _, Nat.zero_le _⟩) hK hP hD hS hA (fun zr zu H locs hw hP hD hS => ?_)
      have hw : zr = (f_X9_count v 10) := hw
      subst hw
      have hP : va_P D vwCl (wX9 z h a b c9 hh hh1 d0 d1 d2 d3 t9 t91 r9 r91 r92 r93 v) H := hP
      have hD : va_D A (wX9 z h a b c9 hh hh1 d0 d1 d2 d3 t9 t91 r9 r91 r92 r93 v) := hD
      refine lv_istore (lv' := [(9, .int (f_X9_count v 10)), (8, .int (f_X9_barn v x 5)), (7, .int (f_X9_count v 4)), (6, .int (f_X9_generator v 1 1)), (5, .int 1), (4, .int (f_X9_barn v x 4)), (3, .int (f_X9_ifPrice v x (f_X9_count v 11))), (2, .int (f_X9_barn v x 6)), (0, .ref h), (1, .int x)]) hx hb dL_isShowSo_86 hl (by decide) rfl (fun ls hl => ?_)
      refine lv_aload_n hx hb dL_isShowSo_88 rfl (lv_at hl 8 rfl) ?_
      refine lv_iload_n hx hb dL_isShowSo_89 rfl (lv_at hl 9 rfl) ?_
      refine call_W (w1 := fun zu => wX9 z h a b c9 hh hh1 d0 d1 d2 d3 t9 t91 r9 r91 r92 r93 zu) len9 (fun _ => len9) (rV (As := [.int x]) (rest := []) ⟨hx, hb, hml, hown, hts⟩ (c_X9_show l D z tM tS h a b c9 hh hh1 d0 d1 d2 d3 t9 t91 r9 r91 r92 r93 v x (iv_n hI).1 (iv_n hI).2 (iv_w hI) H.size) (cwV 1 hts gL_isShowSo_X9_show rfl rfl rfl (by decide +kernel) ⟨Nat.le_trans (by decide) hRf, Nat.le_trans (by decide) hRl⟩) (ev_ok tM tS) (e_go (ev_ok tM tS) hE hD hS hA (List.range 128) (gN len9)) hK hP hD (List.range 128) nd128 (gN len9) (va_recv hK hP (ci := 9) (q0 := 0) rfl rfl) rfl hl.1 rfl (Nat.le_of_ble_eq_true rfl) dL_isShowSo_90 ⟨Nat.zero_le _, Nat.zero_le _⟩) hK hP hD hS hA (fun zr zu H locs hw hP hD hS => ?_)
      have hw : (zr, zu) = (f_X9_show v x) := hw
      obtain ⟨q90_14, hq90_14⟩ : ∃ q9, q9 = (f_X9_show v x) := ⟨_, rfl⟩
      rw [← hq90_14] at hw
      obtain ⟨rfl, rfl⟩ := pe hw
      have hP : va_P D vwCl (wX9 z h a b c9 hh hh1 d0 d1 d2 d3 t9 t91 r9 r91 r92 r93 q90_14.2) H := hP
      have hD : va_D A (wX9 z h a b c9 hh hh1 d0 d1 d2 d3 t9 t91 r9 r91 r92 r93 q90_14.2) := hD
      have hI_q90_14 : IV q90_14.2 := by rw [hq90_14]; exact iv_show hI x
      refine lv_istore (lv' := [(10, .int q90_14.1), (9, .int (f_X9_count v 10)), (8, .int (f_X9_barn v x 5)), (7, .int (f_X9_count v 4)), (6, .int (f_X9_generator v 1 1)), (5, .int 1), (4, .int (f_X9_barn v x 4)), (3, .int (f_X9_ifPrice v x (f_X9_count v 11))), (2, .int (f_X9_barn v x 6)), (0, .ref h), (1, .int x)]) hx hb dL_isShowSo_93 hl (by decide) rfl (fun ls hl => ?_)
      refine lv_iload_n hx hb dL_isShowSo_95 rfl (lv_at hl 8 rfl) ?_
      refine lv_if_le (tgt := 124) hx hb dL_isShowSo_96 (by decide) (fun c_31 => ?_) (fun c_31 => ?_)
      · refine lv_iload hx hb dL_isShowSo_124 (lv_at hl 0 rfl) ?_
        refine lv_iload_n hx hb dL_isShowSo_126 rfl (lv_at hl 7 rfl) ?_
        refine lv_icmp_ne (tgt := 254) hx hb dL_isShowSo_127 (by decide) (fun c_32 => ?_) (fun c_32 => ?_)
        · refine lv_iconst (v := 0) hx hb dL_isShowSo_254 (by decide) ?_
          refine lv_istore (lv' := [(11, .int 0), (10, .int q90_14.1), (9, .int (f_X9_count v 10)), (8, .int (f_X9_barn v x 5)), (7, .int (f_X9_count v 4)), (6, .int (f_X9_generator v 1 1)), (5, .int 1), (4, .int (f_X9_barn v x 4)), (3, .int (f_X9_ifPrice v x (f_X9_count v 11))), (2, .int (f_X9_barn v x 6)), (0, .ref h), (1, .int x)]) hx hb dL_isShowSo_255 hl (by decide) rfl (fun ls hl => ?_)
          refine lv_aload_n hx hb dL_isShowSo_257 rfl (lv_at hl 10 rfl) ?_
          refine call_W (w1 := fun zu => wX9 z h a b c9 hh hh1 d0 d1 d2 d3 t9 t91 r9 r91 r92 r93 zu) len9 (fun _ => len9) (rV (As := []) (rest := []) ⟨hx, hb, hml, hown, hts⟩ (c_X9_undo l D z tM tS h a b c9 hh hh1 d0 d1 d2 d3 t9 t91 r9 r91 r92 r93 q90_14.2 (iv_n hI_q90_14).1 (iv_n hI_q90_14).2 H.size) (cwV 0 hts gL_isShowSo_X9_undo rfl rfl rfl (by decide +kernel) ⟨Nat.le_trans (by decide) hRf, Nat.le_trans (by decide) hRl⟩) (ev_ok tM tS) (e_go (ev_ok tM tS) hE hD hS hA (List.range 128) (gN len9)) hK hP hD (List.range 128) nd128 (gN len9) (va_recv hK hP (ci := 9) (q0 := 0) rfl rfl) rfl hl.1 rfl (Nat.le_of_ble_eq_true rfl) dL_isShowSo_258 ⟨Nat.zero_le _, Nat.zero_le _⟩) hK hP hD hS hA (fun zr zu H locs hw hP hD hS => ?_)
          have hw : (zr, zu) = (f_X9_undo q90_14.2) := hw
          obtain ⟨q258_15, hq258_15⟩ : ∃ q9, q9 = (f_X9_undo q90_14.2) := ⟨_, rfl⟩
          rw [← hq258_15] at hw
          obtain ⟨rfl, rfl⟩ := pe hw
          have hP : va_P D vwCl (wX9 z h a b c9 hh hh1 d0 d1 d2 d3 t9 t91 r9 r91 r92 r93 q258_15.2) H := hP
          have hD : va_D A (wX9 z h a b c9 hh hh1 d0 d1 d2 d3 t9 t91 r9 r91 r92 r93 q258_15.2) := hD
          refine lv_istore (lv' := [(12, .int q258_15.1), (11, .int 0), (10, .int q90_14.1), (9, .int (f_X9_count v 10)), (8, .int (f_X9_barn v x 5)), (7, .int (f_X9_count v 4)), (6, .int (f_X9_generator v 1 1)), (5, .int 1), (4, .int (f_X9_barn v x 4)), (3, .int (f_X9_ifPrice v x (f_X9_count v 11))), (2, .int (f_X9_barn v x 6)), (0, .ref h), (1, .int x)]) hx hb dL_isShowSo_261 hl (by decide) rfl (fun ls hl => ?_)
          refine lv_iload hx hb dL_isShowSo_263 (lv_at hl 1 rfl) ?_
          refine lv_if_eq (tgt := 287) hx hb dL_isShowSo_265 (by decide) (fun c_33 => ?_) (fun c_33 => absurd c_33 (by decide))
          refine lv_iconst (v := 0) hx hb dL_isShowSo_287 (by decide) ?_
          subst hQ
          exact ret_z q258_15.2 hx hb hr rfl hK hP hD hS rfl ⟨(by unfold f_L_isShowSo; rw [if_pos c_1, if_pos c_30, ← hq90_14]; unfold f_L_isShowSo_q90_14; rw [if_pos c_31, if_neg c_32, ← hq258_15]; unfold f_L_isShowSo_q258_15; try rfl), (Or.inl rfl)⟩ dL_isShowSo_288 hlocks
        · refine lv_aload_n hx hb dL_isShowSo_130 rfl (lv_at hl 9 rfl) ?_
          refine lv_iconst (v := 4) hx hb dL_isShowSo_131 (by decide) ?_
          refine call_W (w1 := fun _ => wX9 z h a b c9 hh hh1 d0 d1 d2 d3 t9 t91 r9 r91 r92 r93 q90_14.2) len9 (fun _ => len9) (rV (As := [.int 4]) (rest := []) ⟨hx, hb, hml, hown, hts⟩ (c_X9_count l D z tM tS h a b c9 hh hh1 d0 d1 d2 d3 t9 t91 r9 r91 r92 r93 q90_14.2 4 H.size) (cwV 1 hts gL_isShowSo_X9_count rfl rfl rfl (by decide +kernel) ⟨Nat.le_trans (by decide) hRf, Nat.le_trans (by decide) hRl⟩) (ev_ok tM tS) (e_go (ev_ok tM tS) hE hD hS hA (List.range 128) (gN len9)) hK hP hD (List.range 128) nd128 (gN len9) (va_recv hK hP (ci := 9) (q0 := 0) rfl rfl) rfl hl.1 rfl (Nat.le_of_ble_eq_true rfl) dL_isShowSo_132 ⟨Nat.zero_le _, Nat.zero_le _⟩) hK hP hD hS hA (fun zr zu H locs hw hP hD hS => ?_)
          have hw : zr = (f_X9_count q90_14.2 4) := hw
          subst hw
          have hP : va_P D vwCl (wX9 z h a b c9 hh hh1 d0 d1 d2 d3 t9 t91 r9 r91 r92 r93 q90_14.2) H := hP
          have hD : va_D A (wX9 z h a b c9 hh hh1 d0 d1 d2 d3 t9 t91 r9 r91 r92 r93 q90_14.2) := hD
          refine lv_iload hx hb dL_isShowSo_135 (lv_at hl 3 rfl) ?_
          refine lv_iload hx hb dL_isShowSo_137 (lv_at hl 0 rfl) ?_
          refine lv_iadd hx hb dL_isShowSo_139 ?_
          refine lv_icmp_ne (tgt := 254) hx hb dL_isShowSo_140 (by decide) (fun c_34 => ?_) (fun c_34 => ?_)
          · refine lv_iconst (v := 0) hx hb dL_isShowSo_254 (by decide) ?_
            refine lv_istore (lv' := [(11, .int 0), (10, .int q90_14.1), (9, .int (f_X9_count v 10)), (8, .int (f_X9_barn v x 5)), (7, .int (f_X9_count v 4)), (6, .int (f_X9_generator v 1 1)), (5, .int 1), (4, .int (f_X9_barn v x 4)), (3, .int (f_X9_ifPrice v x (f_X9_count v 11))), (2, .int (f_X9_barn v x 6)), (0, .ref h), (1, .int x)]) hx hb dL_isShowSo_255 hl (by decide) rfl (fun ls hl => ?_)
            refine lv_aload_n hx hb dL_isShowSo_257 rfl (lv_at hl 10 rfl) ?_
            refine call_W (w1 := fun zu => wX9 z h a b c9 hh hh1 d0 d1 d2 d3 t9 t91 r9 r91 r92 r93 zu) len9 (fun _ => len9) (rV (As := []) (rest := []) ⟨hx, hb, hml, hown, hts⟩ (c_X9_undo l D z tM tS h a b c9 hh hh1 d0 d1 d2 d3 t9 t91 r9 r91 r92 r93 q90_14.2 (iv_n hI_q90_14).1 (iv_n hI_q90_14).2 H.size) (cwV 0 hts gL_isShowSo_X9_undo rfl rfl rfl (by decide +kernel) ⟨Nat.le_trans (by decide) hRf, Nat.le_trans (by decide) hRl⟩) (ev_ok tM tS) (e_go (ev_ok tM tS) hE hD hS hA (List.range 128) (gN len9)) hK hP hD (List.range 128) nd128 (gN len9) (va_recv hK hP (ci := 9) (q0 := 0) rfl rfl) rfl hl.1 rfl (Nat.le_of_ble_eq_true rfl) dL_isShowSo_258 ⟨Nat.zero_le _, Nat.zero_le _⟩) hK hP hD hS hA (fun zr zu H locs hw hP hD hS => ?_)
            have hw : (zr, zu) = (f_X9_undo q90_14.2) := hw
            obtain ⟨q258_16, hq258_16⟩ : ∃ q9, q9 = (f_X9_undo q90_14.2) := ⟨_, rfl⟩
            rw [← hq258_16] at hw
            obtain ⟨rfl, rfl⟩ := pe hw
            have hP : va_P D vwCl (wX9 z h a b c9 hh hh1 d0 d1 d2 d3 t9 t91 r9 r91 r92 r93 q258_16.2) H := hP
            have hD : va_D A (wX9 z h a b c9 hh hh1 d0 d1 d2 d3 t9 t91 r9 r91 r92 r93 q258_16.2) := hD
            refine lv_istore (lv' := [(12, .int q258_16.1), (11, .int 0), (10, .int q90_14.1), (9, .int (f_X9_count v 10)), (8, .int (f_X9_barn v x 5)), (7, .int (f_X9_count v 4)), (6, .int (f_X9_generator v 1 1)), (5, .int 1), (4, .int (f_X9_barn v x 4)), (3, .int (f_X9_ifPrice v x (f_X9_count v 11))), (2, .int (f_X9_barn v x 6)), (0, .ref h), (1, .int x)]) hx hb dL_isShowSo_261 hl (by decide) rfl (fun ls hl => ?_)
            refine lv_iload hx hb dL_isShowSo_263 (lv_at hl 1 rfl) ?_
            refine lv_if_eq (tgt := 287) hx hb dL_isShowSo_265 (by decide) (fun c_35 => ?_) (fun c_35 => absurd c_35 (by decide))
            refine lv_iconst (v := 0) hx hb dL_isShowSo_287 (by decide) ?_
            subst hQ
            exact ret_z q258_16.2 hx hb hr rfl hK hP hD hS rfl ⟨(by unfold f_L_isShowSo; rw [if_pos c_1, if_pos c_30, ← hq90_14]; unfold f_L_isShowSo_q90_14; rw [if_pos c_31, if_pos c_32, if_neg c_34, ← hq258_16]; unfold f_L_isShowSo_q258_16; try rfl), (Or.inl rfl)⟩ dL_isShowSo_288 hlocks
          · refine lv_aload_n hx hb dL_isShowSo_143 rfl (lv_at hl 9 rfl) ?_
            refine lv_iload hx hb dL_isShowSo_144 (lv_at hl 5 rfl) ?_
            refine lv_iconst (v := 1) hx hb dL_isShowSo_146 (by decide) ?_
            refine call_W (w1 := fun _ => wX9 z h a b c9 hh hh1 d0 d1 d2 d3 t9 t91 r9 r91 r92 r93 q90_14.2) len9 (fun _ => len9) (rV (As := [.int 1, .int 1]) (rest := []) ⟨hx, hb, hml, hown, hts⟩ (c_X9_generator l D z tM tS h a b c9 hh hh1 d0 d1 d2 d3 t9 t91 r9 r91 r92 r93 q90_14.2 1 1 H.size) (cwV 2 hts gL_isShowSo_X9_generator rfl rfl rfl (by decide +kernel) ⟨Nat.le_trans (by decide) hRf, Nat.le_trans (by decide) hRl⟩) (ev_ok tM tS) (e_go (ev_ok tM tS) hE hD hS hA (List.range 128) (gN len9)) hK hP hD (List.range 128) nd128 (gN len9) (va_recv hK hP (ci := 9) (q0 := 0) rfl rfl) rfl hl.1 rfl (Nat.le_of_ble_eq_true rfl) dL_isShowSo_147 ⟨Nat.zero_le _, Nat.zero_le _⟩) hK hP hD hS hA (fun zr zu H locs hw hP hD hS => ?_)
            have hw : zr = (f_X9_generator q90_14.2 1 1) := hw
            subst hw
            have hP : va_P D vwCl (wX9 z h a b c9 hh hh1 d0 d1 d2 d3 t9 t91 r9 r91 r92 r93 q90_14.2) H := hP
            have hD : va_D A (wX9 z h a b c9 hh hh1 d0 d1 d2 d3 t9 t91 r9 r91 r92 r93 q90_14.2) := hD
            refine lv_iload hx hb dL_isShowSo_150 (lv_at hl 4 rfl) ?_
            refine lv_iload hx hb dL_isShowSo_152 (lv_at hl 6 rfl) ?_
            refine lv_isub hx hb dL_isShowSo_154 ?_
            refine lv_icmp_ne (tgt := 254) hx hb dL_isShowSo_155 (by decide) (fun c_36 => ?_) (fun c_36 => ?_)
            · refine lv_iconst (v := 0) hx hb dL_isShowSo_254 (by decide) ?_
              refine lv_istore (lv' := [(11, .int 0), (10, .int q90_14.1), (9, .int (f_X9_count v 10)), (8, .int (f_X9_barn v x 5)), (7, .int (f_X9_count v 4)), (6, .int (f_X9_generator v 1 1)), (5, .int 1), (4, .int (f_X9_barn v x 4)), (3, .int (f_X9_ifPrice v x (f_X9_count v 11))), (2, .int (f_X9_barn v x 6)), (0, .ref h), (1, .int x)]) hx hb dL_isShowSo_255 hl (by decide) rfl (fun ls hl => ?_)
              refine lv_aload_n hx hb dL_isShowSo_257 rfl (lv_at hl 10 rfl) ?_
              refine call_W (w1 := fun zu => wX9 z h a b c9 hh hh1 d0 d1 d2 d3 t9 t91 r9 r91 r92 r93 zu) len9 (fun _ => len9) (rV (As := []) (rest := []) ⟨hx, hb, hml, hown, hts⟩ (c_X9_undo l D z tM tS h a b c9 hh hh1 d0 d1 d2 d3 t9 t91 r9 r91 r92 r93 q90_14.2 (iv_n hI_q90_14).1 (iv_n hI_q90_14).2 H.size) (cwV 0 hts gL_isShowSo_X9_undo rfl rfl rfl (by decide +kernel) ⟨Nat.le_trans (by decide) hRf, Nat.le_trans (by decide) hRl⟩) (ev_ok tM tS) (e_go (ev_ok tM tS) hE hD hS hA (List.range 128) (gN len9)) hK hP hD (List.range 128) nd128 (gN len9) (va_recv hK hP (ci := 9) (q0 := 0) rfl rfl) rfl hl.1 rfl (Nat.le_of_ble_eq_true rfl) dL_isShowSo_258 ⟨Nat.zero_le _, Nat.zero_le _⟩) hK hP hD hS hA (fun zr zu H locs hw hP hD hS => ?_)
              have hw : (zr, zu) = (f_X9_undo q90_14.2) := hw
              obtain ⟨q258_17, hq258_17⟩ : ∃ q9, q9 = (f_X9_undo q90_14.2) := ⟨_, rfl⟩
              rw [← hq258_17] at hw
              obtain ⟨rfl, rfl⟩ := pe hw
              have hP : va_P D vwCl (wX9 z h a b c9 hh hh1 d0 d1 d2 d3 t9 t91 r9 r91 r92 r93 q258_17.2) H := hP
              have hD : va_D A (wX9 z h a b c9 hh hh1 d0 d1 d2 d3 t9 t91 r9 r91 r92 r93 q258_17.2) := hD
              refine lv_istore (lv' := [(12, .int q258_17.1), (11, .int 0), (10, .int q90_14.1), (9, .int (f_X9_count v 10)), (8, .int (f_X9_barn v x 5)), (7, .int (f_X9_count v 4)), (6, .int (f_X9_generator v 1 1)), (5, .int 1), (4, .int (f_X9_barn v x 4)), (3, .int (f_X9_ifPrice v x (f_X9_count v 11))), (2, .int (f_X9_barn v x 6)), (0, .ref h), (1, .int x)]) hx hb dL_isShowSo_261 hl (by decide) rfl (fun ls hl => ?_)
              refine lv_iload hx hb dL_isShowSo_263 (lv_at hl 1 rfl) ?_
              refine lv_if_eq (tgt := 287) hx hb dL_isShowSo_265 (by decide) (fun c_37 => ?_) (fun c_37 => absurd c_37 (by decide))
              refine lv_iconst (v := 0) hx hb dL_isShowSo_287 (by decide) ?_
              subst hQ
              exact ret_z q258_17.2 hx hb hr rfl hK hP hD hS rfl ⟨(by unfold f_L_isShowSo; rw [if_pos c_1, if_pos c_30, ← hq90_14]; unfold f_L_isShowSo_q90_14; rw [if_pos c_31, if_pos c_32, if_pos c_34, if_neg c_36, ← hq258_17]; unfold f_L_isShowSo_q258_17; try rfl), (Or.inl rfl)⟩ dL_isShowSo_288 hlocks
            · refine lv_aload_n hx hb dL_isShowSo_158 rfl (lv_at hl 9 rfl) ?_
              refine lv_bipush (v := 10) hx hb dL_isShowSo_159 (by decide) ?_
              refine call_W (w1 := fun _ => wX9 z h a b c9 hh hh1 d0 d1 d2 d3 t9 t91 r9 r91 r92 r93 q90_14.2) len9 (fun _ => len9) (rV (As := [.int 10]) (rest := []) ⟨hx, hb, hml, hown, hts⟩ (c_X9_count l D z tM tS h a b c9 hh hh1 d0 d1 d2 d3 t9 t91 r9 r91 r92 r93 q90_14.2 10 H.size) (cwV 1 hts gL_isShowSo_X9_count rfl rfl rfl (by decide +kernel) ⟨Nat.le_trans (by decide) hRf, Nat.le_trans (by decide) hRl⟩) (ev_ok tM tS) (e_go (ev_ok tM tS) hE hD hS hA (List.range 128) (gN len9)) hK hP hD (List.range 128) nd128 (gN len9) (va_recv hK hP (ci := 9) (q0 := 0) rfl rfl) rfl hl.1 rfl (Nat.le_of_ble_eq_true rfl) dL_isShowSo_161 ⟨Nat.zero_le _, Nat.zero_le _⟩) hK hP hD hS hA (fun zr zu H locs hw hP hD hS => ?_)
              have hw : zr = (f_X9_count q90_14.2 10) := hw
              subst hw
              have hP : va_P D vwCl (wX9 z h a b c9 hh hh1 d0 d1 d2 d3 t9 t91 r9 r91 r92 r93 q90_14.2) H := hP
              have hD : va_D A (wX9 z h a b c9 hh hh1 d0 d1 d2 d3 t9 t91 r9 r91 r92 r93 q90_14.2) := hD
              refine lv_iload hx hb dL_isShowSo_164 (lv_at hl 1 rfl) ?_
              refine lv_iload hx hb dL_isShowSo_166 (lv_at hl 2 rfl) ?_
              refine lv_iadd hx hb dL_isShowSo_168 ?_
              refine lv_icmp_ne (tgt := 254) hx hb dL_isShowSo_169 (by decide) (fun c_38 => ?_) (fun c_38 => ?_)
              · refine lv_iconst (v := 0) hx hb dL_isShowSo_254 (by decide) ?_
                refine lv_istore (lv' := [(11, .int 0), (10, .int q90_14.1), (9, .int (f_X9_count v 10)), (8, .int (f_X9_barn v x 5)), (7, .int (f_X9_count v 4)), (6, .int (f_X9_generator v 1 1)), (5, .int 1), (4, .int (f_X9_barn v x 4)), (3, .int (f_X9_ifPrice v x (f_X9_count v 11))), (2, .int (f_X9_barn v x 6)), (0, .ref h), (1, .int x)]) hx hb dL_isShowSo_255 hl (by decide) rfl (fun ls hl => ?_)
                refine lv_aload_n hx hb dL_isShowSo_257 rfl (lv_at hl 10 rfl) ?_
                refine call_W (w1 := fun zu => wX9 z h a b c9 hh hh1 d0 d1 d2 d3 t9 t91 r9 r91 r92 r93 zu) len9 (fun _ => len9) (rV (As := []) (rest := []) ⟨hx, hb, hml, hown, hts⟩ (c_X9_undo l D z tM tS h a b c9 hh hh1 d0 d1 d2 d3 t9 t91 r9 r91 r92 r93 q90_14.2 (iv_n hI_q90_14).1 (iv_n hI_q90_14).2 H.size) (cwV 0 hts gL_isShowSo_X9_undo rfl rfl rfl (by decide +kernel) ⟨Nat.le_trans (by decide) hRf, Nat.le_trans (by decide) hRl⟩) (ev_ok tM tS) (e_go (ev_ok tM tS) hE hD hS hA (List.range 128) (gN len9)) hK hP hD (List.range 128) nd128 (gN len9) (va_recv hK hP (ci := 9) (q0 := 0) rfl rfl) rfl hl.1 rfl (Nat.le_of_ble_eq_true rfl) dL_isShowSo_258 ⟨Nat.zero_le _, Nat.zero_le _⟩) hK hP hD hS hA (fun zr zu H locs hw hP hD hS => ?_)
                have hw : (zr, zu) = (f_X9_undo q90_14.2) := hw
                obtain ⟨q258_18, hq258_18⟩ : ∃ q9, q9 = (f_X9_undo q90_14.2) := ⟨_, rfl⟩
                rw [← hq258_18] at hw
                obtain ⟨rfl, rfl⟩ := pe hw
                have hP : va_P D vwCl (wX9 z h a b c9 hh hh1 d0 d1 d2 d3 t9 t91 r9 r91 r92 r93 q258_18.2) H := hP
                have hD : va_D A (wX9 z h a b c9 hh hh1 d0 d1 d2 d3 t9 t91 r9 r91 r92 r93 q258_18.2) := hD
                refine lv_istore (lv' := [(12, .int q258_18.1), (11, .int 0), (10, .int q90_14.1), (9, .int (f_X9_count v 10)), (8, .int (f_X9_barn v x 5)), (7, .int (f_X9_count v 4)), (6, .int (f_X9_generator v 1 1)), (5, .int 1), (4, .int (f_X9_barn v x 4)), (3, .int (f_X9_ifPrice v x (f_X9_count v 11))), (2, .int (f_X9_barn v x 6)), (0, .ref h), (1, .int x)]) hx hb dL_isShowSo_261 hl (by decide) rfl (fun ls hl => ?_)
                refine lv_iload hx hb dL_isShowSo_263 (lv_at hl 1 rfl) ?_
                refine lv_if_eq (tgt := 287) hx hb dL_isShowSo_265 (by decide) (fun c_39 => ?_) (fun c_39 => absurd c_39 (by decide))
                refine lv_iconst (v := 0) hx hb dL_isShowSo_287 (by decide) ?_
                subst hQ
                exact ret_z q258_18.2 hx hb hr rfl hK hP hD hS rfl ⟨(by unfold f_L_isShowSo; rw [if_pos c_1, if_pos c_30, ← hq90_14]; unfold f_L_isShowSo_q90_14; rw [if_pos c_31, if_pos c_32, if_pos c_34, if_pos c_36, if_neg c_38, ← hq258_18]; unfold f_L_isShowSo_q258_18; try rfl), (Or.inl rfl)⟩ dL_isShowSo_288 hlocks
              · refine lv_aload_n hx hb dL_isShowSo_172 rfl (lv_at hl 9 rfl) ?_
                refine lv_iload_n hx hb dL_isShowSo_173 rfl (lv_at hl 10 rfl) ?_
                refine lv_bipush (v := 6) hx hb dL_isShowSo_174 (by decide) ?_
                refine call_W (w1 := fun _ => wX9 z h a b c9 hh hh1 d0 d1 d2 d3 t9 t91 r9 r91 r92 r93 q90_14.2) len9 (fun _ => len9) (rV (As := [.int x, .int 6]) (rest := []) ⟨hx, hb, hml, hown, hts⟩ (c_X9_barn l D z tM tS h a b c9 hh hh1 d0 d1 d2 d3 t9 t91 r9 r91 r92 r93 q90_14.2 x 6 H.size) (cwV 2 hts gL_isShowSo_X9_barn rfl rfl rfl (by decide +kernel) ⟨Nat.le_trans (by decide) hRf, Nat.le_trans (by decide) hRl⟩) (ev_ok tM tS) (e_go (ev_ok tM tS) hE hD hS hA (List.range 128) (gN len9)) hK hP hD (List.range 128) nd128 (gN len9) (va_recv hK hP (ci := 9) (q0 := 0) rfl rfl) rfl hl.1 rfl (Nat.le_of_ble_eq_true rfl) dL_isShowSo_176 ⟨Nat.zero_le _, Nat.zero_le _⟩) hK hP hD hS hA (fun zr zu H locs hw hP hD hS => ?_)
                have hw : zr = (f_X9_barn q90_14.2 x 6) := hw
                subst hw
                have hP : va_P D vwCl (wX9 z h a b c9 hh hh1 d0 d1 d2 d3 t9 t91 r9 r91 r92 r93 q90_14.2) H := hP
                have hD : va_D A (wX9 z h a b c9 hh hh1 d0 d1 d2 d3 t9 t91 r9 r91 r92 r93 q90_14.2) := hD
                refine lv_iconst (v := 1) hx hb dL_isShowSo_179 (by decide) ?_
                refine lv_icmp_ne (tgt := 254) hx hb dL_isShowSo_180 (by decide) (fun c_40 => ?_) (fun c_40 => ?_)
                · refine lv_iconst (v := 0) hx hb dL_isShowSo_254 (by decide) ?_
                  refine lv_istore (lv' := [(11, .int 0), (10, .int q90_14.1), (9, .int (f_X9_count v 10)), (8, .int (f_X9_barn v x 5)), (7, .int (f_X9_count v 4)), (6, .int (f_X9_generator v 1 1)), (5, .int 1), (4, .int (f_X9_barn v x 4)), (3, .int (f_X9_ifPrice v x (f_X9_count v 11))), (2, .int (f_X9_barn v x 6)), (0, .ref h), (1, .int x)]) hx hb dL_isShowSo_255 hl (by decide) rfl (fun ls hl => ?_)
                  refine lv_aload_n hx hb dL_isShowSo_257 rfl (lv_at hl 10 rfl) ?_
                  refine call_W (w1 := fun zu => wX9 z h a b c9 hh hh1 d0 d1 d2 d3 t9 t91 r9 r91 r92 r93 zu) len9 (fun _ => len9) (rV (As := []) (rest := []) ⟨hx, hb, hml, hown, hts⟩ (c_X9_undo l D z tM tS h a b c9 hh hh1 d0 d1 d2 d3 t9 t91 r9 r91 r92 r93 q90_14.2 (iv_n hI_q90_14).1 (iv_n hI_q90_14).2 H.size) (cwV 0 hts gL_isShowSo_X9_undo rfl rfl rfl (by decide +kernel) ⟨Nat.le_trans (by decide) hRf, Nat.le_trans (by decide) hRl⟩) (ev_ok tM tS) (e_go (ev_ok tM tS) hE hD hS hA (List.range 128) (gN len9)) hK hP hD (List.range 128) nd128 (gN len9) (va_recv hK hP (ci := 9) (q0 := 0) rfl rfl) rfl hl.1 rfl (Nat.le_of_ble_eq_true rfl) dL_isShowSo_258 ⟨Nat.zero_le _, Nat.zero_le _⟩) hK hP hD hS hA (fun zr zu H locs hw hP hD hS => ?_)
                  have hw : (zr, zu) = (f_X9_undo q90_14.2) := hw
                  obtain ⟨q258_19, hq258_19⟩ : ∃ q9, q9 = (f_X9_undo q90_14.2) := ⟨_, rfl⟩
                  rw [← hq258_19] at hw
                  obtain ⟨rfl, rfl⟩ := pe hw
                  have hP : va_P D vwCl (wX9 z h a b c9 hh hh1 d0 d1 d2 d3 t9 t91 r9 r91 r92 r93 q258_19.2) H := hP
                  have hD : va_D A (wX9 z h a b c9 hh hh1 d0 d1 d2 d3 t9 t91 r9 r91 r92 r93 q258_19.2) := hD
                  refine lv_istore (lv' := [(12, .int q258_19.1), (11, .int 0), (10, .int q90_14.1), (9, .int (f_X9_count v 10)), (8, .int (f_X9_barn v x 5)), (7, .int (f_X9_count v 4)), (6, .int (f_X9_generator v 1 1)), (5, .int 1), (4, .int (f_X9_barn v x 4)), (3, .int (f_X9_ifPrice v x (f_X9_count v 11))), (2, .int (f_X9_barn v x 6)), (0, .ref h), (1, .int x)]) hx hb dL_isShowSo_261 hl (by decide) rfl (fun ls hl => ?_)
                  refine lv_iload hx hb dL_isShowSo_263 (lv_at hl 1 rfl) ?_
                  refine lv_if_eq (tgt := 287) hx hb dL_isShowSo_265 (by decide) (fun c_41 => ?_) (fun c_41 => absurd c_41 (by decide))
                  refine lv_iconst (v := 0) hx hb dL_isShowSo_287 (by decide) ?_
                  subst hQ
                  exact ret_z q258_19.2 hx hb hr rfl hK hP hD hS rfl ⟨(by unfold f_L_isShowSo; rw [if_pos c_1, if_pos c_30, ← hq90_14]; unfold f_L_isShowSo_q90_14; rw [if_pos c_31, if_pos c_32, if_pos c_34, if_pos c_36, if_pos c_38, if_neg c_40, ← hq258_19]; unfold f_L_isShowSo_q258_19; try rfl), (Or.inl rfl)⟩ dL_isShowSo_288 hlocks
                · refine lv_aload_n hx hb dL_isShowSo_183 rfl (lv_at hl 9 rfl) ?_
                  refine lv_iload_n hx hb dL_isShowSo_184 rfl (lv_at hl 10 rfl) ?_
                  refine call_W (w1 := fun zu => wX9 z h a b c9 hh hh1 d0 d1 d2 d3 t9 t91 r9 r91 r92 r93 zu) len9 (fun _ => len9) (rV (As := [.int x]) (rest := []) ⟨hx, hb, hml, hown, hts⟩ (c_X9_show l D z tM tS h a b c9 hh hh1 d0 d1 d2 d3 t9 t91 r9 r91 r92 r93 q90_14.2 x (iv_n hI_q90_14).1 (iv_n hI_q90_14).2 (iv_w hI_q90_14) H.size) (cwV 1 hts gL_isShowSo_X9_show rfl rfl rfl (by decide +kernel) ⟨Nat.le_trans (by decide) hRf, Nat.le_trans (by decide) hRl⟩) (ev_ok tM tS) (e_go (ev_ok tM tS) hE hD hS hA (List.range 128) (gN len9)) hK hP hD (List.range 128) nd128 (gN len9) (va_recv hK hP (ci := 9) (q0 := 0) rfl rfl) rfl hl.1 rfl (Nat.le_of_ble_eq_true rfl) dL_isShowSo_185 ⟨Nat.zero_le _, Nat.zero_le _⟩) hK hP hD hS hA (fun zr zu H locs hw hP hD hS => ?_)
                  have hw : (zr, zu) = (f_X9_show q90_14.2 x) := hw
                  obtain ⟨q185_20, hq185_20⟩ : ∃ q9, q9 = (f_X9_show q90_14.2 x) := ⟨_, rfl⟩
                  rw [← hq185_20] at hw
                  obtain ⟨rfl, rfl⟩ := pe hw
                  have hP : va_P D vwCl (wX9 z h a b c9 hh hh1 d0 d1 d2 d3 t9 t91 r9 r91 r92 r93 q185_20.2) H := hP
                  have hD : va_D A (wX9 z h a b c9 hh hh1 d0 d1 d2 d3 t9 t91 r9 r91 r92 r93 q185_20.2) := hD
                  have hI_q185_20 : IV q185_20.2 := by rw [hq185_20]; exact iv_show hI_q90_14 x
                  refine lv_ldc (v := (-10000011)) hx hb hown (hts (.constant RL 67 (-10000011)) (by decide +kernel)) dL_isShowSo_188 ?_
                  refine lv_icmp_ne (tgt := 254) hx hb dL_isShowSo_190 (by decide) (fun c_42 => ?_) (fun c_42 => ?_)
                  · refine lv_iconst (v := 0) hx hb dL_isShowSo_254 (by decide) ?_
                    refine lv_istore (lv' := [(11, .int 0), (10, .int q90_14.1), (9, .int (f_X9_count v 10)), (8, .int (f_X9_barn v x 5)), (7, .int (f_X9_count v 4)), (6, .int (f_X9_generator v 1 1)), (5, .int 1), (4, .int (f_X9_barn v x 4)), (3, .int (f_X9_ifPrice v x (f_X9_count v 11))), (2, .int (f_X9_barn v x 6)), (0, .ref h), (1, .int x)]) hx hb dL_isShowSo_255 hl (by decide) rfl (fun ls hl => ?_)
                    refine lv_aload_n hx hb dL_isShowSo_257 rfl (lv_at hl 10 rfl) ?_
                    refine call_W (w1 := fun zu => wX9 z h a b c9 hh hh1 d0 d1 d2 d3 t9 t91 r9 r91 r92 r93 zu) len9 (fun _ => len9) (rV (As := []) (rest := []) ⟨hx, hb, hml, hown, hts⟩ (c_X9_undo l D z tM tS h a b c9 hh hh1 d0 d1 d2 d3 t9 t91 r9 r91 r92 r93 q185_20.2 (iv_n hI_q185_20).1 (iv_n hI_q185_20).2 H.size) (cwV 0 hts gL_isShowSo_X9_undo rfl rfl rfl (by decide +kernel) ⟨Nat.le_trans (by decide) hRf, Nat.le_trans (by decide) hRl⟩) (ev_ok tM tS) (e_go (ev_ok tM tS) hE hD hS hA (List.range 128) (gN len9)) hK hP hD (List.range 128) nd128 (gN len9) (va_recv hK hP (ci := 9) (q0 := 0) rfl rfl) rfl hl.1 rfl (Nat.le_of_ble_eq_true rfl) dL_isShowSo_258 ⟨Nat.zero_le _, Nat.zero_le _⟩) hK hP hD hS hA (fun zr zu H locs hw hP hD hS => ?_)
                    have hw : (zr, zu) = (f_X9_undo q185_20.2) := hw
                    obtain ⟨q258_21, hq258_21⟩ : ∃ q9, q9 = (f_X9_undo q185_20.2) := ⟨_, rfl⟩
                    rw [← hq258_21] at hw
                    obtain ⟨rfl, rfl⟩ := pe hw
                    have hP : va_P D vwCl (wX9 z h a b c9 hh hh1 d0 d1 d2 d3 t9 t91 r9 r91 r92 r93 q258_21.2) H := hP
                    have hD : va_D A (wX9 z h a b c9 hh hh1 d0 d1 d2 d3 t9 t91 r9 r91 r92 r93 q258_21.2) := hD
                    refine lv_istore (lv' := [(12, .int q258_21.1), (11, .int 0), (10, .int q90_14.1), (9, .int (f_X9_count v 10)), (8, .int (f_X9_barn v x 5)), (7, .int (f_X9_count v 4)), (6, .int (f_X9_generator v 1 1)), (5, .int 1), (4, .int (f_X9_barn v x 4)), (3, .int (f_X9_ifPrice v x (f_X9_count v 11))), (2, .int (f_X9_barn v x 6)), (0, .ref h), (1, .int x)]) hx hb dL_isShowSo_261 hl (by decide) rfl (fun ls hl => ?_)
                    refine lv_iload hx hb dL_isShowSo_263 (lv_at hl 1 rfl) ?_
                    refine lv_if_eq (tgt := 287) hx hb dL_isShowSo_265 (by decide) (fun c_43 => ?_) (fun c_43 => absurd c_43 (by decide))
                    refine lv_iconst (v := 0) hx hb dL_isShowSo_287 (by decide) ?_
                    subst hQ
                    exact ret_z q258_21.2 hx hb hr rfl hK hP hD hS rfl ⟨(by unfold f_L_isShowSo; rw [if_pos c_1, if_pos c_30, ← hq90_14]; unfold f_L_isShowSo_q90_14; rw [if_pos c_31, if_pos c_32, if_pos c_34, if_pos c_36, if_pos c_38, if_pos c_40, ← hq185_20]; unfold f_L_isShowSo_q185_20; rw [if_neg c_42, ← hq258_21]; unfold f_L_isShowSo_q258_21; try rfl), (Or.inl rfl)⟩ dL_isShowSo_288 hlocks
                  · refine lv_aload_n hx hb dL_isShowSo_193 rfl (lv_at hl 9 rfl) ?_
                    refine lv_iconst (v := 0) hx hb dL_isShowSo_194 (by decide) ?_
                    refine lv_iconst (v := 1) hx hb dL_isShowSo_195 (by decide) ?_
                    refine call_W (w1 := fun _ => wX9 z h a b c9 hh hh1 d0 d1 d2 d3 t9 t91 r9 r91 r92 r93 q185_20.2) len9 (fun _ => len9) (rV (As := [.int 0, .int 1]) (rest := []) ⟨hx, hb, hml, hown, hts⟩ (c_X9_showOf l D z tM tS h a b c9 hh hh1 d0 d1 d2 d3 t9 t91 r9 r91 r92 r93 q185_20.2 0 1 (iv_ls hI_q185_20) H.size) (cwV 2 hts gL_isShowSo_X9_showOf rfl rfl rfl (by decide +kernel) ⟨Nat.le_trans (by decide) hRf, Nat.le_trans (by decide) hRl⟩) (ev_ok tM tS) (e_go (ev_ok tM tS) hE hD hS hA (List.range 128) (gN len9)) hK hP hD (List.range 128) nd128 (gN len9) (va_recv hK hP (ci := 9) (q0 := 0) rfl rfl) rfl hl.1 rfl (Nat.le_of_ble_eq_true rfl) dL_isShowSo_196 ⟨Nat.zero_le _, Nat.zero_le _⟩) hK hP hD hS hA (fun zr zu H locs hw hP hD hS => ?_)
                    have hw : zr = (f_X9_showOf q185_20.2 0 1) := hw
                    subst hw
                    have hP : va_P D vwCl (wX9 z h a b c9 hh hh1 d0 d1 d2 d3 t9 t91 r9 r91 r92 r93 q185_20.2) H := hP
                    have hD : va_D A (wX9 z h a b c9 hh hh1 d0 d1 d2 d3 t9 t91 r9 r91 r92 r93 q185_20.2) := hD
                    refine lv_iload_n hx hb dL_isShowSo_199 rfl (lv_at hl 10 rfl) ?_
                    refine lv_icmp_ne (tgt := 254) hx hb dL_isShowSo_200 (by decide) (fun c_44 => ?_) (fun c_44 => ?_)
                    · refine lv_iconst (v := 0) hx hb dL_isShowSo_254 (by decide) ?_
                      refine lv_istore (lv' := [(11, .int 0), (10, .int q90_14.1), (9, .int (f_X9_count v 10)), (8, .int (f_X9_barn v x 5)), (7, .int (f_X9_count v 4)), (6, .int (f_X9_generator v 1 1)), (5, .int 1), (4, .int (f_X9_barn v x 4)), (3, .int (f_X9_ifPrice v x (f_X9_count v 11))), (2, .int (f_X9_barn v x 6)), (0, .ref h), (1, .int x)]) hx hb dL_isShowSo_255 hl (by decide) rfl (fun ls hl => ?_)
                      refine lv_aload_n hx hb dL_isShowSo_257 rfl (lv_at hl 10 rfl) ?_
                      refine call_W (w1 := fun zu => wX9 z h a b c9 hh hh1 d0 d1 d2 d3 t9 t91 r9 r91 r92 r93 zu) len9 (fun _ => len9) (rV (As := []) (rest := []) ⟨hx, hb, hml, hown, hts⟩ (c_X9_undo l D z tM tS h a b c9 hh hh1 d0 d1 d2 d3 t9 t91 r9 r91 r92 r93 q185_20.2 (iv_n hI_q185_20).1 (iv_n hI_q185_20).2 H.size) (cwV 0 hts gL_isShowSo_X9_undo rfl rfl rfl (by decide +kernel) ⟨Nat.le_trans (by decide) hRf, Nat.le_trans (by decide) hRl⟩) (ev_ok tM tS) (e_go (ev_ok tM tS) hE hD hS hA (List.range 128) (gN len9)) hK hP hD (List.range 128) nd128 (gN len9) (va_recv hK hP (ci := 9) (q0 := 0) rfl rfl) rfl hl.1 rfl (Nat.le_of_ble_eq_true rfl) dL_isShowSo_258 ⟨Nat.zero_le _, Nat.zero_le _⟩) hK hP hD hS hA (fun zr zu H locs hw hP hD hS => ?_)
                      have hw : (zr, zu) = (f_X9_undo q185_20.2) := hw
                      obtain ⟨q258_22, hq258_22⟩ : ∃ q9, q9 = (f_X9_undo q185_20.2) := ⟨_, rfl⟩
                      rw [← hq258_22] at hw
                      obtain ⟨rfl, rfl⟩ := pe hw
                      have hP : va_P D vwCl (wX9 z h a b c9 hh hh1 d0 d1 d2 d3 t9 t91 r9 r91 r92 r93 q258_22.2) H := hP
                      have hD : va_D A (wX9 z h a b c9 hh hh1 d0 d1 d2 d3 t9 t91 r9 r91 r92 r93 q258_22.2) := hD
                      refine lv_istore (lv' := [(12, .int q258_22.1), (11, .int 0), (10, .int q90_14.1), (9, .int (f_X9_count v 10)), (8, .int (f_X9_barn v x 5)), (7, .int (f_X9_count v 4)), (6, .int (f_X9_generator v 1 1)), (5, .int 1), (4, .int (f_X9_barn v x 4)), (3, .int (f_X9_ifPrice v x (f_X9_count v 11))), (2, .int (f_X9_barn v x 6)), (0, .ref h), (1, .int x)]) hx hb dL_isShowSo_261 hl (by decide) rfl (fun ls hl => ?_)
                      refine lv_iload hx hb dL_isShowSo_263 (lv_at hl 1 rfl) ?_
                      refine lv_if_eq (tgt := 287) hx hb dL_isShowSo_265 (by decide) (fun c_45 => ?_) (fun c_45 => absurd c_45 (by decide))
                      refine lv_iconst (v := 0) hx hb dL_isShowSo_287 (by decide) ?_
                      subst hQ
                      exact ret_z q258_22.2 hx hb hr rfl hK hP hD hS rfl ⟨(by unfold f_L_isShowSo; rw [if_pos c_1, if_pos c_30, ← hq90_14]; unfold f_L_isShowSo_q90_14; rw [if_pos c_31, if_pos c_32, if_pos c_34, if_pos c_36, if_pos c_38, if_pos c_40, ← hq185_20]; unfold f_L_isShowSo_q185_20; rw [if_pos c_42, if_neg c_44, ← hq258_22]; unfold f_L_isShowSo_q258_22; try rfl), (Or.inl rfl)⟩ dL_isShowSo_288 hlocks
                    · refine lv_aload_n hx hb dL_isShowSo_203 rfl (lv_at hl 9 rfl) ?_
                      refine lv_iconst (v := 0) hx hb dL_isShowSo_204 (by decide) ?_
                      refine lv_iconst (v := 2) hx hb dL_isShowSo_205 (by decide) ?_
                      refine call_W (w1 := fun _ => wX9 z h a b c9 hh hh1 d0 d1 d2 d3 t9 t91 r9 r91 r92 r93 q185_20.2) len9 (fun _ => len9) (rV (As := [.int 0, .int 2]) (rest := []) ⟨hx, hb, hml, hown, hts⟩ (c_X9_showOf l D z tM tS h a b c9 hh hh1 d0 d1 d2 d3 t9 t91 r9 r91 r92 r93 q185_20.2 0 2 (iv_ls hI_q185_20) H.size) (cwV 2 hts gL_isShowSo_X9_showOf rfl rfl rfl (by decide +kernel) ⟨Nat.le_trans (by decide) hRf, Nat.le_trans (by decide) hRl⟩) (ev_ok tM tS) (e_go (ev_ok tM tS) hE hD hS hA (List.range 128) (gN len9)) hK hP hD (List.range 128) nd128 (gN len9) (va_recv hK hP (ci := 9) (q0 := 0) rfl rfl) rfl hl.1 rfl (Nat.le_of_ble_eq_true rfl) dL_isShowSo_206 ⟨Nat.zero_le _, Nat.zero_le _⟩) hK hP hD hS hA (fun zr zu H locs hw hP hD hS => ?_)
                      have hw : zr = (f_X9_showOf q185_20.2 0 2) := hw
                      subst hw
                      have hP : va_P D vwCl (wX9 z h a b c9 hh hh1 d0 d1 d2 d3 t9 t91 r9 r91 r92 r93 q185_20.2) H := hP
                      have hD : va_D A (wX9 z h a b c9 hh hh1 d0 d1 d2 d3 t9 t91 r9 r91 r92 r93 q185_20.2) := hD
                      refine lv_iload hx hb dL_isShowSo_209 (lv_at hl 2 rfl) ?_
                      refine lv_icmp_ne (tgt := 254) hx hb dL_isShowSo_211 (by decide) (fun c_46 => ?_) (fun c_46 => ?_)
                      · refine lv_iconst (v := 0) hx hb dL_isShowSo_254 (by decide) ?_
                        refine lv_istore (lv' := [(11, .int 0), (10, .int q90_14.1), (9, .int (f_X9_count v 10)), (8, .int (f_X9_barn v x 5)), (7, .int (f_X9_count v 4)), (6, .int (f_X9_generator v 1 1)), (5, .int 1), (4, .int (f_X9_barn v x 4)), (3, .int (f_X9_ifPrice v x (f_X9_count v 11))), (2, .int (f_X9_barn v x 6)), (0, .ref h), (1, .int x)]) hx hb dL_isShowSo_255 hl (by decide) rfl (fun ls hl => ?_)
                        refine lv_aload_n hx hb dL_isShowSo_257 rfl (lv_at hl 10 rfl) ?_
                        refine call_W (w1 := fun zu => wX9 z h a b c9 hh hh1 d0 d1 d2 d3 t9 t91 r9 r91 r92 r93 zu) len9 (fun _ => len9) (rV (As := []) (rest := []) ⟨hx, hb, hml, hown, hts⟩ (c_X9_undo l D z tM tS h a b c9 hh hh1 d0 d1 d2 d3 t9 t91 r9 r91 r92 r93 q185_20.2 (iv_n hI_q185_20).1 (iv_n hI_q185_20).2 H.size) (cwV 0 hts gL_isShowSo_X9_undo rfl rfl rfl (by decide +kernel) ⟨Nat.le_trans (by decide) hRf, Nat.le_trans (by decide) hRl⟩) (ev_ok tM tS) (e_go (ev_ok tM tS) hE hD hS hA (List.range 128) (gN len9)) hK hP hD (List.range 128) nd128 (gN len9) (va_recv hK hP (ci := 9) (q0 := 0) rfl rfl) rfl hl.1 rfl (Nat.le_of_ble_eq_true rfl) dL_isShowSo_258 ⟨Nat.zero_le _, Nat.zero_le _⟩) hK hP hD hS hA (fun zr zu H locs hw hP hD hS => ?_)
                        have hw : (zr, zu) = (f_X9_undo q185_20.2) := hw
                        obtain ⟨q258_23, hq258_23⟩ : ∃ q9, q9 = (f_X9_undo q185_20.2) := ⟨_, rfl⟩
                        rw [← hq258_23] at hw
                        obtain ⟨rfl, rfl⟩ := pe hw
                        have hP : va_P D vwCl (wX9 z h a b c9 hh hh1 d0 d1 d2 d3 t9 t91 r9 r91 r92 r93 q258_23.2) H := hP
                        have hD : va_D A (wX9 z h a b c9 hh hh1 d0 d1 d2 d3 t9 t91 r9 r91 r92 r93 q258_23.2) := hD
                        refine lv_istore (lv' := [(12, .int q258_23.1), (11, .int 0), (10, .int q90_14.1), (9, .int (f_X9_count v 10)), (8, .int (f_X9_barn v x 5)), (7, .int (f_X9_count v 4)), (6, .int (f_X9_generator v 1 1)), (5, .int 1), (4, .int (f_X9_barn v x 4)), (3, .int (f_X9_ifPrice v x (f_X9_count v 11))), (2, .int (f_X9_barn v x 6)), (0, .ref h), (1, .int x)]) hx hb dL_isShowSo_261 hl (by decide) rfl (fun ls hl => ?_)
                        refine lv_iload hx hb dL_isShowSo_263 (lv_at hl 1 rfl) ?_
                        refine lv_if_eq (tgt := 287) hx hb dL_isShowSo_265 (by decide) (fun c_47 => ?_) (fun c_47 => absurd c_47 (by decide))
                        refine lv_iconst (v := 0) hx hb dL_isShowSo_287 (by decide) ?_
                        subst hQ
                        exact ret_z q258_23.2 hx hb hr rfl hK hP hD hS rfl ⟨(by unfold f_L_isShowSo; rw [if_pos c_1, if_pos c_30, ← hq90_14]; unfold f_L_isShowSo_q90_14; rw [if_pos c_31, if_pos c_32, if_pos c_34, if_pos c_36, if_pos c_38, if_pos c_40, ← hq185_20]; unfold f_L_isShowSo_q185_20; rw [if_pos c_42, if_pos c_44, if_neg c_46, ← hq258_23]; unfold f_L_isShowSo_q258_23; try rfl), (Or.inl rfl)⟩ dL_isShowSo_288 hlocks
                      · refine lv_aload_n hx hb dL_isShowSo_214 rfl (lv_at hl 9 rfl) ?_
                        refine lv_iconst (v := 0) hx hb dL_isShowSo_215 (by decide) ?_
                        refine lv_iconst (v := 3) hx hb dL_isShowSo_216 (by decide) ?_
                        refine call_W (w1 := fun _ => wX9 z h a b c9 hh hh1 d0 d1 d2 d3 t9 t91 r9 r91 r92 r93 q185_20.2) len9 (fun _ => len9) (rV (As := [.int 0, .int 3]) (rest := []) ⟨hx, hb, hml, hown, hts⟩ (c_X9_showOf l D z tM tS h a b c9 hh hh1 d0 d1 d2 d3 t9 t91 r9 r91 r92 r93 q185_20.2 0 3 (iv_ls hI_q185_20) H.size) (cwV 2 hts gL_isShowSo_X9_showOf rfl rfl rfl (by decide +kernel) ⟨Nat.le_trans (by decide) hRf, Nat.le_trans (by decide) hRl⟩) (ev_ok tM tS) (e_go (ev_ok tM tS) hE hD hS hA (List.range 128) (gN len9)) hK hP hD (List.range 128) nd128 (gN len9) (va_recv hK hP (ci := 9) (q0 := 0) rfl rfl) rfl hl.1 rfl (Nat.le_of_ble_eq_true rfl) dL_isShowSo_217 ⟨Nat.zero_le _, Nat.zero_le _⟩) hK hP hD hS hA (fun zr zu H locs hw hP hD hS => ?_)
                        have hw : zr = (f_X9_showOf q185_20.2 0 3) := hw
                        subst hw
                        have hP : va_P D vwCl (wX9 z h a b c9 hh hh1 d0 d1 d2 d3 t9 t91 r9 r91 r92 r93 q185_20.2) H := hP
                        have hD : va_D A (wX9 z h a b c9 hh hh1 d0 d1 d2 d3 t9 t91 r9 r91 r92 r93 q185_20.2) := hD
                        refine lv_iload hx hb dL_isShowSo_220 (lv_at hl 0 rfl) ?_
                        refine lv_icmp_ne (tgt := 254) hx hb dL_isShowSo_222 (by decide) (fun c_48 => ?_) (fun c_48 => ?_)
                        · refine lv_iconst (v := 0) hx hb dL_isShowSo_254 (by decide) ?_
                          refine lv_istore (lv' := [(11, .int 0), (10, .int q90_14.1), (9, .int (f_X9_count v 10)), (8, .int (f_X9_barn v x 5)), (7, .int (f_X9_count v 4)), (6, .int (f_X9_generator v 1 1)), (5, .int 1), (4, .int (f_X9_barn v x 4)), (3, .int (f_X9_ifPrice v x (f_X9_count v 11))), (2, .int (f_X9_barn v x 6)), (0, .ref h), (1, .int x)]) hx hb dL_isShowSo_255 hl (by decide) rfl (fun ls hl => ?_)
                          refine lv_aload_n hx hb dL_isShowSo_257 rfl (lv_at hl 10 rfl) ?_
                          refine call_W (w1 := fun zu => wX9 z h a b c9 hh hh1 d0 d1 d2 d3 t9 t91 r9 r91 r92 r93 zu) len9 (fun _ => len9) (rV (As := []) (rest := []) ⟨hx, hb, hml, hown, hts⟩ (c_X9_undo l D z tM tS h a b c9 hh hh1 d0 d1 d2 d3 t9 t91 r9 r91 r92 r93 q185_20.2 (iv_n hI_q185_20).1 (iv_n hI_q185_20).2 H.size) (cwV 0 hts gL_isShowSo_X9_undo rfl rfl rfl (by decide +kernel) ⟨Nat.le_trans (by decide) hRf, Nat.le_trans (by decide) hRl⟩) (ev_ok tM tS) (e_go (ev_ok tM tS) hE hD hS hA (List.range 128) (gN len9)) hK hP hD (List.range 128) nd128 (gN len9) (va_recv hK hP (ci := 9) (q0 := 0) rfl rfl) rfl hl.1 rfl (Nat.le_of_ble_eq_true rfl) dL_isShowSo_258 ⟨Nat.zero_le _, Nat.zero_le _⟩) hK hP hD hS hA (fun zr zu H locs hw hP hD hS => ?_)
                          have hw : (zr, zu) = (f_X9_undo q185_20.2) := hw
                          obtain ⟨q258_24, hq258_24⟩ : ∃ q9, q9 = (f_X9_undo q185_20.2) := ⟨_, rfl⟩
                          rw [← hq258_24] at hw
                          obtain ⟨rfl, rfl⟩ := pe hw
                          have hP : va_P D vwCl (wX9 z h a b c9 hh hh1 d0 d1 d2 d3 t9 t91 r9 r91 r92 r93 q258_24.2) H := hP
                          have hD : va_D A (wX9 z h a b c9 hh hh1 d0 d1 d2 d3 t9 t91 r9 r91 r92 r93 q258_24.2) := hD
                          refine lv_istore (lv' := [(12, .int q258_24.1), (11, .int 0), (10, .int q90_14.1), (9, .int (f_X9_count v 10)), (8, .int (f_X9_barn v x 5)), (7, .int (f_X9_count v 4)), (6, .int (f_X9_generator v 1 1)), (5, .int 1), (4, .int (f_X9_barn v x 4)), (3, .int (f_X9_ifPrice v x (f_X9_count v 11))), (2, .int (f_X9_barn v x 6)), (0, .ref h), (1, .int x)]) hx hb dL_isShowSo_261 hl (by decide) rfl (fun ls hl => ?_)
                          refine lv_iload hx hb dL_isShowSo_263 (lv_at hl 1 rfl) ?_
                          refine lv_if_eq (tgt := 287) hx hb dL_isShowSo_265 (by decide) (fun c_49 => ?_) (fun c_49 => absurd c_49 (by decide))
                          refine lv_iconst (v := 0) hx hb dL_isShowSo_287 (by decide) ?_
                          subst hQ
                          exact ret_z q258_24.2 hx hb hr rfl hK hP hD hS rfl ⟨(by unfold f_L_isShowSo; rw [if_pos c_1, if_pos c_30, ← hq90_14]; unfold f_L_isShowSo_q90_14; rw [if_pos c_31, if_pos c_32, if_pos c_34, if_pos c_36, if_pos c_38, if_pos c_40, ← hq185_20]; unfold f_L_isShowSo_q185_20; rw [if_pos c_42, if_pos c_44, if_pos c_46, if_neg c_48, ← hq258_24]; unfold f_L_isShowSo_q258_24; try rfl), (Or.inl rfl)⟩ dL_isShowSo_288 hlocks
                        · refine lv_aload_n hx hb dL_isShowSo_225 rfl (lv_at hl 9 rfl) ?_
                          refine lv_iconst (v := 0) hx hb dL_isShowSo_226 (by decide) ?_
                          refine lv_iconst (v := 4) hx hb dL_isShowSo_227 (by decide) ?_
                          refine call_W (w1 := fun _ => wX9 z h a b c9 hh hh1 d0 d1 d2 d3 t9 t91 r9 r91 r92 r93 q185_20.2) len9 (fun _ => len9) (rV (As := [.int 0, .int 4]) (rest := []) ⟨hx, hb, hml, hown, hts⟩ (c_X9_showOf l D z tM tS h a b c9 hh hh1 d0 d1 d2 d3 t9 t91 r9 r91 r92 r93 q185_20.2 0 4 (iv_ls hI_q185_20) H.size) (cwV 2 hts gL_isShowSo_X9_showOf rfl rfl rfl (by decide +kernel) ⟨Nat.le_trans (by decide) hRf, Nat.le_trans (by decide) hRl⟩) (ev_ok tM tS) (e_go (ev_ok tM tS) hE hD hS hA (List.range 128) (gN len9)) hK hP hD (List.range 128) nd128 (gN len9) (va_recv hK hP (ci := 9) (q0 := 0) rfl rfl) rfl hl.1 rfl (Nat.le_of_ble_eq_true rfl) dL_isShowSo_228 ⟨Nat.zero_le _, Nat.zero_le _⟩) hK hP hD hS hA (fun zr zu H locs hw hP hD hS => ?_)
                          have hw : zr = (f_X9_showOf q185_20.2 0 4) := hw
                          subst hw
                          have hP : va_P D vwCl (wX9 z h a b c9 hh hh1 d0 d1 d2 d3 t9 t91 r9 r91 r92 r93 q185_20.2) H := hP
                          have hD : va_D A (wX9 z h a b c9 hh hh1 d0 d1 d2 d3 t9 t91 r9 r91 r92 r93 q185_20.2) := hD
                          refine lv_iload hx hb dL_isShowSo_231 (lv_at hl 6 rfl) ?_
                          refine lv_icmp_ne (tgt := 254) hx hb dL_isShowSo_233 (by decide) (fun c_50 => ?_) (fun c_50 => ?_)
                          · refine lv_iconst (v := 0) hx hb dL_isShowSo_254 (by decide) ?_
                            refine lv_istore (lv' := [(11, .int 0), (10, .int q90_14.1), (9, .int (f_X9_count v 10)), (8, .int (f_X9_barn v x 5)), (7, .int (f_X9_count v 4)), (6, .int (f_X9_generator v 1 1)), (5, .int 1), (4, .int (f_X9_barn v x 4)), (3, .int (f_X9_ifPrice v x (f_X9_count v 11))), (2, .int (f_X9_barn v x 6)), (0, .ref h), (1, .int x)]) hx hb dL_isShowSo_255 hl (by decide) rfl (fun ls hl => ?_)
                            refine lv_aload_n hx hb dL_isShowSo_257 rfl (lv_at hl 10 rfl) ?_
                            refine call_W (w1 := fun zu => wX9 z h a b c9 hh hh1 d0 d1 d2 d3 t9 t91 r9 r91 r92 r93 zu) len9 (fun _ => len9) (rV (As := []) (rest := []) ⟨hx, hb, hml, hown, hts⟩ (c_X9_undo l D z tM tS h a b c9 hh hh1 d0 d1 d2 d3 t9 t91 r9 r91 r92 r93 q185_20.2 (iv_n hI_q185_20).1 (iv_n hI_q185_20).2 H.size) (cwV 0 hts gL_isShowSo_X9_undo rfl rfl rfl (by decide +kernel) ⟨Nat.le_trans (by decide) hRf, Nat.le_trans (by decide) hRl⟩) (ev_ok tM tS) (e_go (ev_ok tM tS) hE hD hS hA (List.range 128) (gN len9)) hK hP hD (List.range 128) nd128 (gN len9) (va_recv hK hP (ci := 9) (q0 := 0) rfl rfl) rfl hl.1 rfl (Nat.le_of_ble_eq_true rfl) dL_isShowSo_258 ⟨Nat.zero_le _, Nat.zero_le _⟩) hK hP hD hS hA (fun zr zu H locs hw hP hD hS => ?_)
                            have hw : (zr, zu) = (f_X9_undo q185_20.2) := hw
                            obtain ⟨q258_25, hq258_25⟩ : ∃ q9, q9 = (f_X9_undo q185_20.2) := ⟨_, rfl⟩
                            rw [← hq258_25] at hw
                            obtain ⟨rfl, rfl⟩ := pe hw
                            have hP : va_P D vwCl (wX9 z h a b c9 hh hh1 d0 d1 d2 d3 t9 t91 r9 r91 r92 r93 q258_25.2) H := hP
                            have hD : va_D A (wX9 z h a b c9 hh hh1 d0 d1 d2 d3 t9 t91 r9 r91 r92 r93 q258_25.2) := hD
                            refine lv_istore (lv' := [(12, .int q258_25.1), (11, .int 0), (10, .int q90_14.1), (9, .int (f_X9_count v 10)), (8, .int (f_X9_barn v x 5)), (7, .int (f_X9_count v 4)), (6, .int (f_X9_generator v 1 1)), (5, .int 1), (4, .int (f_X9_barn v x 4)), (3, .int (f_X9_ifPrice v x (f_X9_count v 11))), (2, .int (f_X9_barn v x 6)), (0, .ref h), (1, .int x)]) hx hb dL_isShowSo_261 hl (by decide) rfl (fun ls hl => ?_)
                            refine lv_iload hx hb dL_isShowSo_263 (lv_at hl 1 rfl) ?_
                            refine lv_if_eq (tgt := 287) hx hb dL_isShowSo_265 (by decide) (fun c_51 => ?_) (fun c_51 => absurd c_51 (by decide))
                            refine lv_iconst (v := 0) hx hb dL_isShowSo_287 (by decide) ?_
                            subst hQ
                            exact ret_z q258_25.2 hx hb hr rfl hK hP hD hS rfl ⟨(by unfold f_L_isShowSo; rw [if_pos c_1, if_pos c_30, ← hq90_14]; unfold f_L_isShowSo_q90_14; rw [if_pos c_31, if_pos c_32, if_pos c_34, if_pos c_36, if_pos c_38, if_pos c_40, ← hq185_20]; unfold f_L_isShowSo_q185_20; rw [if_pos c_42, if_pos c_44, if_pos c_46, if_pos c_48, if_neg c_50, ← hq258_25]; unfold f_L_isShowSo_q258_25; try rfl), (Or.inl rfl)⟩ dL_isShowSo_288 hlocks
                          · refine lv_aload_n hx hb dL_isShowSo_236 rfl (lv_at hl 9 rfl) ?_
                            refine lv_iconst (v := 0) hx hb dL_isShowSo_237 (by decide) ?_
                            refine lv_iconst (v := 0) hx hb dL_isShowSo_238 (by decide) ?_
                            refine call_W (w1 := fun _ => wX9 z h a b c9 hh hh1 d0 d1 d2 d3 t9 t91 r9 r91 r92 r93 q185_20.2) len9 (fun _ => len9) (rV (As := [.int 0, .int 0]) (rest := []) ⟨hx, hb, hml, hown, hts⟩ (c_X9_showOf l D z tM tS h a b c9 hh hh1 d0 d1 d2 d3 t9 t91 r9 r91 r92 r93 q185_20.2 0 0 (iv_ls hI_q185_20) H.size) (cwV 2 hts gL_isShowSo_X9_showOf rfl rfl rfl (by decide +kernel) ⟨Nat.le_trans (by decide) hRf, Nat.le_trans (by decide) hRl⟩) (ev_ok tM tS) (e_go (ev_ok tM tS) hE hD hS hA (List.range 128) (gN len9)) hK hP hD (List.range 128) nd128 (gN len9) (va_recv hK hP (ci := 9) (q0 := 0) rfl rfl) rfl hl.1 rfl (Nat.le_of_ble_eq_true rfl) dL_isShowSo_239 ⟨Nat.zero_le _, Nat.zero_le _⟩) hK hP hD hS hA (fun zr zu H locs hw hP hD hS => ?_)
                            have hw : zr = (f_X9_showOf q185_20.2 0 0) := hw
                            subst hw
                            have hP : va_P D vwCl (wX9 z h a b c9 hh hh1 d0 d1 d2 d3 t9 t91 r9 r91 r92 r93 q185_20.2) H := hP
                            have hD : va_D A (wX9 z h a b c9 hh hh1 d0 d1 d2 d3 t9 t91 r9 r91 r92 r93 q185_20.2) := hD
                            refine lv_aload_n hx hb dL_isShowSo_242 rfl (lv_at hl 9 rfl) ?_
                            refine lv_iconst (v := 0) hx hb dL_isShowSo_243 (by decide) ?_
                            refine call_W (w1 := fun _ => wX9 z h a b c9 hh hh1 d0 d1 d2 d3 t9 t91 r9 r91 r92 r93 q185_20.2) len9 (fun _ => len9) (rV (As := [.int 0]) (rest := [.int (f_X9_showOf q185_20.2 0 0)]) ⟨hx, hb, hml, hown, hts⟩ (c_X9_count l D z tM tS h a b c9 hh hh1 d0 d1 d2 d3 t9 t91 r9 r91 r92 r93 q185_20.2 0 H.size) (cwV 1 hts gL_isShowSo_X9_count rfl rfl rfl (by decide +kernel) ⟨Nat.le_trans (by decide) hRf, Nat.le_trans (by decide) hRl⟩) (ev_ok tM tS) (e_go (ev_ok tM tS) hE hD hS hA (List.range 128) (gN len9)) hK hP hD (List.range 128) nd128 (gN len9) (va_recv hK hP (ci := 9) (q0 := 0) rfl rfl) rfl hl.1 rfl (Nat.le_of_ble_eq_true rfl) dL_isShowSo_244 ⟨Nat.zero_le _, Nat.zero_le _⟩) hK hP hD hS hA (fun zr zu H locs hw hP hD hS => ?_)
                            have hw : zr = (f_X9_count q185_20.2 0) := hw
                            subst hw
                            have hP : va_P D vwCl (wX9 z h a b c9 hh hh1 d0 d1 d2 d3 t9 t91 r9 r91 r92 r93 q185_20.2) H := hP
                            have hD : va_D A (wX9 z h a b c9 hh hh1 d0 d1 d2 d3 t9 t91 r9 r91 r92 r93 q185_20.2) := hD
                            refine lv_icmp_ne (tgt := 254) hx hb dL_isShowSo_247 (by decide) (fun c_52 => ?_) (fun c_52 => ?_)
                            · refine lv_iconst (v := 0) hx hb dL_isShowSo_254 (by decide) ?_
                              refine lv_istore (lv' := [(11, .int 0), (10, .int q90_14.1), (9, .int (f_X9_count v 10)), (8, .int (f_X9_barn v x 5)), (7, .int (f_X9_count v 4)), (6, .int (f_X9_generator v 1 1)), (5, .int 1), (4, .int (f_X9_barn v x 4)), (3, .int (f_X9_ifPrice v x (f_X9_count v 11))), (2, .int (f_X9_barn v x 6)), (0, .ref h), (1, .int x)]) hx hb dL_isShowSo_255 hl (by decide) rfl (fun ls hl => ?_)
                              refine lv_aload_n hx hb dL_isShowSo_257 rfl (lv_at hl 10 rfl) ?_
                              refine call_W (w1 := fun zu => wX9 z h a b c9 hh hh1 d0 d1 d2 d3 t9 t91 r9 r91 r92 r93 zu) len9 (fun _ => len9) (rV (As := []) (rest := []) ⟨hx, hb, hml, hown, hts⟩ (c_X9_undo l D z tM tS h a b c9 hh hh1 d0 d1 d2 d3 t9 t91 r9 r91 r92 r93 q185_20.2 (iv_n hI_q185_20).1 (iv_n hI_q185_20).2 H.size) (cwV 0 hts gL_isShowSo_X9_undo rfl rfl rfl (by decide +kernel) ⟨Nat.le_trans (by decide) hRf, Nat.le_trans (by decide) hRl⟩) (ev_ok tM tS) (e_go (ev_ok tM tS) hE hD hS hA (List.range 128) (gN len9)) hK hP hD (List.range 128) nd128 (gN len9) (va_recv hK hP (ci := 9) (q0 := 0) rfl rfl) rfl hl.1 rfl (Nat.le_of_ble_eq_true rfl) dL_isShowSo_258 ⟨Nat.zero_le _, Nat.zero_le _⟩) hK hP hD hS hA (fun zr zu H locs hw hP hD hS => ?_)
                              have hw : (zr, zu) = (f_X9_undo q185_20.2) := hw
                              obtain ⟨q258_26, hq258_26⟩ : ∃ q9, q9 = (f_X9_undo q185_20.2) := ⟨_, rfl⟩
                              rw [← hq258_26] at hw
                              obtain ⟨rfl, rfl⟩ := pe hw
                              have hP : va_P D vwCl (wX9 z h a b c9 hh hh1 d0 d1 d2 d3 t9 t91 r9 r91 r92 r93 q258_26.2) H := hP
                              have hD : va_D A (wX9 z h a b c9 hh hh1 d0 d1 d2 d3 t9 t91 r9 r91 r92 r93 q258_26.2) := hD
                              refine lv_istore (lv' := [(12, .int q258_26.1), (11, .int 0), (10, .int q90_14.1), (9, .int (f_X9_count v 10)), (8, .int (f_X9_barn v x 5)), (7, .int (f_X9_count v 4)), (6, .int (f_X9_generator v 1 1)), (5, .int 1), (4, .int (f_X9_barn v x 4)), (3, .int (f_X9_ifPrice v x (f_X9_count v 11))), (2, .int (f_X9_barn v x 6)), (0, .ref h), (1, .int x)]) hx hb dL_isShowSo_261 hl (by decide) rfl (fun ls hl => ?_)
                              refine lv_iload hx hb dL_isShowSo_263 (lv_at hl 1 rfl) ?_
                              refine lv_if_eq (tgt := 287) hx hb dL_isShowSo_265 (by decide) (fun c_53 => ?_) (fun c_53 => absurd c_53 (by decide))
                              refine lv_iconst (v := 0) hx hb dL_isShowSo_287 (by decide) ?_
                              subst hQ
                              exact ret_z q258_26.2 hx hb hr rfl hK hP hD hS rfl ⟨(by unfold f_L_isShowSo; rw [if_pos c_1, if_pos c_30, ← hq90_14]; unfold f_L_isShowSo_q90_14; rw [if_pos c_31, if_pos c_32, if_pos c_34, if_pos c_36, if_pos c_38, if_pos c_40, ← hq185_20]; unfold f_L_isShowSo_q185_20; rw [if_pos c_42, if_pos c_44, if_pos c_46, if_pos c_48, if_pos c_50, if_neg c_52, ← hq258_26]; unfold f_L_isShowSo_q258_26; try rfl), (Or.inl rfl)⟩ dL_isShowSo_288 hlocks
                            · refine lv_iconst (v := 1) hx hb dL_isShowSo_250 (by decide) ?_
                              refine lv_goto (tgt := 255) hx hb dL_isShowSo_251 (by decide) ?_
                              refine lv_istore (lv' := [(11, .int 1), (10, .int q90_14.1), (9, .int (f_X9_count v 10)), (8, .int (f_X9_barn v x 5)), (7, .int (f_X9_count v 4)), (6, .int (f_X9_generator v 1 1)), (5, .int 1), (4, .int (f_X9_barn v x 4)), (3, .int (f_X9_ifPrice v x (f_X9_count v 11))), (2, .int (f_X9_barn v x 6)), (0, .ref h), (1, .int x)]) hx hb dL_isShowSo_255 hl (by decide) rfl (fun ls hl => ?_)
                              refine lv_aload_n hx hb dL_isShowSo_257 rfl (lv_at hl 10 rfl) ?_
                              refine call_W (w1 := fun zu => wX9 z h a b c9 hh hh1 d0 d1 d2 d3 t9 t91 r9 r91 r92 r93 zu) len9 (fun _ => len9) (rV (As := []) (rest := []) ⟨hx, hb, hml, hown, hts⟩ (c_X9_undo l D z tM tS h a b c9 hh hh1 d0 d1 d2 d3 t9 t91 r9 r91 r92 r93 q185_20.2 (iv_n hI_q185_20).1 (iv_n hI_q185_20).2 H.size) (cwV 0 hts gL_isShowSo_X9_undo rfl rfl rfl (by decide +kernel) ⟨Nat.le_trans (by decide) hRf, Nat.le_trans (by decide) hRl⟩) (ev_ok tM tS) (e_go (ev_ok tM tS) hE hD hS hA (List.range 128) (gN len9)) hK hP hD (List.range 128) nd128 (gN len9) (va_recv hK hP (ci := 9) (q0 := 0) rfl rfl) rfl hl.1 rfl (Nat.le_of_ble_eq_true rfl) dL_isShowSo_258 ⟨Nat.zero_le _, Nat.zero_le _⟩) hK hP hD hS hA (fun zr zu H locs hw hP hD hS => ?_)
                              have hw : (zr, zu) = (f_X9_undo q185_20.2) := hw
                              obtain ⟨q258_27, hq258_27⟩ : ∃ q9, q9 = (f_X9_undo q185_20.2) := ⟨_, rfl⟩
                              rw [← hq258_27] at hw
                              obtain ⟨rfl, rfl⟩ := pe hw
                              have hP : va_P D vwCl (wX9 z h a b c9 hh hh1 d0 d1 d2 d3 t9 t91 r9 r91 r92 r93 q258_27.2) H := hP
                              have hD : va_D A (wX9 z h a b c9 hh hh1 d0 d1 d2 d3 t9 t91 r9 r91 r92 r93 q258_27.2) := hD
                              refine lv_istore (lv' := [(12, .int q258_27.1), (11, .int 1), (10, .int q90_14.1), (9, .int (f_X9_count v 10)), (8, .int (f_X9_barn v x 5)), (7, .int (f_X9_count v 4)), (6, .int (f_X9_generator v 1 1)), (5, .int 1), (4, .int (f_X9_barn v x 4)), (3, .int (f_X9_ifPrice v x (f_X9_count v 11))), (2, .int (f_X9_barn v x 6)), (0, .ref h), (1, .int x)]) hx hb dL_isShowSo_261 hl (by decide) rfl (fun ls hl => ?_)
                              refine lv_iload hx hb dL_isShowSo_263 (lv_at hl 1 rfl) ?_
                              refine lv_if_eq (tgt := 287) hx hb dL_isShowSo_265 (by decide) (fun c_54 => absurd c_54 (by decide)) (fun c_54 => ?_)
                              refine lv_iload hx hb dL_isShowSo_268 (lv_at hl 0 rfl) ?_
                              refine lv_if_lt (tgt := 287) hx hb dL_isShowSo_270 (by decide) (fun c_55 => ?_) (fun c_55 => ?_)
                              · refine lv_iconst (v := 0) hx hb dL_isShowSo_287 (by decide) ?_
                                subst hQ
                                exact ret_z q258_27.2 hx hb hr rfl hK hP hD hS rfl ⟨(by unfold f_L_isShowSo; rw [if_pos c_1, if_pos c_30, ← hq90_14]; unfold f_L_isShowSo_q90_14; rw [if_pos c_31, if_pos c_32, if_pos c_34, if_pos c_36, if_pos c_38, if_pos c_40, ← hq185_20]; unfold f_L_isShowSo_q185_20; rw [if_pos c_42, if_pos c_44, if_pos c_46, if_pos c_48, if_pos c_50, if_pos c_52, ← hq258_27]; unfold f_L_isShowSo_q258_27; rw [if_pos c_55]; try rfl), (Or.inl rfl)⟩ dL_isShowSo_288 hlocks
                              · refine lv_aload_n hx hb dL_isShowSo_273 rfl (lv_at hl 11 rfl) ?_
                                refine lv_iconst (v := 4) hx hb dL_isShowSo_274 (by decide) ?_
                                refine call_W (w1 := fun _ => wX9 z h a b c9 hh hh1 d0 d1 d2 d3 t9 t91 r9 r91 r92 r93 q258_27.2) len9 (fun _ => len9) (rV (As := [.int 4]) (rest := []) ⟨hx, hb, hml, hown, hts⟩ (c_X9_count l D z tM tS h a b c9 hh hh1 d0 d1 d2 d3 t9 t91 r9 r91 r92 r93 q258_27.2 4 H.size) (cwV 1 hts gL_isShowSo_X9_count rfl rfl rfl (by decide +kernel) ⟨Nat.le_trans (by decide) hRf, Nat.le_trans (by decide) hRl⟩) (ev_ok tM tS) (e_go (ev_ok tM tS) hE hD hS hA (List.range 128) (gN len9)) hK hP hD (List.range 128) nd128 (gN len9) (va_recv hK hP (ci := 9) (q0 := 0) rfl rfl) rfl hl.1 rfl (Nat.le_of_ble_eq_true rfl) dL_isShowSo_275 ⟨Nat.zero_le _, Nat.zero_le _⟩) hK hP hD hS hA (fun zr zu H locs hw hP hD hS => ?_)
                                have hw : zr = (f_X9_count q258_27.2 4) := hw
                                subst hw
                                have hP : va_P D vwCl (wX9 z h a b c9 hh hh1 d0 d1 d2 d3 t9 t91 r9 r91 r92 r93 q258_27.2) H := hP
                                have hD : va_D A (wX9 z h a b c9 hh hh1 d0 d1 d2 d3 t9 t91 r9 r91 r92 r93 q258_27.2) := hD
                                refine lv_iload hx hb dL_isShowSo_278 (lv_at hl 5 rfl) ?_
                                refine lv_icmp_ne (tgt := 287) hx hb dL_isShowSo_280 (by decide) (fun c_56 => ?_) (fun c_56 => ?_)
                                · refine lv_iconst (v := 0) hx hb dL_isShowSo_287 (by decide) ?_
                                  subst hQ
                                  exact ret_z q258_27.2 hx hb hr rfl hK hP hD hS rfl ⟨(by unfold f_L_isShowSo; rw [if_pos c_1, if_pos c_30, ← hq90_14]; unfold f_L_isShowSo_q90_14; rw [if_pos c_31, if_pos c_32, if_pos c_34, if_pos c_36, if_pos c_38, if_pos c_40, ← hq185_20]; unfold f_L_isShowSo_q185_20; rw [if_pos c_42, if_pos c_44, if_pos c_46, if_pos c_48, if_pos c_50, if_pos c_52, ← hq258_27]; unfold f_L_isShowSo_q258_27; rw [if_neg c_55, if_neg c_56]; try rfl), (Or.inl rfl)⟩ dL_isShowSo_288 hlocks
                                · refine lv_iconst (v := 1) hx hb dL_isShowSo_283 (by decide) ?_
                                  refine lv_goto (tgt := 288) hx hb dL_isShowSo_284 (by decide) ?_
                                  subst hQ
                                  exact ret_z q258_27.2 hx hb hr rfl hK hP hD hS rfl ⟨(by unfold f_L_isShowSo; rw [if_pos c_1, if_pos c_30, ← hq90_14]; unfold f_L_isShowSo_q90_14; rw [if_pos c_31, if_pos c_32, if_pos c_34, if_pos c_36, if_pos c_38, if_pos c_40, ← hq185_20]; unfold f_L_isShowSo_q185_20; rw [if_pos c_42, if_pos c_44, if_pos c_46, if_pos c_48, if_pos c_50, if_pos c_52, ← hq258_27]; unfold f_L_isShowSo_q258_27; rw [if_neg c_55, if_pos c_56]; try rfl), (Or.inr rfl)⟩ dL_isShowSo_288 hlocks
      · refine lv_iload hx hb dL_isShowSo_99 (lv_at hl 0 rfl) ?_
        refine lv_ldc (v := (-10000010)) hx hb hown (hts (.constant RL 66 (-10000010)) (by decide +kernel)) dL_isShowSo_101 ?_
        refine lv_iload_n hx hb dL_isShowSo_103 rfl (lv_at hl 8 rfl) ?_
        refine lv_isub hx hb dL_isShowSo_104 ?_
        refine lv_icmp_ne (tgt := 122) hx hb dL_isShowSo_105 (by decide) (fun c_57 => ?_) (fun c_57 => ?_)
        · refine lv_iconst (v := 0) hx hb dL_isShowSo_122 (by decide) ?_
          subst hQ
          exact ret_z q90_14.2 hx hb hr rfl hK hP hD hS rfl ⟨(by unfold f_L_isShowSo; rw [if_pos c_1, if_pos c_30, ← hq90_14]; unfold f_L_isShowSo_q90_14; rw [if_neg c_31, if_neg c_57]; try rfl), (Or.inl rfl)⟩ dL_isShowSo_123 hlocks
        · refine lv_aload_n hx hb dL_isShowSo_108 rfl (lv_at hl 9 rfl) ?_
          refine lv_iconst (v := 4) hx hb dL_isShowSo_109 (by decide) ?_
          refine call_W (w1 := fun _ => wX9 z h a b c9 hh hh1 d0 d1 d2 d3 t9 t91 r9 r91 r92 r93 q90_14.2) len9 (fun _ => len9) (rV (As := [.int 4]) (rest := []) ⟨hx, hb, hml, hown, hts⟩ (c_X9_count l D z tM tS h a b c9 hh hh1 d0 d1 d2 d3 t9 t91 r9 r91 r92 r93 q90_14.2 4 H.size) (cwV 1 hts gL_isShowSo_X9_count rfl rfl rfl (by decide +kernel) ⟨Nat.le_trans (by decide) hRf, Nat.le_trans (by decide) hRl⟩) (ev_ok tM tS) (e_go (ev_ok tM tS) hE hD hS hA (List.range 128) (gN len9)) hK hP hD (List.range 128) nd128 (gN len9) (va_recv hK hP (ci := 9) (q0 := 0) rfl rfl) rfl hl.1 rfl (Nat.le_of_ble_eq_true rfl) dL_isShowSo_110 ⟨Nat.zero_le _, Nat.zero_le _⟩) hK hP hD hS hA (fun zr zu H locs hw hP hD hS => ?_)
          have hw : zr = (f_X9_count q90_14.2 4) := hw
          subst hw
          have hP : va_P D vwCl (wX9 z h a b c9 hh hh1 d0 d1 d2 d3 t9 t91 r9 r91 r92 r93 q90_14.2) H := hP
          have hD : va_D A (wX9 z h a b c9 hh hh1 d0 d1 d2 d3 t9 t91 r9 r91 r92 r93 q90_14.2) := hD
          refine lv_iload hx hb dL_isShowSo_113 (lv_at hl 3 rfl) ?_
          refine lv_icmp_ne (tgt := 122) hx hb dL_isShowSo_115 (by decide) (fun c_58 => ?_) (fun c_58 => ?_)
          · refine lv_iconst (v := 0) hx hb dL_isShowSo_122 (by decide) ?_
            subst hQ
            exact ret_z q90_14.2 hx hb hr rfl hK hP hD hS rfl ⟨(by unfold f_L_isShowSo; rw [if_pos c_1, if_pos c_30, ← hq90_14]; unfold f_L_isShowSo_q90_14; rw [if_neg c_31, if_pos c_57, if_neg c_58]; try rfl), (Or.inl rfl)⟩ dL_isShowSo_123 hlocks
          · refine lv_iconst (v := 1) hx hb dL_isShowSo_118 (by decide) ?_
            refine lv_goto (tgt := 123) hx hb dL_isShowSo_119 (by decide) ?_
            subst hQ
            exact ret_z q90_14.2 hx hb hr rfl hK hP hD hS rfl ⟨(by unfold f_L_isShowSo; rw [if_pos c_1, if_pos c_30, ← hq90_14]; unfold f_L_isShowSo_q90_14; rw [if_neg c_31, if_pos c_57, if_pos c_58]; try rfl), (Or.inr rfl)⟩ dL_isShowSo_123 hlocks
    · refine lv_iconst (v := 0) hx hb dL_isShowSo_49 (by decide) ?_
      refine lv_goto (tgt := 54) hx hb dL_isShowSo_50 (by decide) ?_
      refine lv_istore (lv' := [(5, .int 0), (4, .int (f_X9_barn v x 4)), (3, .int (f_X9_ifPrice v x (f_X9_count v 11))), (2, .int (f_X9_barn v x 6)), (0, .ref h), (1, .int x)]) hx hb dL_isShowSo_54 hl (by decide) rfl (fun ls hl => ?_)
      refine lv_aload_n hx hb dL_isShowSo_56 rfl (lv_at hl 4 rfl) ?_
      refine lv_iload hx hb dL_isShowSo_57 (lv_at hl 0 rfl) ?_
      refine lv_iconst (v := 1) hx hb dL_isShowSo_59 (by decide) ?_
      refine call_W (w1 := fun _ => wX9 z h a b c9 hh hh1 d0 d1 d2 d3 t9 t91 r9 r91 r92 r93 v) len9 (fun _ => len9) (rV (As := [.int 0, .int 1]) (rest := []) ⟨hx, hb, hml, hown, hts⟩ (c_X9_generator l D z tM tS h a b c9 hh hh1 d0 d1 d2 d3 t9 t91 r9 r91 r92 r93 v 0 1 H.size) (cwV 2 hts gL_isShowSo_X9_generator rfl rfl rfl (by decide +kernel) ⟨Nat.le_trans (by decide) hRf, Nat.le_trans (by decide) hRl⟩) (ev_ok tM tS) (e_go (ev_ok tM tS) hE hD hS hA (List.range 128) (gN len9)) hK hP hD (List.range 128) nd128 (gN len9) (va_recv hK hP (ci := 9) (q0 := 0) rfl rfl) rfl hl.1 rfl (Nat.le_of_ble_eq_true rfl) dL_isShowSo_60 ⟨Nat.zero_le _, Nat.zero_le _⟩) hK hP hD hS hA (fun zr zu H locs hw hP hD hS => ?_)
      have hw : zr = (f_X9_generator v 0 1) := hw
      subst hw
      have hP : va_P D vwCl (wX9 z h a b c9 hh hh1 d0 d1 d2 d3 t9 t91 r9 r91 r92 r93 v) H := hP
      have hD : va_D A (wX9 z h a b c9 hh hh1 d0 d1 d2 d3 t9 t91 r9 r91 r92 r93 v) := hD
      refine lv_istore (lv' := [(6, .int (f_X9_generator v 0 1)), (5, .int 0), (4, .int (f_X9_barn v x 4)), (3, .int (f_X9_ifPrice v x (f_X9_count v 11))), (2, .int (f_X9_barn v x 6)), (0, .ref h), (1, .int x)]) hx hb dL_isShowSo_63 hl (by decide) rfl (fun ls hl => ?_)
      refine lv_aload_n hx hb dL_isShowSo_65 rfl (lv_at hl 5 rfl) ?_
      refine lv_iconst (v := 4) hx hb dL_isShowSo_66 (by decide) ?_
      refine call_W (w1 := fun _ => wX9 z h a b c9 hh hh1 d0 d1 d2 d3 t9 t91 r9 r91 r92 r93 v) len9 (fun _ => len9) (rV (As := [.int 4]) (rest := []) ⟨hx, hb, hml, hown, hts⟩ (c_X9_count l D z tM tS h a b c9 hh hh1 d0 d1 d2 d3 t9 t91 r9 r91 r92 r93 v 4 H.size) (cwV 1 hts gL_isShowSo_X9_count rfl rfl rfl (by decide +kernel) ⟨Nat.le_trans (by decide) hRf, Nat.le_trans (by decide) hRl⟩) (ev_ok tM tS) (e_go (ev_ok tM tS) hE hD hS hA (List.range 128) (gN len9)) hK hP hD (List.range 128) nd128 (gN len9) (va_recv hK hP (ci := 9) (q0 := 0) rfl rfl) rfl hl.1 rfl (Nat.le_of_ble_eq_true rfl) dL_isShowSo_67 ⟨Nat.zero_le _, Nat.zero_le _⟩) hK hP hD hS hA (fun zr zu H locs hw hP hD hS => ?_)
      have hw : zr = (f_X9_count v 4) := hw
      subst hw
      have hP : va_P D vwCl (wX9 z h a b c9 hh hh1 d0 d1 d2 d3 t9 t91 r9 r91 r92 r93 v) H := hP
      have hD : va_D A (wX9 z h a b c9 hh hh1 d0 d1 d2 d3 t9 t91 r9 r91 r92 r93 v) := hD
      refine lv_istore (lv' := [(7, .int (f_X9_count v 4)), (6, .int (f_X9_generator v 0 1)), (5, .int 0), (4, .int (f_X9_barn v x 4)), (3, .int (f_X9_ifPrice v x (f_X9_count v 11))), (2, .int (f_X9_barn v x 6)), (0, .ref h), (1, .int x)]) hx hb dL_isShowSo_70 hl (by decide) rfl (fun ls hl => ?_)
      refine lv_aload_n hx hb dL_isShowSo_72 rfl (lv_at hl 6 rfl) ?_
      refine lv_iload_n hx hb dL_isShowSo_73 rfl (lv_at hl 7 rfl) ?_
      refine lv_iconst (v := 5) hx hb dL_isShowSo_74 (by decide) ?_
      refine call_W (w1 := fun _ => wX9 z h a b c9 hh hh1 d0 d1 d2 d3 t9 t91 r9 r91 r92 r93 v) len9 (fun _ => len9) (rV (As := [.int x, .int 5]) (rest := []) ⟨hx, hb, hml, hown, hts⟩ (c_X9_barn l D z tM tS h a b c9 hh hh1 d0 d1 d2 d3 t9 t91 r9 r91 r92 r93 v x 5 H.size) (cwV 2 hts gL_isShowSo_X9_barn rfl rfl rfl (by decide +kernel) ⟨Nat.le_trans (by decide) hRf, Nat.le_trans (by decide) hRl⟩) (ev_ok tM tS) (e_go (ev_ok tM tS) hE hD hS hA (List.range 128) (gN len9)) hK hP hD (List.range 128) nd128 (gN len9) (va_recv hK hP (ci := 9) (q0 := 0) rfl rfl) rfl hl.1 rfl (Nat.le_of_ble_eq_true rfl) dL_isShowSo_75 ⟨Nat.zero_le _, Nat.zero_le _⟩) hK hP hD hS hA (fun zr zu H locs hw hP hD hS => ?_)
      have hw : zr = (f_X9_barn v x 5) := hw
      subst hw
      have hP : va_P D vwCl (wX9 z h a b c9 hh hh1 d0 d1 d2 d3 t9 t91 r9 r91 r92 r93 v) H := hP
      have hD : va_D A (wX9 z h a b c9 hh hh1 d0 d1 d2 d3 t9 t91 r9 r91 r92 r93 v) := hD
      refine lv_istore (lv' := [(8, .int (f_X9_barn v x 5)), (7, .int (f_X9_count v 4)), (6, .int (f_X9_generator v 0 1)), (5, .int 0), (4, .int (f_X9_barn v x 4)), (3, .int (f_X9_ifPrice v x (f_X9_count v 11))), (2, .int (f_X9_barn v x 6)), (0, .ref h), (1, .int x)]) hx hb dL_isShowSo_78 hl (by decide) rfl (fun ls hl => ?_)
      refine lv_aload_n hx hb dL_isShowSo_80 rfl (lv_at hl 7 rfl) ?_
      refine lv_bipush (v := 10) hx hb dL_isShowSo_81 (by decide) ?_
      refine call_W (w1 := fun _ => wX9 z h a b c9 hh hh1 d0 d1 d2 d3 t9 t91 r9 r91 r92 r93 v) len9 (fun _ => len9) (rV (As := [.int 10]) (rest := []) ⟨hx, hb, hml, hown, hts⟩ (c_X9_count l D z tM tS h a b c9 hh hh1 d0 d1 d2 d3 t9 t91 r9 r91 r92 r93 v 10 H.size) (cwV 1 hts gL_isShowSo_X9_count rfl rfl rfl (by decide +kernel) ⟨Nat.le_trans (by decide) hRf, Nat.le_trans (by decide) hRl⟩) (ev_ok tM tS) (e_go (ev_ok tM tS) hE hD hS hA (List.range 128) (gN len9)) hK hP hD (List.range 128) nd128 (gN len9) (va_recv hK hP (ci := 9) (q0 := 0) rfl rfl) rfl hl.1 rfl (Nat.le_of_ble_eq_true rfl) dL_isShowSo_83 ⟨Nat.zero_le _, Nat.zero_le _⟩) hK hP hD hS hA (fun zr zu H locs hw hP hD hS => ?_)
      have hw : zr = (f_X9_count v 10) := hw
      subst hw
      have hP : va_P D vwCl (wX9 z h a b c9 hh hh1 d0 d1 d2 d3 t9 t91 r9 r91 r92 r93 v) H := hP
      have hD : va_D A (wX9 z h a b c9 hh hh1 d0 d1 d2 d3 t9 t91 r9 r91 r92 r93 v) := hD
      refine lv_istore (lv' := [(9, .int (f_X9_count v 10)), (8, .int (f_X9_barn v x 5)), (7, .int (f_X9_count v 4)), (6, .int (f_X9_generator v 0 1)), (5, .int 0), (4, .int (f_X9_barn v x 4)), (3, .int (f_X9_ifPrice v x (f_X9_count v 11))), (2, .int (f_X9_barn v x 6)), (0, .ref h), (1, .int x)]) hx hb dL_isShowSo_86 hl (by decide) rfl (fun ls hl => ?_)
      refine lv_aload_n hx hb dL_isShowSo_88 rfl (lv_at hl 8 rfl) ?_
      refine lv_iload_n hx hb dL_isShowSo_89 rfl (lv_at hl 9 rfl) ?_
      refine call_W (w1 := fun zu => wX9 z h a b c9 hh hh1 d0 d1 d2 d3 t9 t91 r9 r91 r92 r93 zu) len9 (fun _ => len9) (rV (As := [.int x]) (rest := []) ⟨hx, hb, hml, hown, hts⟩ (c_X9_show l D z tM tS h a b c9 hh hh1 d0 d1 d2 d3 t9 t91 r9 r91 r92 r93 v x (iv_n hI).1 (iv_n hI).2 (iv_w hI) H.size) (cwV 1 hts gL_isShowSo_X9_show rfl rfl rfl (by decide +kernel) ⟨Nat.le_trans (by decide) hRf, Nat.le_trans (by decide) hRl⟩) (ev_ok tM tS) (e_go (ev_ok tM tS) hE hD hS hA (List.range 128) (gN len9)) hK hP hD (List.range 128) nd128 (gN len9) (va_recv hK hP (ci := 9) (q0 := 0) rfl rfl) rfl hl.1 rfl (Nat.le_of_ble_eq_true rfl) dL_isShowSo_90 ⟨Nat.zero_le _, Nat.zero_le _⟩) hK hP hD hS hA (fun zr zu H locs hw hP hD hS => ?_)
      have hw : (zr, zu) = (f_X9_show v x) := hw
      obtain ⟨q90_28, hq90_28⟩ : ∃ q9, q9 = (f_X9_show v x) := ⟨_, rfl⟩
      rw [← hq90_28] at hw
      obtain ⟨rfl, rfl⟩ := pe hw
      have hP : va_P D vwCl (wX9 z h a b c9 hh hh1 d0 d1 d2 d3 t9 t91 r9 r91 r92 r93 q90_28.2) H := hP
      have hD : va_D A (wX9 z h a b c9 hh hh1 d0 d1 d2 d3 t9 t91 r9 r91 r92 r93 q90_28.2) := hD
      have hI_q90_28 : IV q90_28.2 := by rw [hq90_28]; exact iv_show hI x
      refine lv_istore (lv' := [(10, .int q90_28.1), (9, .int (f_X9_count v 10)), (8, .int (f_X9_barn v x 5)), (7, .int (f_X9_count v 4)), (6, .int (f_X9_generator v 0 1)), (5, .int 0), (4, .int (f_X9_barn v x 4)), (3, .int (f_X9_ifPrice v x (f_X9_count v 11))), (2, .int (f_X9_barn v x 6)), (0, .ref h), (1, .int x)]) hx hb dL_isShowSo_93 hl (by decide) rfl (fun ls hl => ?_)
      refine lv_iload_n hx hb dL_isShowSo_95 rfl (lv_at hl 8 rfl) ?_
      refine lv_if_le (tgt := 124) hx hb dL_isShowSo_96 (by decide) (fun c_59 => ?_) (fun c_59 => ?_)
      · refine lv_iload hx hb dL_isShowSo_124 (lv_at hl 0 rfl) ?_
        refine lv_iload_n hx hb dL_isShowSo_126 rfl (lv_at hl 7 rfl) ?_
        refine lv_icmp_ne (tgt := 254) hx hb dL_isShowSo_127 (by decide) (fun c_60 => ?_) (fun c_60 => ?_)
        · refine lv_iconst (v := 0) hx hb dL_isShowSo_254 (by decide) ?_
          refine lv_istore (lv' := [(11, .int 0), (10, .int q90_28.1), (9, .int (f_X9_count v 10)), (8, .int (f_X9_barn v x 5)), (7, .int (f_X9_count v 4)), (6, .int (f_X9_generator v 0 1)), (5, .int 0), (4, .int (f_X9_barn v x 4)), (3, .int (f_X9_ifPrice v x (f_X9_count v 11))), (2, .int (f_X9_barn v x 6)), (0, .ref h), (1, .int x)]) hx hb dL_isShowSo_255 hl (by decide) rfl (fun ls hl => ?_)
          refine lv_aload_n hx hb dL_isShowSo_257 rfl (lv_at hl 10 rfl) ?_
          refine call_W (w1 := fun zu => wX9 z h a b c9 hh hh1 d0 d1 d2 d3 t9 t91 r9 r91 r92 r93 zu) len9 (fun _ => len9) (rV (As := []) (rest := []) ⟨hx, hb, hml, hown, hts⟩ (c_X9_undo l D z tM tS h a b c9 hh hh1 d0 d1 d2 d3 t9 t91 r9 r91 r92 r93 q90_28.2 (iv_n hI_q90_28).1 (iv_n hI_q90_28).2 H.size) (cwV 0 hts gL_isShowSo_X9_undo rfl rfl rfl (by decide +kernel) ⟨Nat.le_trans (by decide) hRf, Nat.le_trans (by decide) hRl⟩) (ev_ok tM tS) (e_go (ev_ok tM tS) hE hD hS hA (List.range 128) (gN len9)) hK hP hD (List.range 128) nd128 (gN len9) (va_recv hK hP (ci := 9) (q0 := 0) rfl rfl) rfl hl.1 rfl (Nat.le_of_ble_eq_true rfl) dL_isShowSo_258 ⟨Nat.zero_le _, Nat.zero_le _⟩) hK hP hD hS hA (fun zr zu H locs hw hP hD hS => ?_)
          have hw : (zr, zu) = (f_X9_undo q90_28.2) := hw
          obtain ⟨q258_29, hq258_29⟩ : ∃ q9, q9 = (f_X9_undo q90_28.2) := ⟨_, rfl⟩
          rw [← hq258_29] at hw
          obtain ⟨rfl, rfl⟩ := pe hw
          have hP : va_P D vwCl (wX9 z h a b c9 hh hh1 d0 d1 d2 d3 t9 t91 r9 r91 r92 r93 q258_29.2) H := hP
          have hD : va_D A (wX9 z h a b c9 hh hh1 d0 d1 d2 d3 t9 t91 r9 r91 r92 r93 q258_29.2) := hD
          refine lv_istore (lv' := [(12, .int q258_29.1), (11, .int 0), (10, .int q90_28.1), (9, .int (f_X9_count v 10)), (8, .int (f_X9_barn v x 5)), (7, .int (f_X9_count v 4)), (6, .int (f_X9_generator v 0 1)), (5, .int 0), (4, .int (f_X9_barn v x 4)), (3, .int (f_X9_ifPrice v x (f_X9_count v 11))), (2, .int (f_X9_barn v x 6)), (0, .ref h), (1, .int x)]) hx hb dL_isShowSo_261 hl (by decide) rfl (fun ls hl => ?_)
          refine lv_iload hx hb dL_isShowSo_263 (lv_at hl 1 rfl) ?_
          refine lv_if_eq (tgt := 287) hx hb dL_isShowSo_265 (by decide) (fun c_61 => ?_) (fun c_61 => absurd c_61 (by decide))
          refine lv_iconst (v := 0) hx hb dL_isShowSo_287 (by decide) ?_
          subst hQ
          exact ret_z q258_29.2 hx hb hr rfl hK hP hD hS rfl ⟨(by unfold f_L_isShowSo; rw [if_pos c_1, if_neg c_30, ← hq90_28]; unfold f_L_isShowSo_q90_28; rw [if_pos c_59, if_neg c_60, ← hq258_29]; unfold f_L_isShowSo_q258_29; try rfl), (Or.inl rfl)⟩ dL_isShowSo_288 hlocks
        · refine lv_aload_n hx hb dL_isShowSo_130 rfl (lv_at hl 9 rfl) ?_
          refine lv_iconst (v := 4) hx hb dL_isShowSo_131 (by decide) ?_
          refine call_W (w1 := fun _ => wX9 z h a b c9 hh hh1 d0 d1 d2 d3 t9 t91 r9 r91 r92 r93 q90_28.2) len9 (fun _ => len9) (rV (As := [.int 4]) (rest := []) ⟨hx, hb, hml, hown, hts⟩ (c_X9_count l D z tM tS h a b c9 hh hh1 d0 d1 d2 d3 t9 t91 r9 r91 r92 r93 q90_28.2 4 H.size) (cwV 1 hts gL_isShowSo_X9_count rfl rfl rfl (by decide +kernel) ⟨Nat.le_trans (by decide) hRf, Nat.le_trans (by decide) hRl⟩) (ev_ok tM tS) (e_go (ev_ok tM tS) hE hD hS hA (List.range 128) (gN len9)) hK hP hD (List.range 128) nd128 (gN len9) (va_recv hK hP (ci := 9) (q0 := 0) rfl rfl) rfl hl.1 rfl (Nat.le_of_ble_eq_true rfl) dL_isShowSo_132 ⟨Nat.zero_le _, Nat.zero_le _⟩) hK hP hD hS hA (fun zr zu H locs hw hP hD hS => ?_)
          have hw : zr = (f_X9_count q90_28.2 4) := hw
          subst hw
          have hP : va_P D vwCl (wX9 z h a b c9 hh hh1 d0 d1 d2 d3 t9 t91 r9 r91 r92 r93 q90_28.2) H := hP
          have hD : va_D A (wX9 z h a b c9 hh hh1 d0 d1 d2 d3 t9 t91 r9 r91 r92 r93 q90_28.2) := hD
          refine lv_iload hx hb dL_isShowSo_135 (lv_at hl 3 rfl) ?_
          refine lv_iload hx hb dL_isShowSo_137 (lv_at hl 0 rfl) ?_
          refine lv_iadd hx hb dL_isShowSo_139 ?_
          refine lv_icmp_ne (tgt := 254) hx hb dL_isShowSo_140 (by decide) (fun c_62 => ?_) (fun c_62 => ?_)
          · refine lv_iconst (v := 0) hx hb dL_isShowSo_254 (by decide) ?_
            refine lv_istore (lv' := [(11, .int 0), (10, .int q90_28.1), (9, .int (f_X9_count v 10)), (8, .int (f_X9_barn v x 5)), (7, .int (f_X9_count v 4)), (6, .int (f_X9_generator v 0 1)), (5, .int 0), (4, .int (f_X9_barn v x 4)), (3, .int (f_X9_ifPrice v x (f_X9_count v 11))), (2, .int (f_X9_barn v x 6)), (0, .ref h), (1, .int x)]) hx hb dL_isShowSo_255 hl (by decide) rfl (fun ls hl => ?_)
            refine lv_aload_n hx hb dL_isShowSo_257 rfl (lv_at hl 10 rfl) ?_
            refine call_W (w1 := fun zu => wX9 z h a b c9 hh hh1 d0 d1 d2 d3 t9 t91 r9 r91 r92 r93 zu) len9 (fun _ => len9) (rV (As := []) (rest := []) ⟨hx, hb, hml, hown, hts⟩ (c_X9_undo l D z tM tS h a b c9 hh hh1 d0 d1 d2 d3 t9 t91 r9 r91 r92 r93 q90_28.2 (iv_n hI_q90_28).1 (iv_n hI_q90_28).2 H.size) (cwV 0 hts gL_isShowSo_X9_undo rfl rfl rfl (by decide +kernel) ⟨Nat.le_trans (by decide) hRf, Nat.le_trans (by decide) hRl⟩) (ev_ok tM tS) (e_go (ev_ok tM tS) hE hD hS hA (List.range 128) (gN len9)) hK hP hD (List.range 128) nd128 (gN len9) (va_recv hK hP (ci := 9) (q0 := 0) rfl rfl) rfl hl.1 rfl (Nat.le_of_ble_eq_true rfl) dL_isShowSo_258 ⟨Nat.zero_le _, Nat.zero_le _⟩) hK hP hD hS hA (fun zr zu H locs hw hP hD hS => ?_)
            have hw : (zr, zu) = (f_X9_undo q90_28.2) := hw
            obtain ⟨q258_30, hq258_30⟩ : ∃ q9, q9 = (f_X9_undo q90_28.2) := ⟨_, rfl⟩
            rw [← hq258_30] at hw
            obtain ⟨rfl, rfl⟩ := pe hw
            have hP : va_P D vwCl (wX9 z h a b c9 hh hh1 d0 d1 d2 d3 t9 t91 r9 r91 r92 r93 q258_30.2) H := hP
            have hD : va_D A (wX9 z h a b c9 hh hh1 d0 d1 d2 d3 t9 t91 r9 r91 r92 r93 q258_30.2) := hD
            refine lv_istore (lv' := [(12, .int q258_30.1), (11, .int 0), (10, .int q90_28.1), (9, .int (f_X9_count v 10)), (8, .int (f_X9_barn v x 5)), (7, .int (f_X9_count v 4)), (6, .int (f_X9_generator v 0 1)), (5, .int 0), (4, .int (f_X9_barn v x 4)), (3, .int (f_X9_ifPrice v x (f_X9_count v 11))), (2, .int (f_X9_barn v x 6)), (0, .ref h), (1, .int x)]) hx hb dL_isShowSo_261 hl (by decide) rfl (fun ls hl => ?_)
            refine lv_iload hx hb dL_isShowSo_263 (lv_at hl 1 rfl) ?_
            refine lv_if_eq (tgt := 287) hx hb dL_isShowSo_265 (by decide) (fun c_63 => ?_) (fun c_63 => absurd c_63 (by decide))
            refine lv_iconst (v := 0) hx hb dL_isShowSo_287 (by decide) ?_
            subst hQ
            exact ret_z q258_30.2 hx hb hr rfl hK hP hD hS rfl ⟨(by unfold f_L_isShowSo; rw [if_pos c_1, if_neg c_30, ← hq90_28]; unfold f_L_isShowSo_q90_28; rw [if_pos c_59, if_pos c_60, if_neg c_62, ← hq258_30]; unfold f_L_isShowSo_q258_30; try rfl), (Or.inl rfl)⟩ dL_isShowSo_288 hlocks
          · refine lv_aload_n hx hb dL_isShowSo_143 rfl (lv_at hl 9 rfl) ?_
            refine lv_iload hx hb dL_isShowSo_144 (lv_at hl 5 rfl) ?_
            refine lv_iconst (v := 1) hx hb dL_isShowSo_146 (by decide) ?_
            refine call_W (w1 := fun _ => wX9 z h a b c9 hh hh1 d0 d1 d2 d3 t9 t91 r9 r91 r92 r93 q90_28.2) len9 (fun _ => len9) (rV (As := [.int 0, .int 1]) (rest := []) ⟨hx, hb, hml, hown, hts⟩ (c_X9_generator l D z tM tS h a b c9 hh hh1 d0 d1 d2 d3 t9 t91 r9 r91 r92 r93 q90_28.2 0 1 H.size) (cwV 2 hts gL_isShowSo_X9_generator rfl rfl rfl (by decide +kernel) ⟨Nat.le_trans (by decide) hRf, Nat.le_trans (by decide) hRl⟩) (ev_ok tM tS) (e_go (ev_ok tM tS) hE hD hS hA (List.range 128) (gN len9)) hK hP hD (List.range 128) nd128 (gN len9) (va_recv hK hP (ci := 9) (q0 := 0) rfl rfl) rfl hl.1 rfl (Nat.le_of_ble_eq_true rfl) dL_isShowSo_147 ⟨Nat.zero_le _, Nat.zero_le _⟩) hK hP hD hS hA (fun zr zu H locs hw hP hD hS => ?_)
            have hw : zr = (f_X9_generator q90_28.2 0 1) := hw
            subst hw
            have hP : va_P D vwCl (wX9 z h a b c9 hh hh1 d0 d1 d2 d3 t9 t91 r9 r91 r92 r93 q90_28.2) H := hP
            have hD : va_D A (wX9 z h a b c9 hh hh1 d0 d1 d2 d3 t9 t91 r9 r91 r92 r93 q90_28.2) := hD
            refine lv_iload hx hb dL_isShowSo_150 (lv_at hl 4 rfl) ?_
            refine lv_iload hx hb dL_isShowSo_152 (lv_at hl 6 rfl) ?_
            refine lv_isub hx hb dL_isShowSo_154 ?_
            refine lv_icmp_ne (tgt := 254) hx hb dL_isShowSo_155 (by decide) (fun c_64 => ?_) (fun c_64 => ?_)
            · refine lv_iconst (v := 0) hx hb dL_isShowSo_254 (by decide) ?_
              refine lv_istore (lv' := [(11, .int 0), (10, .int q90_28.1), (9, .int (f_X9_count v 10)), (8, .int (f_X9_barn v x 5)), (7, .int (f_X9_count v 4)), (6, .int (f_X9_generator v 0 1)), (5, .int 0), (4, .int (f_X9_barn v x 4)), (3, .int (f_X9_ifPrice v x (f_X9_count v 11))), (2, .int (f_X9_barn v x 6)), (0, .ref h), (1, .int x)]) hx hb dL_isShowSo_255 hl (by decide) rfl (fun ls hl => ?_)
              refine lv_aload_n hx hb dL_isShowSo_257 rfl (lv_at hl 10 rfl) ?_
              refine call_W (w1 := fun zu => wX9 z h a b c9 hh hh1 d0 d1 d2 d3 t9 t91 r9 r91 r92 r93 zu) len9 (fun _ => len9) (rV (As := []) (rest := []) ⟨hx, hb, hml, hown, hts⟩ (c_X9_undo l D z tM tS h a b c9 hh hh1 d0 d1 d2 d3 t9 t91 r9 r91 r92 r93 q90_28.2 (iv_n hI_q90_28).1 (iv_n hI_q90_28).2 H.size) (cwV 0 hts gL_isShowSo_X9_undo rfl rfl rfl (by decide +kernel) ⟨Nat.le_trans (by decide) hRf, Nat.le_trans (by decide) hRl⟩) (ev_ok tM tS) (e_go (ev_ok tM tS) hE hD hS hA (List.range 128) (gN len9)) hK hP hD (List.range 128) nd128 (gN len9) (va_recv hK hP (ci := 9) (q0 := 0) rfl rfl) rfl hl.1 rfl (Nat.le_of_ble_eq_true rfl) dL_isShowSo_258 ⟨Nat.zero_le _, Nat.zero_le _⟩) hK hP hD hS hA (fun zr zu H locs hw hP hD hS => ?_)
              have hw : (zr, zu) = (f_X9_undo q90_28.2) := hw
              obtain ⟨q258_31, hq258_31⟩ : ∃ q9, q9 = (f_X9_undo q90_28.2) := ⟨_, rfl⟩
              rw [← hq258_31] at hw
              obtain ⟨rfl, rfl⟩ := pe hw
              have hP : va_P D vwCl (wX9 z h a b c9 hh hh1 d0 d1 d2 d3 t9 t91 r9 r91 r92 r93 q258_31.2) H := hP
              have hD : va_D A (wX9 z h a b c9 hh hh1 d0 d1 d2 d3 t9 t91 r9 r91 r92 r93 q258_31.2) := hD
              refine lv_istore (lv' := [(12, .int q258_31.1), (11, .int 0), (10, .int q90_28.1), (9, .int (f_X9_count v 10)), (8, .int (f_X9_barn v x 5)), (7, .int (f_X9_count v 4)), (6, .int (f_X9_generator v 0 1)), (5, .int 0), (4, .int (f_X9_barn v x 4)), (3, .int (f_X9_ifPrice v x (f_X9_count v 11))), (2, .int (f_X9_barn v x 6)), (0, .ref h), (1, .int x)]) hx hb dL_isShowSo_261 hl (by decide) rfl (fun ls hl => ?_)
              refine lv_iload hx hb dL_isShowSo_263 (lv_at hl 1 rfl) ?_
              refine lv_if_eq (tgt := 287) hx hb dL_isShowSo_265 (by decide) (fun c_65 => ?_) (fun c_65 => absurd c_65 (by decide))
              refine lv_iconst (v := 0) hx hb dL_isShowSo_287 (by decide) ?_
              subst hQ
              exact ret_z q258_31.2 hx hb hr rfl hK hP hD hS rfl ⟨(by unfold f_L_isShowSo; rw [if_pos c_1, if_neg c_30, ← hq90_28]; unfold f_L_isShowSo_q90_28; rw [if_pos c_59, if_pos c_60, if_pos c_62, if_neg c_64, ← hq258_31]; unfold f_L_isShowSo_q258_31; try rfl), (Or.inl rfl)⟩ dL_isShowSo_288 hlocks
            · refine lv_aload_n hx hb dL_isShowSo_158 rfl (lv_at hl 9 rfl) ?_
              refine lv_bipush (v := 10) hx hb dL_isShowSo_159 (by decide) ?_
              refine call_W (w1 := fun _ => wX9 z h a b c9 hh hh1 d0 d1 d2 d3 t9 t91 r9 r91 r92 r93 q90_28.2) len9 (fun _ => len9) (rV (As := [.int 10]) (rest := []) ⟨hx, hb, hml, hown, hts⟩ (c_X9_count l D z tM tS h a b c9 hh hh1 d0 d1 d2 d3 t9 t91 r9 r91 r92 r93 q90_28.2 10 H.size) (cwV 1 hts gL_isShowSo_X9_count rfl rfl rfl (by decide +kernel) ⟨Nat.le_trans (by decide) hRf, Nat.le_trans (by decide) hRl⟩) (ev_ok tM tS) (e_go (ev_ok tM tS) hE hD hS hA (List.range 128) (gN len9)) hK hP hD (List.range 128) nd128 (gN len9) (va_recv hK hP (ci := 9) (q0 := 0) rfl rfl) rfl hl.1 rfl (Nat.le_of_ble_eq_true rfl) dL_isShowSo_161 ⟨Nat.zero_le _, Nat.zero_le _⟩) hK hP hD hS hA (fun zr zu H locs hw hP hD hS => ?_)
              have hw : zr = (f_X9_count q90_28.2 10) := hw
              subst hw
              have hP : va_P D vwCl (wX9 z h a b c9 hh hh1 d0 d1 d2 d3 t9 t91 r9 r91 r92 r93 q90_28.2) H := hP
              have hD : va_D A (wX9 z h a b c9 hh hh1 d0 d1 d2 d3 t9 t91 r9 r91 r92 r93 q90_28.2) := hD
              refine lv_iload hx hb dL_isShowSo_164 (lv_at hl 1 rfl) ?_
              refine lv_iload hx hb dL_isShowSo_166 (lv_at hl 2 rfl) ?_
              refine lv_iadd hx hb dL_isShowSo_168 ?_
              refine lv_icmp_ne (tgt := 254) hx hb dL_isShowSo_169 (by decide) (fun c_66 => ?_) (fun c_66 => ?_)
              · refine lv_iconst (v := 0) hx hb dL_isShowSo_254 (by decide) ?_
                refine lv_istore (lv' := [(11, .int 0), (10, .int q90_28.1), (9, .int (f_X9_count v 10)), (8, .int (f_X9_barn v x 5)), (7, .int (f_X9_count v 4)), (6, .int (f_X9_generator v 0 1)), (5, .int 0), (4, .int (f_X9_barn v x 4)), (3, .int (f_X9_ifPrice v x (f_X9_count v 11))), (2, .int (f_X9_barn v x 6)), (0, .ref h), (1, .int x)]) hx hb dL_isShowSo_255 hl (by decide) rfl (fun ls hl => ?_)
                refine lv_aload_n hx hb dL_isShowSo_257 rfl (lv_at hl 10 rfl) ?_
                refine call_W (w1 := fun zu => wX9 z h a b c9 hh hh1 d0 d1 d2 d3 t9 t91 r9 r91 r92 r93 zu) len9 (fun _ => len9) (rV (As := []) (rest := []) ⟨hx, hb, hml, hown, hts⟩ (c_X9_undo l D z tM tS h a b c9 hh hh1 d0 d1 d2 d3 t9 t91 r9 r91 r92 r93 q90_28.2 (iv_n hI_q90_28).1 (iv_n hI_q90_28).2 H.size) (cwV 0 hts gL_isShowSo_X9_undo rfl rfl rfl (by decide +kernel) ⟨Nat.le_trans (by decide) hRf, Nat.le_trans (by decide) hRl⟩) (ev_ok tM tS) (e_go (ev_ok tM tS) hE hD hS hA (List.range 128) (gN len9)) hK hP hD (List.range 128) nd128 (gN len9) (va_recv hK hP (ci := 9) (q0 := 0) rfl rfl) rfl hl.1 rfl (Nat.le_of_ble_eq_true rfl) dL_isShowSo_258 ⟨Nat.zero_le _, Nat.zero_le _⟩) hK hP hD hS hA (fun zr zu H locs hw hP hD hS => ?_)
                have hw : (zr, zu) = (f_X9_undo q90_28.2) := hw
                obtain ⟨q258_32, hq258_32⟩ : ∃ q9, q9 = (f_X9_undo q90_28.2) := ⟨_, rfl⟩
                rw [← hq258_32] at hw
                obtain ⟨rfl, rfl⟩ := pe hw
                have hP : va_P D vwCl (wX9 z h a b c9 hh hh1 d0 d1 d2 d3 t9 t91 r9 r91 r92 r93 q258_32.2) H := hP
                have hD : va_D A (wX9 z h a b c9 hh hh1 d0 d1 d2 d3 t9 t91 r9 r91 r92 r93 q258_32.2) := hD
                refine lv_istore (lv' := [(12, .int q258_32.1), (11, .int 0), (10, .int q90_28.1), (9, .int (f_X9_count v 10)), (8, .int (f_X9_barn v x 5)), (7, .int (f_X9_count v 4)), (6, .int (f_X9_generator v 0 1)), (5, .int 0), (4, .int (f_X9_barn v x 4)), (3, .int (f_X9_ifPrice v x (f_X9_count v 11))), (2, .int (f_X9_barn v x 6)), (0, .ref h), (1, .int x)]) hx hb dL_isShowSo_261 hl (by decide) rfl (fun ls hl => ?_)
                refine lv_iload hx hb dL_isShowSo_263 (lv_at hl 1 rfl) ?_
                refine lv_if_eq (tgt := 287) hx hb dL_isShowSo_265 (by decide) (fun c_67 => ?_) (fun c_67 => absurd c_67 (by decide))
                refine lv_iconst (v := 0) hx hb dL_isShowSo_287 (by decide) ?_
                subst hQ
                exact ret_z q258_32.2 hx hb hr rfl hK hP hD hS rfl ⟨(by unfold f_L_isShowSo; rw [if_pos c_1, if_neg c_30, ← hq90_28]; unfold f_L_isShowSo_q90_28; rw [if_pos c_59, if_pos c_60, if_pos c_62, if_pos c_64, if_neg c_66, ← hq258_32]; unfold f_L_isShowSo_q258_32; try rfl), (Or.inl rfl)⟩ dL_isShowSo_288 hlocks
              · refine lv_aload_n hx hb dL_isShowSo_172 rfl (lv_at hl 9 rfl) ?_
                refine lv_iload_n hx hb dL_isShowSo_173 rfl (lv_at hl 10 rfl) ?_
                refine lv_bipush (v := 6) hx hb dL_isShowSo_174 (by decide) ?_
                refine call_W (w1 := fun _ => wX9 z h a b c9 hh hh1 d0 d1 d2 d3 t9 t91 r9 r91 r92 r93 q90_28.2) len9 (fun _ => len9) (rV (As := [.int x, .int 6]) (rest := []) ⟨hx, hb, hml, hown, hts⟩ (c_X9_barn l D z tM tS h a b c9 hh hh1 d0 d1 d2 d3 t9 t91 r9 r91 r92 r93 q90_28.2 x 6 H.size) (cwV 2 hts gL_isShowSo_X9_barn rfl rfl rfl (by decide +kernel) ⟨Nat.le_trans (by decide) hRf, Nat.le_trans (by decide) hRl⟩) (ev_ok tM tS) (e_go (ev_ok tM tS) hE hD hS hA (List.range 128) (gN len9)) hK hP hD (List.range 128) nd128 (gN len9) (va_recv hK hP (ci := 9) (q0 := 0) rfl rfl) rfl hl.1 rfl (Nat.le_of_ble_eq_true rfl) dL_isShowSo_176 ⟨Nat.zero_le _, Nat.zero_le _⟩) hK hP hD hS hA (fun zr zu H locs hw hP hD hS => ?_)
                have hw : zr = (f_X9_barn q90_28.2 x 6) := hw
                subst hw
                have hP : va_P D vwCl (wX9 z h a b c9 hh hh1 d0 d1 d2 d3 t9 t91 r9 r91 r92 r93 q90_28.2) H := hP
                have hD : va_D A (wX9 z h a b c9 hh hh1 d0 d1 d2 d3 t9 t91 r9 r91 r92 r93 q90_28.2) := hD
                refine lv_iconst (v := 1) hx hb dL_isShowSo_179 (by decide) ?_
                refine lv_icmp_ne (tgt := 254) hx hb dL_isShowSo_180 (by decide) (fun c_68 => ?_) (fun c_68 => ?_)
                · refine lv_iconst (v := 0) hx hb dL_isShowSo_254 (by decide) ?_
                  refine lv_istore (lv' := [(11, .int 0), (10, .int q90_28.1), (9, .int (f_X9_count v 10)), (8, .int (f_X9_barn v x 5)), (7, .int (f_X9_count v 4)), (6, .int (f_X9_generator v 0 1)), (5, .int 0), (4, .int (f_X9_barn v x 4)), (3, .int (f_X9_ifPrice v x (f_X9_count v 11))), (2, .int (f_X9_barn v x 6)), (0, .ref h), (1, .int x)]) hx hb dL_isShowSo_255 hl (by decide) rfl (fun ls hl => ?_)
                  refine lv_aload_n hx hb dL_isShowSo_257 rfl (lv_at hl 10 rfl) ?_
                  refine call_W (w1 := fun zu => wX9 z h a b c9 hh hh1 d0 d1 d2 d3 t9 t91 r9 r91 r92 r93 zu) len9 (fun _ => len9) (rV (As := []) (rest := []) ⟨hx, hb, hml, hown, hts⟩ (c_X9_undo l D z tM tS h a b c9 hh hh1 d0 d1 d2 d3 t9 t91 r9 r91 r92 r93 q90_28.2 (iv_n hI_q90_28).1 (iv_n hI_q90_28).2 H.size) (cwV 0 hts gL_isShowSo_X9_undo rfl rfl rfl (by decide +kernel) ⟨Nat.le_trans (by decide) hRf, Nat.le_trans (by decide) hRl⟩) (ev_ok tM tS) (e_go (ev_ok tM tS) hE hD hS hA (List.range 128) (gN len9)) hK hP hD (List.range 128) nd128 (gN len9) (va_recv hK hP (ci := 9) (q0 := 0) rfl rfl) rfl hl.1 rfl (Nat.le_of_ble_eq_true rfl) dL_isShowSo_258 ⟨Nat.zero_le _, Nat.zero_le _⟩) hK hP hD hS hA (fun zr zu H locs hw hP hD hS => ?_)
                  have hw : (zr, zu) = (f_X9_undo q90_28.2) := hw
                  obtain ⟨q258_33, hq258_33⟩ : ∃ q9, q9 = (f_X9_undo q90_28.2) := ⟨_, rfl⟩
                  rw [← hq258_33] at hw
                  obtain ⟨rfl, rfl⟩ := pe hw
                  have hP : va_P D vwCl (wX9 z h a b c9 hh hh1 d0 d1 d2 d3 t9 t91 r9 r91 r92 r93 q258_33.2) H := hP
                  have hD : va_D A (wX9 z h a b c9 hh hh1 d0 d1 d2 d3 t9 t91 r9 r91 r92 r93 q258_33.2) := hD
                  refine lv_istore (lv' := [(12, .int q258_33.1), (11, .int 0), (10, .int q90_28.1), (9, .int (f_X9_count v 10)), (8, .int (f_X9_barn v x 5)), (7, .int (f_X9_count v 4)), (6, .int (f_X9_generator v 0 1)), (5, .int 0), (4, .int (f_X9_barn v x 4)), (3, .int (f_X9_ifPrice v x (f_X9_count v 11))), (2, .int (f_X9_barn v x 6)), (0, .ref h), (1, .int x)]) hx hb dL_isShowSo_261 hl (by decide) rfl (fun ls hl => ?_)
                  refine lv_iload hx hb dL_isShowSo_263 (lv_at hl 1 rfl) ?_
                  refine lv_if_eq (tgt := 287) hx hb dL_isShowSo_265 (by decide) (fun c_69 => ?_) (fun c_69 => absurd c_69 (by decide))
                  refine lv_iconst (v := 0) hx hb dL_isShowSo_287 (by decide) ?_
                  subst hQ
                  exact ret_z q258_33.2 hx hb hr rfl hK hP hD hS rfl ⟨(by unfold f_L_isShowSo; rw [if_pos c_1, if_neg c_30, ← hq90_28]; unfold f_L_isShowSo_q90_28; rw [if_pos c_59, if_pos c_60, if_pos c_62, if_pos c_64, if_pos c_66, if_neg c_68, ← hq258_33]; unfold f_L_isShowSo_q258_33; try rfl), (Or.inl rfl)⟩ dL_isShowSo_288 hlocks
                · refine lv_aload_n hx hb dL_isShowSo_183 rfl (lv_at hl 9 rfl) ?_
                  refine lv_iload_n hx hb dL_isShowSo_184 rfl (lv_at hl 10 rfl) ?_
                  refine call_W (w1 := fun zu => wX9 z h a b c9 hh hh1 d0 d1 d2 d3 t9 t91 r9 r91 r92 r93 zu) len9 (fun _ => len9) (rV (As := [.int x]) (rest := []) ⟨hx, hb, hml, hown, hts⟩ (c_X9_show l D z tM tS h a b c9 hh hh1 d0 d1 d2 d3 t9 t91 r9 r91 r92 r93 q90_28.2 x (iv_n hI_q90_28).1 (iv_n hI_q90_28).2 (iv_w hI_q90_28) H.size) (cwV 1 hts gL_isShowSo_X9_show rfl rfl rfl (by decide +kernel) ⟨Nat.le_trans (by decide) hRf, Nat.le_trans (by decide) hRl⟩) (ev_ok tM tS) (e_go (ev_ok tM tS) hE hD hS hA (List.range 128) (gN len9)) hK hP hD (List.range 128) nd128 (gN len9) (va_recv hK hP (ci := 9) (q0 := 0) rfl rfl) rfl hl.1 rfl (Nat.le_of_ble_eq_true rfl) dL_isShowSo_185 ⟨Nat.zero_le _, Nat.zero_le _⟩) hK hP hD hS hA (fun zr zu H locs hw hP hD hS => ?_)
                  have hw : (zr, zu) = (f_X9_show q90_28.2 x) := hw
                  obtain ⟨q185_34, hq185_34⟩ : ∃ q9, q9 = (f_X9_show q90_28.2 x) := ⟨_, rfl⟩
                  rw [← hq185_34] at hw
                  obtain ⟨rfl, rfl⟩ := pe hw
                  have hP : va_P D vwCl (wX9 z h a b c9 hh hh1 d0 d1 d2 d3 t9 t91 r9 r91 r92 r93 q185_34.2) H := hP
                  have hD : va_D A (wX9 z h a b c9 hh hh1 d0 d1 d2 d3 t9 t91 r9 r91 r92 r93 q185_34.2) := hD
                  have hI_q185_34 : IV q185_34.2 := by rw [hq185_34]; exact iv_show hI_q90_28 x
                  refine lv_ldc (v := (-10000011)) hx hb hown (hts (.constant RL 67 (-10000011)) (by decide +kernel)) dL_isShowSo_188 ?_
                  refine lv_icmp_ne (tgt := 254) hx hb dL_isShowSo_190 (by decide) (fun c_70 => ?_) (fun c_70 => ?_)
                  · refine lv_iconst (v := 0) hx hb dL_isShowSo_254 (by decide) ?_
                    refine lv_istore (lv' := [(11, .int 0), (10, .int q90_28.1), (9, .int (f_X9_count v 10)), (8, .int (f_X9_barn v x 5)), (7, .int (f_X9_count v 4)), (6, .int (f_X9_generator v 0 1)), (5, .int 0), (4, .int (f_X9_barn v x 4)), (3, .int (f_X9_ifPrice v x (f_X9_count v 11))), (2, .int (f_X9_barn v x 6)), (0, .ref h), (1, .int x)]) hx hb dL_isShowSo_255 hl (by decide) rfl (fun ls hl => ?_)
                    refine lv_aload_n hx hb dL_isShowSo_257 rfl (lv_at hl 10 rfl) ?_
                    refine call_W (w1 := fun zu => wX9 z h a b c9 hh hh1 d0 d1 d2 d3 t9 t91 r9 r91 r92 r93 zu) len9 (fun _ => len9) (rV (As := []) (rest := []) ⟨hx, hb, hml, hown, hts⟩ (c_X9_undo l D z tM tS h a b c9 hh hh1 d0 d1 d2 d3 t9 t91 r9 r91 r92 r93 q185_34.2 (iv_n hI_q185_34).1 (iv_n hI_q185_34).2 H.size) (cwV 0 hts gL_isShowSo_X9_undo rfl rfl rfl (by decide +kernel) ⟨Nat.le_trans (by decide) hRf, Nat.le_trans (by decide) hRl⟩) (ev_ok tM tS) (e_go (ev_ok tM tS) hE hD hS hA (List.range 128) (gN len9)) hK hP hD (List.range 128) nd128 (gN len9) (va_recv hK hP (ci := 9) (q0 := 0) rfl rfl) rfl hl.1 rfl (Nat.le_of_ble_eq_true rfl) dL_isShowSo_258 ⟨Nat.zero_le _, Nat.zero_le _⟩) hK hP hD hS hA (fun zr zu H locs hw hP hD hS => ?_)
                    have hw : (zr, zu) = (f_X9_undo q185_34.2) := hw
                    obtain ⟨q258_35, hq258_35⟩ : ∃ q9, q9 = (f_X9_undo q185_34.2) := ⟨_, rfl⟩
                    rw [← hq258_35] at hw
                    obtain ⟨rfl, rfl⟩ := pe hw
                    have hP : va_P D vwCl (wX9 z h a b c9 hh hh1 d0 d1 d2 d3 t9 t91 r9 r91 r92 r93 q258_35.2) H := hP
                    have hD : va_D A (wX9 z h a b c9 hh hh1 d0 d1 d2 d3 t9 t91 r9 r91 r92 r93 q258_35.2) := hD
                    refine lv_istore (lv' := [(12, .int q258_35.1), (11, .int 0), (10, .int q90_28.1), (9, .int (f_X9_count v 10)), (8, .int (f_X9_barn v x 5)), (7, .int (f_X9_count v 4)), (6, .int (f_X9_generator v 0 1)), (5, .int 0), (4, .int (f_X9_barn v x 4)), (3, .int (f_X9_ifPrice v x (f_X9_count v 11))), (2, .int (f_X9_barn v x 6)), (0, .ref h), (1, .int x)]) hx hb dL_isShowSo_261 hl (by decide) rfl (fun ls hl => ?_)
                    refine lv_iload hx hb dL_isShowSo_263 (lv_at hl 1 rfl) ?_
                    refine lv_if_eq (tgt := 287) hx hb dL_isShowSo_265 (by decide) (fun c_71 => ?_) (fun c_71 => absurd c_71 (by decide))
                    refine lv_iconst (v := 0) hx hb dL_isShowSo_287 (by decide) ?_
                    subst hQ
                    exact ret_z q258_35.2 hx hb hr rfl hK hP hD hS rfl ⟨(by unfold f_L_isShowSo; rw [if_pos c_1, if_neg c_30, ← hq90_28]; unfold f_L_isShowSo_q90_28; rw [if_pos c_59, if_pos c_60, if_pos c_62, if_pos c_64, if_pos c_66, if_pos c_68, ← hq185_34]; unfold f_L_isShowSo_q185_34; rw [if_neg c_70, ← hq258_35]; unfold f_L_isShowSo_q258_35; try rfl), (Or.inl rfl)⟩ dL_isShowSo_288 hlocks
                  · refine lv_aload_n hx hb dL_isShowSo_193 rfl (lv_at hl 9 rfl) ?_
                    refine lv_iconst (v := 0) hx hb dL_isShowSo_194 (by decide) ?_
                    refine lv_iconst (v := 1) hx hb dL_isShowSo_195 (by decide) ?_
                    refine call_W (w1 := fun _ => wX9 z h a b c9 hh hh1 d0 d1 d2 d3 t9 t91 r9 r91 r92 r93 q185_34.2) len9 (fun _ => len9) (rV (As := [.int 0, .int 1]) (rest := []) ⟨hx, hb, hml, hown, hts⟩ (c_X9_showOf l D z tM tS h a b c9 hh hh1 d0 d1 d2 d3 t9 t91 r9 r91 r92 r93 q185_34.2 0 1 (iv_ls hI_q185_34) H.size) (cwV 2 hts gL_isShowSo_X9_showOf rfl rfl rfl (by decide +kernel) ⟨Nat.le_trans (by decide) hRf, Nat.le_trans (by decide) hRl⟩) (ev_ok tM tS) (e_go (ev_ok tM tS) hE hD hS hA (List.range 128) (gN len9)) hK hP hD (List.range 128) nd128 (gN len9) (va_recv hK hP (ci := 9) (q0 := 0) rfl rfl) rfl hl.1 rfl (Nat.le_of_ble_eq_true rfl) dL_isShowSo_196 ⟨Nat.zero_le _, Nat.zero_le _⟩) hK hP hD hS hA (fun zr zu H locs hw hP hD hS => ?_)
                    have hw : zr = (f_X9_showOf q185_34.2 0 1) := hw
                    subst hw
                    have hP : va_P D vwCl (wX9 z h a b c9 hh hh1 d0 d1 d2 d3 t9 t91 r9 r91 r92 r93 q185_34.2) H := hP
                    have hD : va_D A (wX9 z h a b c9 hh hh1 d0 d1 d2 d3 t9 t91 r9 r91 r92 r93 q185_34.2) := hD
                    refine lv_iload_n hx hb dL_isShowSo_199 rfl (lv_at hl 10 rfl) ?_
                    refine lv_icmp_ne (tgt := 254) hx hb dL_isShowSo_200 (by decide) (fun c_72 => ?_) (fun c_72 => ?_)
                    · refine lv_iconst (v := 0) hx hb dL_isShowSo_254 (by decide) ?_
                      refine lv_istore (lv' := [(11, .int 0), (10, .int q90_28.1), (9, .int (f_X9_count v 10)), (8, .int (f_X9_barn v x 5)), (7, .int (f_X9_count v 4)), (6, .int (f_X9_generator v 0 1)), (5, .int 0), (4, .int (f_X9_barn v x 4)), (3, .int (f_X9_ifPrice v x (f_X9_count v 11))), (2, .int (f_X9_barn v x 6)), (0, .ref h), (1, .int x)]) hx hb dL_isShowSo_255 hl (by decide) rfl (fun ls hl => ?_)
                      refine lv_aload_n hx hb dL_isShowSo_257 rfl (lv_at hl 10 rfl) ?_
                      refine call_W (w1 := fun zu => wX9 z h a b c9 hh hh1 d0 d1 d2 d3 t9 t91 r9 r91 r92 r93 zu) len9 (fun _ => len9) (rV (As := []) (rest := []) ⟨hx, hb, hml, hown, hts⟩ (c_X9_undo l D z tM tS h a b c9 hh hh1 d0 d1 d2 d3 t9 t91 r9 r91 r92 r93 q185_34.2 (iv_n hI_q185_34).1 (iv_n hI_q185_34).2 H.size) (cwV 0 hts gL_isShowSo_X9_undo rfl rfl rfl (by decide +kernel) ⟨Nat.le_trans (by decide) hRf, Nat.le_trans (by decide) hRl⟩) (ev_ok tM tS) (e_go (ev_ok tM tS) hE hD hS hA (List.range 128) (gN len9)) hK hP hD (List.range 128) nd128 (gN len9) (va_recv hK hP (ci := 9) (q0 := 0) rfl rfl) rfl hl.1 rfl (Nat.le_of_ble_eq_true rfl) dL_isShowSo_258 ⟨Nat.zero_le _, Nat.zero_le _⟩) hK hP hD hS hA (fun zr zu H locs hw hP hD hS => ?_)
                      have hw : (zr, zu) = (f_X9_undo q185_34.2) := hw
                      obtain ⟨q258_36, hq258_36⟩ : ∃ q9, q9 = (f_X9_undo q185_34.2) := ⟨_, rfl⟩
                      rw [← hq258_36] at hw
                      obtain ⟨rfl, rfl⟩ := pe hw
                      have hP : va_P D vwCl (wX9 z h a b c9 hh hh1 d0 d1 d2 d3 t9 t91 r9 r91 r92 r93 q258_36.2) H := hP
                      have hD : va_D A (wX9 z h a b c9 hh hh1 d0 d1 d2 d3 t9 t91 r9 r91 r92 r93 q258_36.2) := hD
                      refine lv_istore (lv' := [(12, .int q258_36.1), (11, .int 0), (10, .int q90_28.1), (9, .int (f_X9_count v 10)), (8, .int (f_X9_barn v x 5)), (7, .int (f_X9_count v 4)), (6, .int (f_X9_generator v 0 1)), (5, .int 0), (4, .int (f_X9_barn v x 4)), (3, .int (f_X9_ifPrice v x (f_X9_count v 11))), (2, .int (f_X9_barn v x 6)), (0, .ref h), (1, .int x)]) hx hb dL_isShowSo_261 hl (by decide) rfl (fun ls hl => ?_)
                      refine lv_iload hx hb dL_isShowSo_263 (lv_at hl 1 rfl) ?_
                      refine lv_if_eq (tgt := 287) hx hb dL_isShowSo_265 (by decide) (fun c_73 => ?_) (fun c_73 => absurd c_73 (by decide))
                      refine lv_iconst (v := 0) hx hb dL_isShowSo_287 (by decide) ?_
                      subst hQ
                      exact ret_z q258_36.2 hx hb hr rfl hK hP hD hS rfl ⟨(by unfold f_L_isShowSo; rw [if_pos c_1, if_neg c_30, ← hq90_28]; unfold f_L_isShowSo_q90_28; rw [if_pos c_59, if_pos c_60, if_pos c_62, if_pos c_64, if_pos c_66, if_pos c_68, ← hq185_34]; unfold f_L_isShowSo_q185_34; rw [if_pos c_70, if_neg c_72, ← hq258_36]; unfold f_L_isShowSo_q258_36; try rfl), (Or.inl rfl)⟩ dL_isShowSo_288 hlocks
                    · refine lv_aload_n hx hb dL_isShowSo_203 rfl (lv_at hl 9 rfl) ?_
                      refine lv_iconst (v := 0) hx hb dL_isShowSo_204 (by decide) ?_
                      refine lv_iconst (v := 2) hx hb dL_isShowSo_205 (by decide) ?_
                      refine call_W (w1 := fun _ => wX9 z h a b c9 hh hh1 d0 d1 d2 d3 t9 t91 r9 r91 r92 r93 q185_34.2) len9 (fun _ => len9) (rV (As := [.int 0, .int 2]) (rest := []) ⟨hx, hb, hml, hown, hts⟩ (c_X9_showOf l D z tM tS h a b c9 hh hh1 d0 d1 d2 d3 t9 t91 r9 r91 r92 r93 q185_34.2 0 2 (iv_ls hI_q185_34) H.size) (cwV 2 hts gL_isShowSo_X9_showOf rfl rfl rfl (by decide +kernel) ⟨Nat.le_trans (by decide) hRf, Nat.le_trans (by decide) hRl⟩) (ev_ok tM tS) (e_go (ev_ok tM tS) hE hD hS hA (List.range 128) (gN len9)) hK hP hD (List.range 128) nd128 (gN len9) (va_recv hK hP (ci := 9) (q0 := 0) rfl rfl) rfl hl.1 rfl (Nat.le_of_ble_eq_true rfl) dL_isShowSo_206 ⟨Nat.zero_le _, Nat.zero_le _⟩) hK hP hD hS hA (fun zr zu H locs hw hP hD hS => ?_)
                      have hw : zr = (f_X9_showOf q185_34.2 0 2) := hw
                      subst hw
                      have hP : va_P D vwCl (wX9 z h a b c9 hh hh1 d0 d1 d2 d3 t9 t91 r9 r91 r92 r93 q185_34.2) H := hP
                      have hD : va_D A (wX9 z h a b c9 hh hh1 d0 d1 d2 d3 t9 t91 r9 r91 r92 r93 q185_34.2) := hD
                      refine lv_iload hx hb dL_isShowSo_209 (lv_at hl 2 rfl) ?_
                      refine lv_icmp_ne (tgt := 254) hx hb dL_isShowSo_211 (by decide) (fun c_74 => ?_) (fun c_74 => ?_)
                      · refine lv_iconst (v := 0) hx hb dL_isShowSo_254 (by decide) ?_
                        refine lv_istore (lv' := [(11, .int 0), (10, .int q90_28.1), (9, .int (f_X9_count v 10)), (8, .int (f_X9_barn v x 5)), (7, .int (f_X9_count v 4)), (6, .int (f_X9_generator v 0 1)), (5, .int 0), (4, .int (f_X9_barn v x 4)), (3, .int (f_X9_ifPrice v x (f_X9_count v 11))), (2, .int (f_X9_barn v x 6)), (0, .ref h), (1, .int x)]) hx hb dL_isShowSo_255 hl (by decide) rfl (fun ls hl => ?_)
                        refine lv_aload_n hx hb dL_isShowSo_257 rfl (lv_at hl 10 rfl) ?_
                        refine call_W (w1 := fun zu => wX9 z h a b c9 hh hh1 d0 d1 d2 d3 t9 t91 r9 r91 r92 r93 zu) len9 (fun _ => len9) (rV (As := []) (rest := []) ⟨hx, hb, hml, hown, hts⟩ (c_X9_undo l D z tM tS h a b c9 hh hh1 d0 d1 d2 d3 t9 t91 r9 r91 r92 r93 q185_34.2 (iv_n hI_q185_34).1 (iv_n hI_q185_34).2 H.size) (cwV 0 hts gL_isShowSo_X9_undo rfl rfl rfl (by decide +kernel) ⟨Nat.le_trans (by decide) hRf, Nat.le_trans (by decide) hRl⟩) (ev_ok tM tS) (e_go (ev_ok tM tS) hE hD hS hA (List.range 128) (gN len9)) hK hP hD (List.range 128) nd128 (gN len9) (va_recv hK hP (ci := 9) (q0 := 0) rfl rfl) rfl hl.1 rfl (Nat.le_of_ble_eq_true rfl) dL_isShowSo_258 ⟨Nat.zero_le _, Nat.zero_le _⟩) hK hP hD hS hA (fun zr zu H locs hw hP hD hS => ?_)
                        have hw : (zr, zu) = (f_X9_undo q185_34.2) := hw
                        obtain ⟨q258_37, hq258_37⟩ : ∃ q9, q9 = (f_X9_undo q185_34.2) := ⟨_, rfl⟩
                        rw [← hq258_37] at hw
                        obtain ⟨rfl, rfl⟩ := pe hw
                        have hP : va_P D vwCl (wX9 z h a b c9 hh hh1 d0 d1 d2 d3 t9 t91 r9 r91 r92 r93 q258_37.2) H := hP
                        have hD : va_D A (wX9 z h a b c9 hh hh1 d0 d1 d2 d3 t9 t91 r9 r91 r92 r93 q258_37.2) := hD
                        refine lv_istore (lv' := [(12, .int q258_37.1), (11, .int 0), (10, .int q90_28.1), (9, .int (f_X9_count v 10)), (8, .int (f_X9_barn v x 5)), (7, .int (f_X9_count v 4)), (6, .int (f_X9_generator v 0 1)), (5, .int 0), (4, .int (f_X9_barn v x 4)), (3, .int (f_X9_ifPrice v x (f_X9_count v 11))), (2, .int (f_X9_barn v x 6)), (0, .ref h), (1, .int x)]) hx hb dL_isShowSo_261 hl (by decide) rfl (fun ls hl => ?_)
                        refine lv_iload hx hb dL_isShowSo_263 (lv_at hl 1 rfl) ?_
                        refine lv_if_eq (tgt := 287) hx hb dL_isShowSo_265 (by decide) (fun c_75 => ?_) (fun c_75 => absurd c_75 (by decide))
                        refine lv_iconst (v := 0) hx hb dL_isShowSo_287 (by decide) ?_
                        subst hQ
                        exact ret_z q258_37.2 hx hb hr rfl hK hP hD hS rfl ⟨(by unfold f_L_isShowSo; rw [if_pos c_1, if_neg c_30, ← hq90_28]; unfold f_L_isShowSo_q90_28; rw [if_pos c_59, if_pos c_60, if_pos c_62, if_pos c_64, if_pos c_66, if_pos c_68, ← hq185_34]; unfold f_L_isShowSo_q185_34; rw [if_pos c_70, if_pos c_72, if_neg c_74, ← hq258_37]; unfold f_L_isShowSo_q258_37; try rfl), (Or.inl rfl)⟩ dL_isShowSo_288 hlocks
                      · refine lv_aload_n hx hb dL_isShowSo_214 rfl (lv_at hl 9 rfl) ?_
                        refine lv_iconst (v := 0) hx hb dL_isShowSo_215 (by decide) ?_
                        refine lv_iconst (v := 3) hx hb dL_isShowSo_216 (by decide) ?_
                        refine call_W (w1 := fun _ => wX9 z h a b c9 hh hh1 d0 d1 d2 d3 t9 t91 r9 r91 r92 r93 q185_34.2) len9 (fun _ => len9) (rV (As := [.int 0, .int 3]) (rest := []) ⟨hx, hb, hml, hown, hts⟩ (c_X9_showOf l D z tM tS h a b c9 hh hh1 d0 d1 d2 d3 t9 t91 r9 r91 r92 r93 q185_34.2 0 3 (iv_ls hI_q185_34) H.size) (cwV 2 hts gL_isShowSo_X9_showOf rfl rfl rfl (by decide +kernel) ⟨Nat.le_trans (by decide) hRf, Nat.le_trans (by decide) hRl⟩) (ev_ok tM tS) (e_go (ev_ok tM tS) hE hD hS hA (List.range 128) (gN len9)) hK hP hD (List.range 128) nd128 (gN len9) (va_recv hK hP (ci := 9) (q0 := 0) rfl rfl) rfl hl.1 rfl (Nat.le_of_ble_eq_true rfl) dL_isShowSo_217 ⟨Nat.zero_le _, Nat.zero_le _⟩) hK hP hD hS hA (fun zr zu H locs hw hP hD hS => ?_)
                        have hw : zr = (f_X9_showOf q185_34.2 0 3) := hw
                        subst hw
                        have hP : va_P D vwCl (wX9 z h a b c9 hh hh1 d0 d1 d2 d3 t9 t91 r9 r91 r92 r93 q185_34.2) H := hP
                        have hD : va_D A (wX9 z h a b c9 hh hh1 d0 d1 d2 d3 t9 t91 r9 r91 r92 r93 q185_34.2) := hD
                        refine lv_iload hx hb dL_isShowSo_220 (lv_at hl 0 rfl) ?_
                        refine lv_icmp_ne (tgt := 254) hx hb dL_isShowSo_222 (by decide) (fun c_76 => ?_) (fun c_76 => ?_)
                        · refine lv_iconst (v := 0) hx hb dL_isShowSo_254 (by decide) ?_
                          refine lv_istore (lv' := [(11, .int 0), (10, .int q90_28.1), (9, .int (f_X9_count v 10)), (8, .int (f_X9_barn v x 5)), (7, .int (f_X9_count v 4)), (6, .int (f_X9_generator v 0 1)), (5, .int 0), (4, .int (f_X9_barn v x 4)), (3, .int (f_X9_ifPrice v x (f_X9_count v 11))), (2, .int (f_X9_barn v x 6)), (0, .ref h), (1, .int x)]) hx hb dL_isShowSo_255 hl (by decide) rfl (fun ls hl => ?_)
                          refine lv_aload_n hx hb dL_isShowSo_257 rfl (lv_at hl 10 rfl) ?_
                          refine call_W (w1 := fun zu => wX9 z h a b c9 hh hh1 d0 d1 d2 d3 t9 t91 r9 r91 r92 r93 zu) len9 (fun _ => len9) (rV (As := []) (rest := []) ⟨hx, hb, hml, hown, hts⟩ (c_X9_undo l D z tM tS h a b c9 hh hh1 d0 d1 d2 d3 t9 t91 r9 r91 r92 r93 q185_34.2 (iv_n hI_q185_34).1 (iv_n hI_q185_34).2 H.size) (cwV 0 hts gL_isShowSo_X9_undo rfl rfl rfl (by decide +kernel) ⟨Nat.le_trans (by decide) hRf, Nat.le_trans (by decide) hRl⟩) (ev_ok tM tS) (e_go (ev_ok tM tS) hE hD hS hA (List.range 128) (gN len9)) hK hP hD (List.range 128) nd128 (gN len9) (va_recv hK hP (ci := 9) (q0 := 0) rfl rfl) rfl hl.1 rfl (Nat.le_of_ble_eq_true rfl) dL_isShowSo_258 ⟨Nat.zero_le _, Nat.zero_le _⟩) hK hP hD hS hA (fun zr zu H locs hw hP hD hS => ?_)
                          have hw : (zr, zu) = (f_X9_undo q185_34.2) := hw
                          obtain ⟨q258_38, hq258_38⟩ : ∃ q9, q9 = (f_X9_undo q185_34.2) := ⟨_, rfl⟩
                          rw [← hq258_38] at hw
                          obtain ⟨rfl, rfl⟩ := pe hw
                          have hP : va_P D vwCl (wX9 z h a b c9 hh hh1 d0 d1 d2 d3 t9 t91 r9 r91 r92 r93 q258_38.2) H := hP
                          have hD : va_D A (wX9 z h a b c9 hh hh1 d0 d1 d2 d3 t9 t91 r9 r91 r92 r93 q258_38.2) := hD
                          refine lv_istore (lv' := [(12, .int q258_38.1), (11, .int 0), (10, .int q90_28.1), (9, .int (f_X9_count v 10)), (8, .int (f_X9_barn v x 5)), (7, .int (f_X9_count v 4)), (6, .int (f_X9_generator v 0 1)), (5, .int 0), (4, .int (f_X9_barn v x 4)), (3, .int (f_X9_ifPrice v x (f_X9_count v 11))), (2, .int (f_X9_barn v x 6)), (0, .ref h), (1, .int x)]) hx hb dL_isShowSo_261 hl (by decide) rfl (fun ls hl => ?_)
                          refine lv_iload hx hb dL_isShowSo_263 (lv_at hl 1 rfl) ?_
                          refine lv_if_eq (tgt := 287) hx hb dL_isShowSo_265 (by decide) (fun c_77 => ?_) (fun c_77 => absurd c_77 (by decide))
                          refine lv_iconst (v := 0) hx hb dL_isShowSo_287 (by decide) ?_
                          subst hQ
                          exact ret_z q258_38.2 hx hb hr rfl hK hP hD hS rfl ⟨(by unfold f_L_isShowSo; rw [if_pos c_1, if_neg c_30, ← hq90_28]; unfold f_L_isShowSo_q90_28; rw [if_pos c_59, if_pos c_60, if_pos c_62, if_pos c_64, if_pos c_66, if_pos c_68, ← hq185_34]; unfold f_L_isShowSo_q185_34; rw [if_pos c_70, if_pos c_72, if_pos c_74, if_neg c_76, ← hq258_38]; unfold f_L_isShowSo_q258_38; try rfl), (Or.inl rfl)⟩ dL_isShowSo_288 hlocks
                        · refine lv_aload_n hx hb dL_isShowSo_225 rfl (lv_at hl 9 rfl) ?_
                          refine lv_iconst (v := 0) hx hb dL_isShowSo_226 (by decide) ?_
                          refine lv_iconst (v := 4) hx hb dL_isShowSo_227 (by decide) ?_
                          refine call_W (w1 := fun _ => wX9 z h a b c9 hh hh1 d0 d1 d2 d3 t9 t91 r9 r91 r92 r93 q185_34.2) len9 (fun _ => len9) (rV (As := [.int 0, .int 4]) (rest := []) ⟨hx, hb, hml, hown, hts⟩ (c_X9_showOf l D z tM tS h a b c9 hh hh1 d0 d1 d2 d3 t9 t91 r9 r91 r92 r93 q185_34.2 0 4 (iv_ls hI_q185_34) H.size) (cwV 2 hts gL_isShowSo_X9_showOf rfl rfl rfl (by decide +kernel) ⟨Nat.le_trans (by decide) hRf, Nat.le_trans (by decide) hRl⟩) (ev_ok tM tS) (e_go (ev_ok tM tS) hE hD hS hA (List.range 128) (gN len9)) hK hP hD (List.range 128) nd128 (gN len9) (va_recv hK hP (ci := 9) (q0 := 0) rfl rfl) rfl hl.1 rfl (Nat.le_of_ble_eq_true rfl) dL_isShowSo_228 ⟨Nat.zero_le _, Nat.zero_le _⟩) hK hP hD hS hA (fun zr zu H locs hw hP hD hS => ?_)
                          have hw : zr = (f_X9_showOf q185_34.2 0 4) := hw
                          subst hw
                          have hP : va_P D vwCl (wX9 z h a b c9 hh hh1 d0 d1 d2 d3 t9 t91 r9 r91 r92 r93 q185_34.2) H := hP
                          have hD : va_D A (wX9 z h a b c9 hh hh1 d0 d1 d2 d3 t9 t91 r9 r91 r92 r93 q185_34.2) := hD
                          refine lv_iload hx hb dL_isShowSo_231 (lv_at hl 6 rfl) ?_
                          refine lv_icmp_ne (tgt := 254) hx hb dL_isShowSo_233 (by decide) (fun c_78 => ?_) (fun c_78 => ?_)
                          · refine lv_iconst (v := 0) hx hb dL_isShowSo_254 (by decide) ?_
                            refine lv_istore (lv' := [(11, .int 0), (10, .int q90_28.1), (9, .int (f_X9_count v 10)), (8, .int (f_X9_barn v x 5)), (7, .int (f_X9_count v 4)), (6, .int (f_X9_generator v 0 1)), (5, .int 0), (4, .int (f_X9_barn v x 4)), (3, .int (f_X9_ifPrice v x (f_X9_count v 11))), (2, .int (f_X9_barn v x 6)), (0, .ref h), (1, .int x)]) hx hb dL_isShowSo_255 hl (by decide) rfl (fun ls hl => ?_)
                            refine lv_aload_n hx hb dL_isShowSo_257 rfl (lv_at hl 10 rfl) ?_
                            refine call_W (w1 := fun zu => wX9 z h a b c9 hh hh1 d0 d1 d2 d3 t9 t91 r9 r91 r92 r93 zu) len9 (fun _ => len9) (rV (As := []) (rest := []) ⟨hx, hb, hml, hown, hts⟩ (c_X9_undo l D z tM tS h a b c9 hh hh1 d0 d1 d2 d3 t9 t91 r9 r91 r92 r93 q185_34.2 (iv_n hI_q185_34).1 (iv_n hI_q185_34).2 H.size) (cwV 0 hts gL_isShowSo_X9_undo rfl rfl rfl (by decide +kernel) ⟨Nat.le_trans (by decide) hRf, Nat.le_trans (by decide) hRl⟩) (ev_ok tM tS) (e_go (ev_ok tM tS) hE hD hS hA (List.range 128) (gN len9)) hK hP hD (List.range 128) nd128 (gN len9) (va_recv hK hP (ci := 9) (q0 := 0) rfl rfl) rfl hl.1 rfl (Nat.le_of_ble_eq_true rfl) dL_isShowSo_258 ⟨Nat.zero_le _, Nat.zero_le _⟩) hK hP hD hS hA (fun zr zu H locs hw hP hD hS => ?_)
                            have hw : (zr, zu) = (f_X9_undo q185_34.2) := hw
                            obtain ⟨q258_39, hq258_39⟩ : ∃ q9, q9 = (f_X9_undo q185_34.2) := ⟨_, rfl⟩
                            rw [← hq258_39] at hw
                            obtain ⟨rfl, rfl⟩ := pe hw
                            have hP : va_P D vwCl (wX9 z h a b c9 hh hh1 d0 d1 d2 d3 t9 t91 r9 r91 r92 r93 q258_39.2) H := hP
                            have hD : va_D A (wX9 z h a b c9 hh hh1 d0 d1 d2 d3 t9 t91 r9 r91 r92 r93 q258_39.2) := hD
                            refine lv_istore (lv' := [(12, .int q258_39.1), (11, .int 0), (10, .int q90_28.1), (9, .int (f_X9_count v 10)), (8, .int (f_X9_barn v x 5)), (7, .int (f_X9_count v 4)), (6, .int (f_X9_generator v 0 1)), (5, .int 0), (4, .int (f_X9_barn v x 4)), (3, .int (f_X9_ifPrice v x (f_X9_count v 11))), (2, .int (f_X9_barn v x 6)), (0, .ref h), (1, .int x)]) hx hb dL_isShowSo_261 hl (by decide) rfl (fun ls hl => ?_)
                            refine lv_iload hx hb dL_isShowSo_263 (lv_at hl 1 rfl) ?_
                            refine lv_if_eq (tgt := 287) hx hb dL_isShowSo_265 (by decide) (fun c_79 => ?_) (fun c_79 => absurd c_79 (by decide))
                            refine lv_iconst (v := 0) hx hb dL_isShowSo_287 (by decide) ?_
                            subst hQ
                            exact ret_z q258_39.2 hx hb hr rfl hK hP hD hS rfl ⟨(by unfold f_L_isShowSo; rw [if_pos c_1, if_neg c_30, ← hq90_28]; unfold f_L_isShowSo_q90_28; rw [if_pos c_59, if_pos c_60, if_pos c_62, if_pos c_64, if_pos c_66, if_pos c_68, ← hq185_34]; unfold f_L_isShowSo_q185_34; rw [if_pos c_70, if_pos c_72, if_pos c_74, if_pos c_76, if_neg c_78, ← hq258_39]; unfold f_L_isShowSo_q258_39; try rfl), (Or.inl rfl)⟩ dL_isShowSo_288 hlocks
                          · refine lv_aload_n hx hb dL_isShowSo_236 rfl (lv_at hl 9 rfl) ?_
                            refine lv_iconst (v := 0) hx hb dL_isShowSo_237 (by decide) ?_
                            refine lv_iconst (v := 0) hx hb dL_isShowSo_238 (by decide) ?_
                            refine call_W (w1 := fun _ => wX9 z h a b c9 hh hh1 d0 d1 d2 d3 t9 t91 r9 r91 r92 r93 q185_34.2) len9 (fun _ => len9) (rV (As := [.int 0, .int 0]) (rest := []) ⟨hx, hb, hml, hown, hts⟩ (c_X9_showOf l D z tM tS h a b c9 hh hh1 d0 d1 d2 d3 t9 t91 r9 r91 r92 r93 q185_34.2 0 0 (iv_ls hI_q185_34) H.size) (cwV 2 hts gL_isShowSo_X9_showOf rfl rfl rfl (by decide +kernel) ⟨Nat.le_trans (by decide) hRf, Nat.le_trans (by decide) hRl⟩) (ev_ok tM tS) (e_go (ev_ok tM tS) hE hD hS hA (List.range 128) (gN len9)) hK hP hD (List.range 128) nd128 (gN len9) (va_recv hK hP (ci := 9) (q0 := 0) rfl rfl) rfl hl.1 rfl (Nat.le_of_ble_eq_true rfl) dL_isShowSo_239 ⟨Nat.zero_le _, Nat.zero_le _⟩) hK hP hD hS hA (fun zr zu H locs hw hP hD hS => ?_)
                            have hw : zr = (f_X9_showOf q185_34.2 0 0) := hw
                            subst hw
                            have hP : va_P D vwCl (wX9 z h a b c9 hh hh1 d0 d1 d2 d3 t9 t91 r9 r91 r92 r93 q185_34.2) H := hP
                            have hD : va_D A (wX9 z h a b c9 hh hh1 d0 d1 d2 d3 t9 t91 r9 r91 r92 r93 q185_34.2) := hD
                            refine lv_aload_n hx hb dL_isShowSo_242 rfl (lv_at hl 9 rfl) ?_
                            refine lv_iconst (v := 0) hx hb dL_isShowSo_243 (by decide) ?_
                            refine call_W (w1 := fun _ => wX9 z h a b c9 hh hh1 d0 d1 d2 d3 t9 t91 r9 r91 r92 r93 q185_34.2) len9 (fun _ => len9) (rV (As := [.int 0]) (rest := [.int (f_X9_showOf q185_34.2 0 0)]) ⟨hx, hb, hml, hown, hts⟩ (c_X9_count l D z tM tS h a b c9 hh hh1 d0 d1 d2 d3 t9 t91 r9 r91 r92 r93 q185_34.2 0 H.size) (cwV 1 hts gL_isShowSo_X9_count rfl rfl rfl (by decide +kernel) ⟨Nat.le_trans (by decide) hRf, Nat.le_trans (by decide) hRl⟩) (ev_ok tM tS) (e_go (ev_ok tM tS) hE hD hS hA (List.range 128) (gN len9)) hK hP hD (List.range 128) nd128 (gN len9) (va_recv hK hP (ci := 9) (q0 := 0) rfl rfl) rfl hl.1 rfl (Nat.le_of_ble_eq_true rfl) dL_isShowSo_244 ⟨Nat.zero_le _, Nat.zero_le _⟩) hK hP hD hS hA (fun zr zu H locs hw hP hD hS => ?_)
                            have hw : zr = (f_X9_count q185_34.2 0) := hw
                            subst hw
                            have hP : va_P D vwCl (wX9 z h a b c9 hh hh1 d0 d1 d2 d3 t9 t91 r9 r91 r92 r93 q185_34.2) H := hP
                            have hD : va_D A (wX9 z h a b c9 hh hh1 d0 d1 d2 d3 t9 t91 r9 r91 r92 r93 q185_34.2) := hD
                            refine lv_icmp_ne (tgt := 254) hx hb dL_isShowSo_247 (by decide) (fun c_80 => ?_) (fun c_80 => ?_)
                            · refine lv_iconst (v := 0) hx hb dL_isShowSo_254 (by decide) ?_
                              refine lv_istore (lv' := [(11, .int 0), (10, .int q90_28.1), (9, .int (f_X9_count v 10)), (8, .int (f_X9_barn v x 5)), (7, .int (f_X9_count v 4)), (6, .int (f_X9_generator v 0 1)), (5, .int 0), (4, .int (f_X9_barn v x 4)), (3, .int (f_X9_ifPrice v x (f_X9_count v 11))), (2, .int (f_X9_barn v x 6)), (0, .ref h), (1, .int x)]) hx hb dL_isShowSo_255 hl (by decide) rfl (fun ls hl => ?_)
                              refine lv_aload_n hx hb dL_isShowSo_257 rfl (lv_at hl 10 rfl) ?_
                              refine call_W (w1 := fun zu => wX9 z h a b c9 hh hh1 d0 d1 d2 d3 t9 t91 r9 r91 r92 r93 zu) len9 (fun _ => len9) (rV (As := []) (rest := []) ⟨hx, hb, hml, hown, hts⟩ (c_X9_undo l D z tM tS h a b c9 hh hh1 d0 d1 d2 d3 t9 t91 r9 r91 r92 r93 q185_34.2 (iv_n hI_q185_34).1 (iv_n hI_q185_34).2 H.size) (cwV 0 hts gL_isShowSo_X9_undo rfl rfl rfl (by decide +kernel) ⟨Nat.le_trans (by decide) hRf, Nat.le_trans (by decide) hRl⟩) (ev_ok tM tS) (e_go (ev_ok tM tS) hE hD hS hA (List.range 128) (gN len9)) hK hP hD (List.range 128) nd128 (gN len9) (va_recv hK hP (ci := 9) (q0 := 0) rfl rfl) rfl hl.1 rfl (Nat.le_of_ble_eq_true rfl) dL_isShowSo_258 ⟨Nat.zero_le _, Nat.zero_le _⟩) hK hP hD hS hA (fun zr zu H locs hw hP hD hS => ?_)
                              have hw : (zr, zu) = (f_X9_undo q185_34.2) := hw
                              obtain ⟨q258_40, hq258_40⟩ : ∃ q9, q9 = (f_X9_undo q185_34.2) := ⟨_, rfl⟩
                              rw [← hq258_40] at hw
                              obtain ⟨rfl, rfl⟩ := pe hw
                              have hP : va_P D vwCl (wX9 z h a b c9 hh hh1 d0 d1 d2 d3 t9 t91 r9 r91 r92 r93 q258_40.2) H := hP
                              have hD : va_D A (wX9 z h a b c9 hh hh1 d0 d1 d2 d3 t9 t91 r9 r91 r92 r93 q258_40.2) := hD
                              refine lv_istore (lv' := [(12, .int q258_40.1), (11, .int 0), (10, .int q90_28.1), (9, .int (f_X9_count v 10)), (8, .int (f_X9_barn v x 5)), (7, .int (f_X9_count v 4)), (6, .int (f_X9_generator v 0 1)), (5, .int 0), (4, .int (f_X9_barn v x 4)), (3, .int (f_X9_ifPrice v x (f_X9_count v 11))), (2, .int (f_X9_barn v x 6)), (0, .ref h), (1, .int x)]) hx hb dL_isShowSo_261 hl (by decide) rfl (fun ls hl => ?_)
                              refine lv_iload hx hb dL_isShowSo_263 (lv_at hl 1 rfl) ?_
                              refine lv_if_eq (tgt := 287) hx hb dL_isShowSo_265 (by decide) (fun c_81 => ?_) (fun c_81 => absurd c_81 (by decide))
                              refine lv_iconst (v := 0) hx hb dL_isShowSo_287 (by decide) ?_
                              subst hQ
                              exact ret_z q258_40.2 hx hb hr rfl hK hP hD hS rfl ⟨(by unfold f_L_isShowSo; rw [if_pos c_1, if_neg c_30, ← hq90_28]; unfold f_L_isShowSo_q90_28; rw [if_pos c_59, if_pos c_60, if_pos c_62, if_pos c_64, if_pos c_66, if_pos c_68, ← hq185_34]; unfold f_L_isShowSo_q185_34; rw [if_pos c_70, if_pos c_72, if_pos c_74, if_pos c_76, if_pos c_78, if_neg c_80, ← hq258_40]; unfold f_L_isShowSo_q258_40; try rfl), (Or.inl rfl)⟩ dL_isShowSo_288 hlocks
                            · refine lv_iconst (v := 1) hx hb dL_isShowSo_250 (by decide) ?_
                              refine lv_goto (tgt := 255) hx hb dL_isShowSo_251 (by decide) ?_
                              refine lv_istore (lv' := [(11, .int 1), (10, .int q90_28.1), (9, .int (f_X9_count v 10)), (8, .int (f_X9_barn v x 5)), (7, .int (f_X9_count v 4)), (6, .int (f_X9_generator v 0 1)), (5, .int 0), (4, .int (f_X9_barn v x 4)), (3, .int (f_X9_ifPrice v x (f_X9_count v 11))), (2, .int (f_X9_barn v x 6)), (0, .ref h), (1, .int x)]) hx hb dL_isShowSo_255 hl (by decide) rfl (fun ls hl => ?_)
                              refine lv_aload_n hx hb dL_isShowSo_257 rfl (lv_at hl 10 rfl) ?_
                              refine call_W (w1 := fun zu => wX9 z h a b c9 hh hh1 d0 d1 d2 d3 t9 t91 r9 r91 r92 r93 zu) len9 (fun _ => len9) (rV (As := []) (rest := []) ⟨hx, hb, hml, hown, hts⟩ (c_X9_undo l D z tM tS h a b c9 hh hh1 d0 d1 d2 d3 t9 t91 r9 r91 r92 r93 q185_34.2 (iv_n hI_q185_34).1 (iv_n hI_q185_34).2 H.size) (cwV 0 hts gL_isShowSo_X9_undo rfl rfl rfl (by decide +kernel) ⟨Nat.le_trans (by decide) hRf, Nat.le_trans (by decide) hRl⟩) (ev_ok tM tS) (e_go (ev_ok tM tS) hE hD hS hA (List.range 128) (gN len9)) hK hP hD (List.range 128) nd128 (gN len9) (va_recv hK hP (ci := 9) (q0 := 0) rfl rfl) rfl hl.1 rfl (Nat.le_of_ble_eq_true rfl) dL_isShowSo_258 ⟨Nat.zero_le _, Nat.zero_le _⟩) hK hP hD hS hA (fun zr zu H locs hw hP hD hS => ?_)
                              have hw : (zr, zu) = (f_X9_undo q185_34.2) := hw
                              obtain ⟨q258_41, hq258_41⟩ : ∃ q9, q9 = (f_X9_undo q185_34.2) := ⟨_, rfl⟩
                              rw [← hq258_41] at hw
                              obtain ⟨rfl, rfl⟩ := pe hw
                              have hP : va_P D vwCl (wX9 z h a b c9 hh hh1 d0 d1 d2 d3 t9 t91 r9 r91 r92 r93 q258_41.2) H := hP
                              have hD : va_D A (wX9 z h a b c9 hh hh1 d0 d1 d2 d3 t9 t91 r9 r91 r92 r93 q258_41.2) := hD
                              refine lv_istore (lv' := [(12, .int q258_41.1), (11, .int 1), (10, .int q90_28.1), (9, .int (f_X9_count v 10)), (8, .int (f_X9_barn v x 5)), (7, .int (f_X9_count v 4)), (6, .int (f_X9_generator v 0 1)), (5, .int 0), (4, .int (f_X9_barn v x 4)), (3, .int (f_X9_ifPrice v x (f_X9_count v 11))), (2, .int (f_X9_barn v x 6)), (0, .ref h), (1, .int x)]) hx hb dL_isShowSo_261 hl (by decide) rfl (fun ls hl => ?_)
                              refine lv_iload hx hb dL_isShowSo_263 (lv_at hl 1 rfl) ?_
                              refine lv_if_eq (tgt := 287) hx hb dL_isShowSo_265 (by decide) (fun c_82 => absurd c_82 (by decide)) (fun c_82 => ?_)
                              refine lv_iload hx hb dL_isShowSo_268 (lv_at hl 0 rfl) ?_
                              refine lv_if_lt (tgt := 287) hx hb dL_isShowSo_270 (by decide) (fun c_83 => ?_) (fun c_83 => ?_)
                              · refine lv_iconst (v := 0) hx hb dL_isShowSo_287 (by decide) ?_
                                subst hQ
                                exact ret_z q258_41.2 hx hb hr rfl hK hP hD hS rfl ⟨(by unfold f_L_isShowSo; rw [if_pos c_1, if_neg c_30, ← hq90_28]; unfold f_L_isShowSo_q90_28; rw [if_pos c_59, if_pos c_60, if_pos c_62, if_pos c_64, if_pos c_66, if_pos c_68, ← hq185_34]; unfold f_L_isShowSo_q185_34; rw [if_pos c_70, if_pos c_72, if_pos c_74, if_pos c_76, if_pos c_78, if_pos c_80, ← hq258_41]; unfold f_L_isShowSo_q258_41; rw [if_pos c_83]; try rfl), (Or.inl rfl)⟩ dL_isShowSo_288 hlocks
                              · refine lv_aload_n hx hb dL_isShowSo_273 rfl (lv_at hl 11 rfl) ?_
                                refine lv_iconst (v := 4) hx hb dL_isShowSo_274 (by decide) ?_
                                refine call_W (w1 := fun _ => wX9 z h a b c9 hh hh1 d0 d1 d2 d3 t9 t91 r9 r91 r92 r93 q258_41.2) len9 (fun _ => len9) (rV (As := [.int 4]) (rest := []) ⟨hx, hb, hml, hown, hts⟩ (c_X9_count l D z tM tS h a b c9 hh hh1 d0 d1 d2 d3 t9 t91 r9 r91 r92 r93 q258_41.2 4 H.size) (cwV 1 hts gL_isShowSo_X9_count rfl rfl rfl (by decide +kernel) ⟨Nat.le_trans (by decide) hRf, Nat.le_trans (by decide) hRl⟩) (ev_ok tM tS) (e_go (ev_ok tM tS) hE hD hS hA (List.range 128) (gN len9)) hK hP hD (List.range 128) nd128 (gN len9) (va_recv hK hP (ci := 9) (q0 := 0) rfl rfl) rfl hl.1 rfl (Nat.le_of_ble_eq_true rfl) dL_isShowSo_275 ⟨Nat.zero_le _, Nat.zero_le _⟩) hK hP hD hS hA (fun zr zu H locs hw hP hD hS => ?_)
                                have hw : zr = (f_X9_count q258_41.2 4) := hw
                                subst hw
                                have hP : va_P D vwCl (wX9 z h a b c9 hh hh1 d0 d1 d2 d3 t9 t91 r9 r91 r92 r93 q258_41.2) H := hP
                                have hD : va_D A (wX9 z h a b c9 hh hh1 d0 d1 d2 d3 t9 t91 r9 r91 r92 r93 q258_41.2) := hD
                                refine lv_iload hx hb dL_isShowSo_278 (lv_at hl 5 rfl) ?_
                                refine lv_icmp_ne (tgt := 287) hx hb dL_isShowSo_280 (by decide) (fun c_84 => ?_) (fun c_84 => ?_)
                                · refine lv_iconst (v := 0) hx hb dL_isShowSo_287 (by decide) ?_
                                  subst hQ
                                  exact ret_z q258_41.2 hx hb hr rfl hK hP hD hS rfl ⟨(by unfold f_L_isShowSo; rw [if_pos c_1, if_neg c_30, ← hq90_28]; unfold f_L_isShowSo_q90_28; rw [if_pos c_59, if_pos c_60, if_pos c_62, if_pos c_64, if_pos c_66, if_pos c_68, ← hq185_34]; unfold f_L_isShowSo_q185_34; rw [if_pos c_70, if_pos c_72, if_pos c_74, if_pos c_76, if_pos c_78, if_pos c_80, ← hq258_41]; unfold f_L_isShowSo_q258_41; rw [if_neg c_83, if_neg c_84]; try rfl), (Or.inl rfl)⟩ dL_isShowSo_288 hlocks
                                · refine lv_iconst (v := 1) hx hb dL_isShowSo_283 (by decide) ?_
                                  refine lv_goto (tgt := 288) hx hb dL_isShowSo_284 (by decide) ?_
                                  subst hQ
                                  exact ret_z q258_41.2 hx hb hr rfl hK hP hD hS rfl ⟨(by unfold f_L_isShowSo; rw [if_pos c_1, if_neg c_30, ← hq90_28]; unfold f_L_isShowSo_q90_28; rw [if_pos c_59, if_pos c_60, if_pos c_62, if_pos c_64, if_pos c_66, if_pos c_68, ← hq185_34]; unfold f_L_isShowSo_q185_34; rw [if_pos c_70, if_pos c_72, if_pos c_74, if_pos c_76, if_pos c_78, if_pos c_80, ← hq258_41]; unfold f_L_isShowSo_q258_41; rw [if_neg c_83, if_pos c_84]; try rfl), (Or.inr rfl)⟩ dL_isShowSo_288 hlocks
      · refine lv_iload hx hb dL_isShowSo_99 (lv_at hl 0 rfl) ?_
        refine lv_ldc (v := (-10000010)) hx hb hown (hts (.constant RL 66 (-10000010)) (by decide +kernel)) dL_isShowSo_101 ?_
        refine lv_iload_n hx hb dL_isShowSo_103 rfl (lv_at hl 8 rfl) ?_
        refine lv_isub hx hb dL_isShowSo_104 ?_
        refine lv_icmp_ne (tgt := 122) hx hb dL_isShowSo_105 (by decide) (fun c_85 => ?_) (fun c_85 => ?_)
        · refine lv_iconst (v := 0) hx hb dL_isShowSo_122 (by decide) ?_
          subst hQ
          exact ret_z q90_28.2 hx hb hr rfl hK hP hD hS rfl ⟨(by unfold f_L_isShowSo; rw [if_pos c_1, if_neg c_30, ← hq90_28]; unfold f_L_isShowSo_q90_28; rw [if_neg c_59, if_neg c_85]; try rfl), (Or.inl rfl)⟩ dL_isShowSo_123 hlocks
        · refine lv_aload_n hx hb dL_isShowSo_108 rfl (lv_at hl 9 rfl) ?_
          refine lv_iconst (v := 4) hx hb dL_isShowSo_109 (by decide) ?_
          refine call_W (w1 := fun _ => wX9 z h a b c9 hh hh1 d0 d1 d2 d3 t9 t91 r9 r91 r92 r93 q90_28.2) len9 (fun _ => len9) (rV (As := [.int 4]) (rest := []) ⟨hx, hb, hml, hown, hts⟩ (c_X9_count l D z tM tS h a b c9 hh hh1 d0 d1 d2 d3 t9 t91 r9 r91 r92 r93 q90_28.2 4 H.size) (cwV 1 hts gL_isShowSo_X9_count rfl rfl rfl (by decide +kernel) ⟨Nat.le_trans (by decide) hRf, Nat.le_trans (by decide) hRl⟩) (ev_ok tM tS) (e_go (ev_ok tM tS) hE hD hS hA (List.range 128) (gN len9)) hK hP hD (List.range 128) nd128 (gN len9) (va_recv hK hP (ci := 9) (q0 := 0) rfl rfl) rfl hl.1 rfl (Nat.le_of_ble_eq_true rfl) dL_isShowSo_110 ⟨Nat.zero_le _, Nat.zero_le _⟩) hK hP hD hS hA (fun zr zu H locs hw hP hD hS => ?_)
          have hw : zr = (f_X9_count q90_28.2 4) := hw
          subst hw
          have hP : va_P D vwCl (wX9 z h a b c9 hh hh1 d0 d1 d2 d3 t9 t91 r9 r91 r92 r93 q90_28.2) H := hP
          have hD : va_D A (wX9 z h a b c9 hh hh1 d0 d1 d2 d3 t9 t91 r9 r91 r92 r93 q90_28.2) := hD
          refine lv_iload hx hb dL_isShowSo_113 (lv_at hl 3 rfl) ?_
          refine lv_icmp_ne (tgt := 122) hx hb dL_isShowSo_115 (by decide) (fun c_86 => ?_) (fun c_86 => ?_)
          · refine lv_iconst (v := 0) hx hb dL_isShowSo_122 (by decide) ?_
            subst hQ
            exact ret_z q90_28.2 hx hb hr rfl hK hP hD hS rfl ⟨(by unfold f_L_isShowSo; rw [if_pos c_1, if_neg c_30, ← hq90_28]; unfold f_L_isShowSo_q90_28; rw [if_neg c_59, if_pos c_85, if_neg c_86]; try rfl), (Or.inl rfl)⟩ dL_isShowSo_123 hlocks
          · refine lv_iconst (v := 1) hx hb dL_isShowSo_118 (by decide) ?_
            refine lv_goto (tgt := 123) hx hb dL_isShowSo_119 (by decide) ?_
            subst hQ
            exact ret_z q90_28.2 hx hb hr rfl hK hP hD hS rfl ⟨(by unfold f_L_isShowSo; rw [if_pos c_1, if_neg c_30, ← hq90_28]; unfold f_L_isShowSo_q90_28; rw [if_neg c_59, if_pos c_85, if_pos c_86]; try rfl), (Or.inr rfl)⟩ dL_isShowSo_123 hlocks

