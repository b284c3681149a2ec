def f_L_low (x : Int32) (y : Int32) : Int32 := ((x &&& 2147483647) - (x &&& 2147483647) / y * y)
set_option maxRecDepth 100000 in
set_option maxHeartbeats 1000000 in
theorem c_L_low (l : Launch) (D : va_G) (z : ClassId × ClassId × ClassId) (x : Int32) (y : Int32) (hy : ¬ y = 0) (sz : Nat) : CI l yL_low wsL_low 0 0 0 0 [.int x, .int y] D z ([]) sz (E0) (fun (zr : Int32) (_ : Unit) => zr = f_L_low x y) (fun _ => []) := by
  refine met_i cL_low 2 (some .int) (by decide) rfl (Nat.le_of_ble_eq_true rfl) ?_
  intro p e s m args below meth c R Q hx hb hr hml hts hown hlocks hin hRf hRl hRc hRs hc0 hs0 A H hA hP hK hD hS hE hQ ls hl
  have hl : lv_has ls 2 [(0, .int x), (1, .int y)] := hl
  have hP : va_P D vwCl [] H := hP
  have hD : va_D A [] := hD
  have hown : s.vm.findClass RL = some m.cls := hown
  refine lv_iload_n hx hb dL_low_0 rfl (lv_at hl 0 rfl) ?_
  refine lv_ldc (v := 2147483647) hx hb hown (hts (.constant RL 7 (2147483647)) (by decide +kernel)) dL_low_1 ?_
  refine lv_iand hx hb dL_low_3 ?_
  refine lv_iload_n hx hb dL_low_4 rfl (lv_at hl 1 rfl) ?_
  refine lv_irem hx hb dL_low_5 hy ?_
  subst hQ
  exact ret_i () hx hb hr hK hP hD hS rfl rfl dL_low_6 hlocks

def f_L_does_q84 (v : PV) (x : Int32) (q84 : Int32 × PV) : Int32 × PV := (q84.1, q84.2)
def f_L_does_q84_1 (v : PV) (x : Int32) (q84_1 : Int32 × PV) : Int32 × PV := (q84_1.1, q84_1.2)
def f_L_does_q111 (v : PV) (x : Int32) (q111 : Int32 × PV) : Int32 × PV := (q111.1, q111.2)
def f_L_does_q111_3 (v : PV) (x : Int32) (q111_3 : Int32 × PV) : Int32 × PV := (q111_3.1, q111_3.2)
def f_L_does_q111_4 (v : PV) (x : Int32) (q111_4 : Int32 × PV) : Int32 × PV := (q111_4.1, q111_4.2)
def f_L_does_q111_5 (v : PV) (x : Int32) (q111_5 : Int32 × PV) : Int32 × PV := (q111_5.1, q111_5.2)
def f_L_does_q111_6 (v : PV) (x : Int32) (q111_6 : Int32 × PV) : Int32 × PV := (q111_6.1, q111_6.2)
def f_L_does_q111_7 (v : PV) (x : Int32) (q111_7 : Int32 × PV) : Int32 × PV := (q111_7.1, q111_7.2)
def f_L_does_q111_8 (v : PV) (x : Int32) (q111_8 : Int32 × PV) : Int32 × PV := (q111_8.1, q111_8.2)
def f_L_does_q111_9 (v : PV) (x : Int32) (q111_9 : Int32 × PV) : Int32 × PV := (q111_9.1, q111_9.2)
def f_L_does_q134 (v : PV) (x : Int32) (q134 : Int32 × PV) : Int32 × PV := (q134.1, q134.2)
def f_L_does_q134_11 (v : PV) (x : Int32) (q134_11 : Int32 × PV) : Int32 × PV := (q134_11.1, q134_11.2)
def f_L_does_q156 (v : PV) (x : Int32) (q156 : Int32 × PV) : Int32 × PV := (q156.1, q156.2)
def f_L_does_q169 (v : PV) (x : Int32) (q169 : Int32 × PV) : Int32 × PV := (q169.1, q169.2)
def f_L_does_q201 (v : PV) (x : Int32) (q201 : Int32 × PV) : Int32 × PV := (q201.1, q201.2)
def f_L_does_q193 (v : PV) (x : Int32) (q193 : Int32 × PV) : Int32 × PV := (q193.1, q193.2)
def f_L_does_q226 (v : PV) (x : Int32) (q226 : Int32 × PV) : Int32 × PV := (q226.1, q226.2)
def f_L_does_q226_17 (v : PV) (x : Int32) (q226_17 : Int32 × PV) : Int32 × PV := (q226_17.1, q226_17.2)
def f_L_does_q226_18 (v : PV) (x : Int32) (q226_18 : Int32 × PV) : Int32 × PV := (q226_18.1, q226_18.2)
def f_L_does_q226_19 (v : PV) (x : Int32) (q226_19 : Int32 × PV) : Int32 × PV := (q226_19.1, q226_19.2)
def f_L_does_q226_20 (v : PV) (x : Int32) (q226_20 : Int32 × PV) : Int32 × PV := (q226_20.1, q226_20.2)
def f_L_does_q226_21 (v : PV) (x : Int32) (q226_21 : Int32 × PV) : Int32 × PV := (q226_21.1, q226_21.2)
def f_L_does_q231 (v : PV) (x : Int32) (q231 : Int32 × PV) : Int32 × PV := (q231.1, q231.2)
def f_L_does (v : PV) (x : Int32) : Int32 × PV := if (x &&& 15) = 0 then f_L_does_q84 v x (f_X9_drive v (f_L_low (x >>> (4 &&& 31)) 5)) else if (x &&& 15) = 1 then f_L_does_q84_1 v x (f_X9_drive v (f_L_low (x >>> (4 &&& 31)) 5)) else if (x &&& 15) = 2 then if ((x >>> (8 &&& 31)) &&& 3) = 0 then f_L_does_q111_3 v x (f_X9_moveReel v (f_L_low (x >>> (4 &&& 31)) 10) 1) else f_L_does_q111 v x (f_X9_moveReel v (f_L_low (x >>> (4 &&& 31)) 10) 0) else if (x &&& 15) = 3 then if ((x >>> (8 &&& 31)) &&& 3) = 0 then f_L_does_q111_5 v x (f_X9_moveReel v (f_L_low (x >>> (4 &&& 31)) 10) 1) else f_L_does_q111_4 v x (f_X9_moveReel v (f_L_low (x >>> (4 &&& 31)) 10) 0) else if (x &&& 15) = 4 then if ((x >>> (8 &&& 31)) &&& 3) = 0 then f_L_does_q111_7 v x (f_X9_moveReel v (f_L_low (x >>> (4 &&& 31)) 10) 1) else f_L_does_q111_6 v x (f_X9_moveReel v (f_L_low (x >>> (4 &&& 31)) 10) 0) else if (x &&& 15) = 5 then if ((x >>> (8 &&& 31)) &&& 3) = 0 then f_L_does_q111_9 v x (f_X9_moveReel v (f_L_low (x >>> (4 &&& 31)) 10) 1) else f_L_does_q111_8 v x (f_X9_moveReel v (f_L_low (x >>> (4 &&& 31)) 10) 0) else if (x &&& 15) = 6 then if ((x >>> (5 &&& 31)) &&& 3) = 0 then f_L_does_q134_11 v x (f_X9_moveGenerator v ((x >>> (4 &&& 31)) &&& 1) 1) else f_L_does_q134 v x (f_X9_moveGenerator v ((x >>> (4 &&& 31)) &&& 1) 0) else if (x &&& 15) = 7 then f_L_does_q156 v x (f_X9_fuel v ((x >>> (4 &&& 31)) &&& 1) ((5 : Int32) + ((5 : Int32) * (f_L_low (x >>> (5 &&& 31)) 40)))) else if (x &&& 15) = 8 then f_L_does_q169 v x (f_X9_renew v (f_L_low (x >>> (4 &&& 31)) 10)) else if (x &&& 15) = 9 then if ((x >>> (4 &&& 31)) &&& 3) = 0 then f_L_does_q193 v x (f_X9_setPrice v ((1 : Int32) + (f_L_low (x >>> (6 &&& 31)) 12))) else f_L_does_q201 v x (f_X9_show v (f_X9_count v 1)) else if (x &&& 15) = 10 then if ((x >>> (4 &&& 31)) &&& 3) = 0 then f_L_does_q226_17 v x (f_X9_show v (f_L_low (x >>> (6 &&& 31)) 5)) else f_L_does_q226 v x (f_X9_show v (f_X9_count v 1)) else if (x &&& 15) = 11 then if ((x >>> (4 &&& 31)) &&& 3) = 0 then f_L_does_q226_19 v x (f_X9_show v (f_L_low (x >>> (6 &&& 31)) 5)) else f_L_does_q226_18 v x (f_X9_show v (f_X9_count v 1)) else if (x &&& 15) = 12 then if ((x >>> (4 &&& 31)) &&& 3) = 0 then f_L_does_q226_21 v x (f_X9_show v (f_L_low (x >>> (6 &&& 31)) 5)) else f_L_does_q226_20 v x (f_X9_show v (f_X9_count v 1)) else f_L_does_q231 v x (f_X9_nextDay v)
set_option maxRecDepth 100000 in
set_option maxHeartbeats 1000000 in
theorem c_L_does (l : Launch) (D : va_G) (z : ClassId × ClassId × ClassId) (tM tS : Nat) (h : Nat) (a b c9 : Nat → Nat) (hh hh1 : Nat) (d0 d1 d2 d3 : Nat → Nat) (t9 t91 r9 r91 r92 r93 : Nat) (v : PV) (x : Int32) (hn : v.2.2.2.1.2.1 = nI v.2.2.2.1.2.1.toNatClampNeg) (hn4 : v.2.2.2.1.2.1.toNatClampNeg < 4) (hV : vp_in v.1.2.2.2.2.2.1 5) (hW : WOK v.1.1) (hM : MOK v.1.1) (hLs : v.1.2.2.2.1.2.toInt ≤ 6) (sz : Nat) : CI l yL_does wsL_does 6 154 0 0 [.ref h, .int x] D z (wX9 z h a b c9 hh hh1 d0 d1 d2 d3 t9 t91 r9 r91 r92 r93 v) sz (EV tM tS) (fun (zr : Int32) (zu : PV) => (zr, zu) = f_L_does v x) (fun zu => wX9 z h a b c9 hh hh1 d0 d1 d2 d3 t9 t91 r9 r91 r92 r93 zu) := by
  refine met_i cL_does 3 (some .int) (by decide) rfl (Nat.le_of_ble_eq_true rfl) ?_
  intro p e s m args below meth c R Q hx hb hr hml hts hown hlocks hin hRf hRl hRc hRs hc0 hs0 A H hA hP hK hD hS hE hQ ls hl
  have hl : lv_has ls 3 [(0, .ref h), (1, .int x)] := hl
  have hP : va_P D vwCl (wX9 z h a b c9 hh hh1 d0 d1 d2 d3 t9 t91 r9 r91 r92 r93 v) H := hP
  have hD : va_D A (wX9 z h a b c9 hh hh1 d0 d1 d2 d3 t9 t91 r9 r91 r92 r93 v) := hD
  have hown : s.vm.findClass RL = some m.cls := hown
  refine lv_aload_n hx hb dL_does_0 rfl (lv_at hl 0 rfl) ?_
  refine lv_iconst (v := 1) hx hb dL_does_1 (by decide) ?_
  refine call_W (w1 := fun _ => wX9 z h a b c9 hh hh1 d0 d1 d2 d3 t9 t91 r9 r91 r92 r93 v) len9 (fun _ => len9) (rV (As := [.int 1]) (rest := []) ⟨hx, hb, hml, hown, hts⟩ (c_X9_count l D z tM tS h a b c9 hh hh1 d0 d1 d2 d3 t9 t91 r9 r91 r92 r93 v 1 H.size) (cwV 1 hts gL_does_X9_count rfl rfl rfl (by decide +kernel) ⟨Nat.le_trans (by decide) hRf, Nat.le_trans (by decide) hRl⟩) (ev_ok tM tS) (e_go (ev_ok tM tS) hE hD hS hA (List.range 128) (gN len9)) hK hP hD (List.range 128) nd128 (gN len9) (va_recv hK hP (ci := 9) (q0 := 0) rfl rfl) rfl hl.1 rfl (Nat.le_of_ble_eq_true rfl) dL_does_2 ⟨Nat.zero_le _, Nat.zero_le _⟩) hK hP hD hS hA (fun zr zu H locs hw hP hD hS => ?_)
  have hw : zr = (f_X9_count v 1) := hw
  subst hw
  have hP : va_P D vwCl (wX9 z h a b c9 hh hh1 d0 d1 d2 d3 t9 t91 r9 r91 r92 r93 v) H := hP
  have hD : va_D A (wX9 z h a b c9 hh hh1 d0 d1 d2 d3 t9 t91 r9 r91 r92 r93 v) := hD
  refine lv_istore_n (lv' := [(2, .int (f_X9_count v 1)), (0, .ref h), (1, .int x)]) hx hb dL_does_5 rfl hl (by decide) rfl (fun ls hl => ?_)
  refine lv_iload_n hx hb dL_does_6 rfl (lv_at hl 2 rfl) ?_
  refine lv_bipush (v := 15) hx hb dL_does_7 (by decide) ?_
  refine lv_iand hx hb dL_does_9 ?_
  by_cases w_1 : (x &&& 15) = 0
  · refine lv_tableIn (off := 66) (tgt := 76) hx hb dL_does_10 (by rw [w_1]; decide) (by rw [w_1]; decide) (by rw [w_1]; rfl) (by decide) ?_
    refine lv_aload_n hx hb dL_does_76 rfl (lv_at hl 1 rfl) ?_
    refine lv_iload_n hx hb dL_does_77 rfl (lv_at hl 2 rfl) ?_
    refine lv_iconst (v := 4) hx hb dL_does_78 (by decide) ?_
    refine lv_ishr hx hb dL_does_79 ?_
    refine lv_iconst (v := 5) hx hb dL_does_80 (by decide) ?_
    refine call_0 len9 (rS (As := [.int (x >>> (4 &&& 31)), .int 5]) (rest := [.ref h]) ⟨hx, hb, hml, hown, hts⟩ (c_L_low l D z (x >>> (4 &&& 31)) 5 (by decide) H.size) (va_cwS 2 hts gL_does_L_low rfl rfl rfl (by decide +kernel) ⟨Nat.le_trans (by decide) hRf, Nat.le_trans (by decide) hRl⟩) e0_ok e_0 hK hP hD [] (by decide) rfl rfl hl.1 rfl (Nat.le_of_ble_eq_true rfl) dL_does_81 ⟨Nat.zero_le _, Nat.zero_le _⟩) hK hP hD hS hA (fun zr zu H locs hw hP hD hS => ?_)
    have hw : zr = (f_L_low (x >>> (4 &&& 31)) 5) := hw
    subst hw
    have hP : va_P D vwCl (wX9 z h a b c9 hh hh1 d0 d1 d2 d3 t9 t91 r9 r91 r92 r93 v) H := hP
    have hD : va_D A (wX9 z h a b c9 hh hh1 d0 d1 d2 d3 t9 t91 r9 r91 r92 r93 v) := hD
    refine call_W (w1 := fun zu => wX9 z h a b c9 hh hh1 d0 d1 d2 d3 t9 t91 r9 r91 r92 r93 zu) len9 (fun _ => len9) (rV (As := [.int (f_L_low (x >>> (4 &&& 31)) 5)]) (rest := []) ⟨hx, hb, hml, hown, hts⟩ (c_X9_drive l D z tM tS h a b c9 hh hh1 d0 d1 d2 d3 t9 t91 r9 r91 r92 r93 v (f_L_low (x >>> (4 &&& 31)) 5) (by assumption) (by assumption) (by assumption) H.size) (cwV 1 hts gL_does_X9_drive rfl rfl rfl (by decide +kernel) ⟨Nat.le_trans (by decide) hRf, Nat.le_trans (by decide) hRl⟩) (ev_ok tM tS) (e_go (ev_ok tM tS) hE hD hS hA (List.range 128) (gN len9)) hK hP hD (List.range 128) nd128 (gN len9) (va_recv hK hP (ci := 9) (q0 := 0) rfl rfl) rfl hl.1 rfl (Nat.le_of_ble_eq_true rfl) dL_does_84 ⟨Nat.zero_le _, Nat.zero_le _⟩) hK hP hD hS hA (fun zr zu H locs hw hP hD hS => ?_)
    have hw : (zr, zu) = (f_X9_drive v (f_L_low (x >>> (4 &&& 31)) 5)) := hw
    obtain ⟨q84, hq84⟩ : ∃ q9, q9 = (f_X9_drive v (f_L_low (x >>> (4 &&& 31)) 5)) := ⟨_, rfl⟩
    rw [← hq84] at hw
    obtain ⟨rfl, rfl⟩ := pe hw
    have hP : va_P D vwCl (wX9 z h a b c9 hh hh1 d0 d1 d2 d3 t9 t91 r9 r91 r92 r93 q84.2) H := hP
    have hD : va_D A (wX9 z h a b c9 hh hh1 d0 d1 d2 d3 t9 t91 r9 r91 r92 r93 q84.2) := hD
    subst hQ
    exact ret_i q84.2 hx hb hr hK hP hD hS rfl (by unfold f_L_does; rw [if_pos w_1, ← hq84]; unfold f_L_does_q84; try rfl) dL_does_87 hlocks
  · by_cases w_2 : (x &&& 15) = 1
    · refine lv_tableIn (off := 66) (tgt := 76) hx hb dL_does_10 (by rw [w_2]; decide) (by rw [w_2]; decide) (by rw [w_2]; rfl) (by decide) ?_
      refine lv_aload_n hx hb dL_does_76 rfl (lv_at hl 1 rfl) ?_
      refine lv_iload_n hx hb dL_does_77 rfl (lv_at hl 2 rfl) ?_
      refine lv_iconst (v := 4) hx hb dL_does_78 (by decide) ?_
      refine lv_ishr hx hb dL_does_79 ?_
      refine lv_iconst (v := 5) hx hb dL_does_80 (by decide) ?_
      refine call_0 len9 (rS (As := [.int (x >>> (4 &&& 31)), .int 5]) (rest := [.ref h]) ⟨hx, hb, hml, hown, hts⟩ (c_L_low l D z (x >>> (4 &&& 31)) 5 (by decide) H.size) (va_cwS 2 hts gL_does_L_low rfl rfl rfl (by decide +kernel) ⟨Nat.le_trans (by decide) hRf, Nat.le_trans (by decide) hRl⟩) e0_ok e_0 hK hP hD [] (by decide) rfl rfl hl.1 rfl (Nat.le_of_ble_eq_true rfl) dL_does_81 ⟨Nat.zero_le _, Nat.zero_le _⟩) hK hP hD hS hA (fun zr zu H locs hw hP hD hS => ?_)
      have hw : zr = (f_L_low (x >>> (4 &&& 31)) 5) := hw
      subst hw
      have hP : va_P D vwCl (wX9 z h a b c9 hh hh1 d0 d1 d2 d3 t9 t91 r9 r91 r92 r93 v) H := hP
      have hD : va_D A (wX9 z h a b c9 hh hh1 d0 d1 d2 d3 t9 t91 r9 r91 r92 r93 v) := hD
      refine call_W (w1 := fun zu => wX9 z h a b c9 hh hh1 d0 d1 d2 d3 t9 t91 r9 r91 r92 r93 zu) len9 (fun _ => len9) (rV (As := [.int (f_L_low (x >>> (4 &&& 31)) 5)]) (rest := []) ⟨hx, hb, hml, hown, hts⟩ (c_X9_drive l D z tM tS h a b c9 hh hh1 d0 d1 d2 d3 t9 t91 r9 r91 r92 r93 v (f_L_low (x >>> (4 &&& 31)) 5) (by assumption) (by assumption) (by assumption) H.size) (cwV 1 hts gL_does_X9_drive rfl rfl rfl (by decide +kernel) ⟨Nat.le_trans (by decide) hRf, Nat.le_trans (by decide) hRl⟩) (ev_ok tM tS) (e_go (ev_ok tM tS) hE hD hS hA (List.range 128) (gN len9)) hK hP hD (List.range 128) nd128 (gN len9) (va_recv hK hP (ci := 9) (q0 := 0) rfl rfl) rfl hl.1 rfl (Nat.le_of_ble_eq_true rfl) dL_does_84 ⟨Nat.zero_le _, Nat.zero_le _⟩) hK hP hD hS hA (fun zr zu H locs hw hP hD hS => ?_)
      have hw : (zr, zu) = (f_X9_drive v (f_L_low (x >>> (4 &&& 31)) 5)) := hw
      obtain ⟨q84_1, hq84_1⟩ : ∃ q9, q9 = (f_X9_drive v (f_L_low (x >>> (4 &&& 31)) 5)) := ⟨_, rfl⟩
      rw [← hq84_1] at hw
      obtain ⟨rfl, rfl⟩ := pe hw
      have hP : va_P D vwCl (wX9 z h a b c9 hh hh1 d0 d1 d2 d3 t9 t91 r9 r91 r92 r93 q84_1.2) H := hP
      have hD : va_D A (wX9 z h a b c9 hh hh1 d0 d1 d2 d3 t9 t91 r9 r91 r92 r93 q84_1.2) := hD
      subst hQ
      exact ret_i q84_1.2 hx hb hr hK hP hD hS rfl (by unfold f_L_does; rw [if_neg w_1, if_pos w_2, ← hq84_1]; unfold f_L_does_q84_1; try rfl) dL_does_87 hlocks
    · by_cases w_3 : (x &&& 15) = 2
      · refine lv_tableIn (off := 78) (tgt := 88) hx hb dL_does_10 (by rw [w_3]; decide) (by rw [w_3]; decide) (by rw [w_3]; rfl) (by decide) ?_
        refine lv_aload_n hx hb dL_does_88 rfl (lv_at hl 1 rfl) ?_
        refine lv_iload_n hx hb dL_does_89 rfl (lv_at hl 2 rfl) ?_
        refine lv_iconst (v := 4) hx hb dL_does_90 (by decide) ?_
        refine lv_ishr hx hb dL_does_91 ?_
        refine lv_bipush (v := 10) hx hb dL_does_92 (by decide) ?_
        refine call_0 len9 (rS (As := [.int (x >>> (4 &&& 31)), .int 10]) (rest := [.ref h]) ⟨hx, hb, hml, hown, hts⟩ (c_L_low l D z (x >>> (4 &&& 31)) 10 (by decide) H.size) (va_cwS 2 hts gL_does_L_low rfl rfl rfl (by decide +kernel) ⟨Nat.le_trans (by decide) hRf, Nat.le_trans (by decide) hRl⟩) e0_ok e_0 hK hP hD [] (by decide) rfl rfl hl.1 rfl (Nat.le_of_ble_eq_true rfl) dL_does_94 ⟨Nat.zero_le _, Nat.zero_le _⟩) hK hP hD hS hA (fun zr zu H locs hw hP hD hS => ?_)
        have hw : zr = (f_L_low (x >>> (4 &&& 31)) 10) := hw
        subst hw
        have hP : va_P D vwCl (wX9 z h a b c9 hh hh1 d0 d1 d2 d3 t9 t91 r9 r91 r92 r93 v) H := hP
        have hD : va_D A (wX9 z h a b c9 hh hh1 d0 d1 d2 d3 t9 t91 r9 r91 r92 r93 v) := hD
        refine lv_iload_n hx hb dL_does_97 rfl (lv_at hl 2 rfl) ?_
        refine lv_bipush (v := 8) hx hb dL_does_98 (by decide) ?_
        refine lv_ishr hx hb dL_does_100 ?_
        refine lv_iconst (v := 3) hx hb dL_does_101 (by decide) ?_
        refine lv_iand hx hb dL_does_102 ?_
        refine lv_if_ne (tgt := 110) hx hb dL_does_103 (by decide) (fun c_4 => ?_) (fun c_4 => ?_)
        · refine lv_iconst (v := 0) hx hb dL_does_110 (by decide) ?_
          refine call_W (w1 := fun zu => wX9 z h a b c9 hh hh1 d0 d1 d2 d3 t9 t91 r9 r91 r92 r93 zu) len9 (fun _ => len9) (rV (As := [.int (f_L_low (x >>> (4 &&& 31)) 10), .int 0]) (rest := []) ⟨hx, hb, hml, hown, hts⟩ (c_X9_moveReel l D z tM tS h a b c9 hh hh1 d0 d1 d2 d3 t9 t91 r9 r91 r92 r93 v (f_L_low (x >>> (4 &&& 31)) 10) 0 (by assumption) (by assumption) H.size) (cwV 2 hts gL_does_X9_moveReel rfl rfl rfl (by decide +kernel) ⟨Nat.le_trans (by decide) hRf, Nat.le_trans (by decide) hRl⟩) (ev_ok tM tS) (e_go (ev_ok tM tS) hE hD hS hA (List.range 128) (gN len9)) hK hP hD (List.range 128) nd128 (gN len9) (va_recv hK hP (ci := 9) (q0 := 0) rfl rfl) rfl hl.1 rfl (Nat.le_of_ble_eq_true rfl) dL_does_111 ⟨Nat.zero_le _, Nat.zero_le _⟩) hK hP hD hS hA (fun zr zu H locs hw hP hD hS => ?_)
          have hw : (zr, zu) = (f_X9_moveReel v (f_L_low (x >>> (4 &&& 31)) 10) 0) := hw
          obtain ⟨q111, hq111⟩ : ∃ q9, q9 = (f_X9_moveReel v (f_L_low (x >>> (4 &&& 31)) 10) 0) := ⟨_, rfl⟩
          rw [← hq111] at hw
          obtain ⟨rfl, rfl⟩ := pe hw
          have hP : va_P D vwCl (wX9 z h a b c9 hh hh1 d0 d1 d2 d3 t9 t91 r9 r91 r92 r93 q111.2) H := hP
          have hD : va_D A (wX9 z h a b c9 hh hh1 d0 d1 d2 d3 t9 t91 r9 r91 r92 r93 q111.2) := hD
          subst hQ
          exact ret_i q111.2 hx hb hr hK hP hD hS rfl (by unfold f_L_does; rw [if_neg w_1, if_neg w_2, if_pos w_3, if_neg c_4, ← hq111]; unfold f_L_does_q111; try rfl) dL_does_114 hlocks
        · refine lv_iconst (v := 1) hx hb dL_does_106 (by decide) ?_
          refine lv_goto (tgt := 111) hx hb dL_does_107 (by decide) ?_
          refine call_W (w1 := fun zu => wX9 z h a b c9 hh hh1 d0 d1 d2 d3 t9 t91 r9 r91 r92 r93 zu) len9 (fun _ => len9) (rV (As := [.int (f_L_low (x >>> (4 &&& 31)) 10), .int 1]) (rest := []) ⟨hx, hb, hml, hown, hts⟩ (c_X9_moveReel l D z tM tS h a b c9 hh hh1 d0 d1 d2 d3 t9 t91 r9 r91 r92 r93 v (f_L_low (x >>> (4 &&& 31)) 10) 1 (by assumption) (by assumption) H.size) (cwV 2 hts gL_does_X9_moveReel rfl rfl rfl (by decide +kernel) ⟨Nat.le_trans (by decide) hRf, Nat.le_trans (by decide) hRl⟩) (ev_ok tM tS) (e_go (ev_ok tM tS) hE hD hS hA (List.range 128) (gN len9)) hK hP hD (List.range 128) nd128 (gN len9) (va_recv hK hP (ci := 9) (q0 := 0) rfl rfl) rfl hl.1 rfl (Nat.le_of_ble_eq_true rfl) dL_does_111 ⟨Nat.zero_le _, Nat.zero_le _⟩) hK hP hD hS hA (fun zr zu H locs hw hP hD hS => ?_)
          have hw : (zr, zu) = (f_X9_moveReel v (f_L_low (x >>> (4 &&& 31)) 10) 1) := hw
          obtain ⟨q111_3, hq111_3⟩ : ∃ q9, q9 = (f_X9_moveReel v (f_L_low (x >>> (4 &&& 31)) 10) 1) := ⟨_, rfl⟩
          rw [← hq111_3] at hw
          obtain ⟨rfl, rfl⟩ := pe hw
          have hP : va_P D vwCl (wX9 z h a b c9 hh hh1 d0 d1 d2 d3 t9 t91 r9 r91 r92 r93 q111_3.2) H := hP
          have hD : va_D A (wX9 z h a b c9 hh hh1 d0 d1 d2 d3 t9 t91 r9 r91 r92 r93 q111_3.2) := hD
          subst hQ
          exact ret_i q111_3.2 hx hb hr hK hP hD hS rfl (by unfold f_L_does; rw [if_neg w_1, if_neg w_2, if_pos w_3, if_pos c_4, ← hq111_3]; unfold f_L_does_q111_3; try rfl) dL_does_114 hlocks
      · by_cases w_5 : (x &&& 15) = 3
        · refine lv_tableIn (off := 78) (tgt := 88) hx hb dL_does_10 (by rw [w_5]; decide) (by rw [w_5]; decide) (by rw [w_5]; rfl) (by decide) ?_
          refine lv_aload_n hx hb dL_does_88 rfl (lv_at hl 1 rfl) ?_
          refine lv_iload_n hx hb dL_does_89 rfl (lv_at hl 2 rfl) ?_
          refine lv_iconst (v := 4) hx hb dL_does_90 (by decide) ?_
          refine lv_ishr hx hb dL_does_91 ?_
          refine lv_bipush (v := 10) hx hb dL_does_92 (by decide) ?_
          refine call_0 len9 (rS (As := [.int (x >>> (4 &&& 31)), .int 10]) (rest := [.ref h]) ⟨hx, hb, hml, hown, hts⟩ (c_L_low l D z (x >>> (4 &&& 31)) 10 (by decide) H.size) (va_cwS 2 hts gL_does_L_low rfl rfl rfl (by decide +kernel) ⟨Nat.le_trans (by decide) hRf, Nat.le_trans (by decide) hRl⟩) e0_ok e_0 hK hP hD [] (by decide) rfl rfl hl.1 rfl (Nat.le_of_ble_eq_true rfl) dL_does_94 ⟨Nat.zero_le _, Nat.zero_le _⟩) hK hP hD hS hA (fun zr zu H locs hw hP hD hS => ?_)
          have hw : zr = (f_L_low (x >>> (4 &&& 31)) 10) := hw
          subst hw
          have hP : va_P D vwCl (wX9 z h a b c9 hh hh1 d0 d1 d2 d3 t9 t91 r9 r91 r92 r93 v) H := hP
          have hD : va_D A (wX9 z h a b c9 hh hh1 d0 d1 d2 d3 t9 t91 r9 r91 r92 r93 v) := hD
          refine lv_iload_n hx hb dL_does_97 rfl (lv_at hl 2 rfl) ?_
          refine lv_bipush (v := 8) hx hb dL_does_98 (by decide) ?_
          refine lv_ishr hx hb dL_does_100 ?_
          refine lv_iconst (v := 3) hx hb dL_does_101 (by decide) ?_
          refine lv_iand hx hb dL_does_102 ?_
          refine lv_if_ne (tgt := 110) hx hb dL_does_103 (by decide) (fun c_6 => ?_) (fun c_6 => ?_)
          · refine lv_iconst (v := 0) hx hb dL_does_110 (by decide) ?_
            refine call_W (w1 := fun zu => wX9 z h a b c9 hh hh1 d0 d1 d2 d3 t9 t91 r9 r91 r92 r93 zu) len9 (fun _ => len9) (rV (As := [.int (f_L_low (x >>> (4 &&& 31)) 10), .int 0]) (rest := []) ⟨hx, hb, hml, hown, hts⟩ (c_X9_moveReel l D z tM tS h a b c9 hh hh1 d0 d1 d2 d3 t9 t91 r9 r91 r92 r93 v (f_L_low (x >>> (4 &&& 31)) 10) 0 (by assumption) (by assumption) H.size) (cwV 2 hts gL_does_X9_moveReel rfl rfl rfl (by decide +kernel) ⟨Nat.le_trans (by decide) hRf, Nat.le_trans (by decide) hRl⟩) (ev_ok tM tS) (e_go (ev_ok tM tS) hE hD hS hA (List.range 128) (gN len9)) hK hP hD (List.range 128) nd128 (gN len9) (va_recv hK hP (ci := 9) (q0 := 0) rfl rfl) rfl hl.1 rfl (Nat.le_of_ble_eq_true rfl) dL_does_111 ⟨Nat.zero_le _, Nat.zero_le _⟩) hK hP hD hS hA (fun zr zu H locs hw hP hD hS => ?_)
            have hw : (zr, zu) = (f_X9_moveReel v (f_L_low (x >>> (4 &&& 31)) 10) 0) := hw
            obtain ⟨q111_4, hq111_4⟩ : ∃ q9, q9 = (f_X9_moveReel v (f_L_low (x >>> (4 &&& 31)) 10) 0) := ⟨_, rfl⟩
            rw [← hq111_4] at hw
            obtain ⟨rfl, rfl⟩ := pe hw
            have hP : va_P D vwCl (wX9 z h a b c9 hh hh1 d0 d1 d2 d3 t9 t91 r9 r91 r92 r93 q111_4.2) H := hP
            have hD : va_D A (wX9 z h a b c9 hh hh1 d0 d1 d2 d3 t9 t91 r9 r91 r92 r93 q111_4.2) := hD
            subst hQ
            exact ret_i q111_4.2 hx hb hr hK hP hD hS rfl (by unfold f_L_does; rw [if_neg w_1, if_neg w_2, if_neg w_3, if_pos w_5, if_neg c_6, ← hq111_4]; unfold f_L_does_q111_4; try rfl) dL_does_114 hlocks
          · refine lv_iconst (v := 1) hx hb dL_does_106 (by decide) ?_
            refine lv_goto (tgt := 111) hx hb dL_does_107 (by decide) ?_
            refine call_W (w1 := fun zu => wX9 z h a b c9 hh hh1 d0 d1 d2 d3 t9 t91 r9 r91 r92 r93 zu) len9 (fun _ => len9) (rV (As := [.int (f_L_low (x >>> (4 &&& 31)) 10), .int 1]) (rest := []) ⟨hx, hb, hml, hown, hts⟩ (c_X9_moveReel l D z tM tS h a b c9 hh hh1 d0 d1 d2 d3 t9 t91 r9 r91 r92 r93 v (f_L_low (x >>> (4 &&& 31)) 10) 1 (by assumption) (by assumption) H.size) (cwV 2 hts gL_does_X9_moveReel rfl rfl rfl (by decide +kernel) ⟨Nat.le_trans (by decide) hRf, Nat.le_trans (by decide) hRl⟩) (ev_ok tM tS) (e_go (ev_ok tM tS) hE hD hS hA (List.range 128) (gN len9)) hK hP hD (List.range 128) nd128 (gN len9) (va_recv hK hP (ci := 9) (q0 := 0) rfl rfl) rfl hl.1 rfl (Nat.le_of_ble_eq_true rfl) dL_does_111 ⟨Nat.zero_le _, Nat.zero_le _⟩) hK hP hD hS hA (fun zr zu H locs hw hP hD hS => ?_)
            have hw : (zr, zu) = (f_X9_moveReel v (f_L_low (x >>> (4 &&& 31)) 10) 1) := hw
            obtain ⟨q111_5, hq111_5⟩ : ∃ q9, q9 = (f_X9_moveReel v (f_L_low (x >>> (4 &&& 31)) 10) 1) := ⟨_, rfl⟩
            rw [← hq111_5] at hw
            obtain ⟨rfl, rfl⟩ := pe hw
            have hP : va_P D vwCl (wX9 z h a b c9 hh hh1 d0 d1 d2 d3 t9 t91 r9 r91 r92 r93 q111_5.2) H := hP
            have hD : va_D A (wX9 z h a b c9 hh hh1 d0 d1 d2 d3 t9 t91 r9 r91 r92 r93 q111_5.2) := hD
            subst hQ
            exact ret_i q111_5.2 hx hb hr hK hP hD hS rfl (by unfold f_L_does; rw [if_neg w_1, if_neg w_2, if_neg w_3, if_pos w_5, if_pos c_6, ← hq111_5]; unfold f_L_does_q111_5; try rfl) dL_does_114 hlocks
        · by_cases w_7 : (x &&& 15) = 4
          · refine lv_tableIn (off := 78) (tgt := 88) hx hb dL_does_10 (by rw [w_7]; decide) (by rw [w_7]; decide) (by rw [w_7]; rfl) (by decide) ?_
            refine lv_aload_n hx hb dL_does_88 rfl (lv_at hl 1 rfl) ?_
            refine lv_iload_n hx hb dL_does_89 rfl (lv_at hl 2 rfl) ?_
            refine lv_iconst (v := 4) hx hb dL_does_90 (by decide) ?_
            refine lv_ishr hx hb dL_does_91 ?_
            refine lv_bipush (v := 10) hx hb dL_does_92 (by decide) ?_
            refine call_0 len9 (rS (As := [.int (x >>> (4 &&& 31)), .int 10]) (rest := [.ref h]) ⟨hx, hb, hml, hown, hts⟩ (c_L_low l D z (x >>> (4 &&& 31)) 10 (by decide) H.size) (va_cwS 2 hts gL_does_L_low rfl rfl rfl (by decide +kernel) ⟨Nat.le_trans (by decide) hRf, Nat.le_trans (by decide) hRl⟩) e0_ok e_0 hK hP hD [] (by decide) rfl rfl hl.1 rfl (Nat.le_of_ble_eq_true rfl) dL_does_94 ⟨Nat.zero_le _, Nat.zero_le _⟩) hK hP hD hS hA (fun zr zu H locs hw hP hD hS => ?_)
            have hw : zr = (f_L_low (x >>> (4 &&& 31)) 10) := hw
            subst hw
            have hP : va_P D vwCl (wX9 z h a b c9 hh hh1 d0 d1 d2 d3 t9 t91 r9 r91 r92 r93 v) H := hP
            have hD : va_D A (wX9 z h a b c9 hh hh1 d0 d1 d2 d3 t9 t91 r9 r91 r92 r93 v) := hD
            refine lv_iload_n hx hb dL_does_97 rfl (lv_at hl 2 rfl) ?_
            refine lv_bipush (v := 8) hx hb dL_does_98 (by decide) ?_
            refine lv_ishr hx hb dL_does_100 ?_
            refine lv_iconst (v := 3) hx hb dL_does_101 (by decide) ?_
            refine lv_iand hx hb dL_does_102 ?_
            refine lv_if_ne (tgt := 110) hx hb dL_does_103 (by decide) (fun c_8 => ?_) (fun c_8 => ?_)
            · refine lv_iconst (v := 0) hx hb dL_does_110 (by decide) ?_
              refine call_W (w1 := fun zu => wX9 z h a b c9 hh hh1 d0 d1 d2 d3 t9 t91 r9 r91 r92 r93 zu) len9 (fun _ => len9) (rV (As := [.int (f_L_low (x >>> (4 &&& 31)) 10), .int 0]) (rest := []) ⟨hx, hb, hml, hown, hts⟩ (c_X9_moveReel l D z tM tS h a b c9 hh hh1 d0 d1 d2 d3 t9 t91 r9 r91 r92 r93 v (f_L_low (x >>> (4 &&& 31)) 10) 0 (by assumption) (by assumption) H.size) (cwV 2 hts gL_does_X9_moveReel rfl rfl rfl (by decide +kernel) ⟨Nat.le_trans (by decide) hRf, Nat.le_trans (by decide) hRl⟩) (ev_ok tM tS) (e_go (ev_ok tM tS) hE hD hS hA (List.range 128) (gN len9)) hK hP hD (List.range 128) nd128 (gN len9) (va_recv hK hP (ci := 9) (q0 := 0) rfl rfl) rfl hl.1 rfl (Nat.le_of_ble_eq_true rfl) dL_does_111 ⟨Nat.zero_le _, Nat.zero_le _⟩) hK hP hD hS hA (fun zr zu H locs hw hP hD hS => ?_)
              have hw : (zr, zu) = (f_X9_moveReel v (f_L_low (x >>> (4 &&& 31)) 10) 0) := hw
              obtain ⟨q111_6, hq111_6⟩ : ∃ q9, q9 = (f_X9_moveReel v (f_L_low (x >>> (4 &&& 31)) 10) 0) := ⟨_, rfl⟩
              rw [← hq111_6] at hw
              obtain ⟨rfl, rfl⟩ := pe hw
              have hP : va_P D vwCl (wX9 z h a b c9 hh hh1 d0 d1 d2 d3 t9 t91 r9 r91 r92 r93 q111_6.2) H := hP
              have hD : va_D A (wX9 z h a b c9 hh hh1 d0 d1 d2 d3 t9 t91 r9 r91 r92 r93 q111_6.2) := hD
              subst hQ
              exact ret_i q111_6.2 hx hb hr hK hP hD hS rfl (by unfold f_L_does; rw [if_neg w_1, if_neg w_2, if_neg w_3, if_neg w_5, if_pos w_7, if_neg c_8, ← hq111_6]; unfold f_L_does_q111_6; try rfl) dL_does_114 hlocks
            · refine lv_iconst (v := 1) hx hb dL_does_106 (by decide) ?_
              refine lv_goto (tgt := 111) hx hb dL_does_107 (by decide) ?_
              refine call_W (w1 := fun zu => wX9 z h a b c9 hh hh1 d0 d1 d2 d3 t9 t91 r9 r91 r92 r93 zu) len9 (fun _ => len9) (rV (As := [.int (f_L_low (x >>> (4 &&& 31)) 10), .int 1]) (rest := []) ⟨hx, hb, hml, hown, hts⟩ (c_X9_moveReel l D z tM tS h a b c9 hh hh1 d0 d1 d2 d3 t9 t91 r9 r91 r92 r93 v (f_L_low (x >>> (4 &&& 31)) 10) 1 (by assumption) (by assumption) H.size) (cwV 2 hts gL_does_X9_moveReel rfl rfl rfl (by decide +kernel) ⟨Nat.le_trans (by decide) hRf, Nat.le_trans (by decide) hRl⟩) (ev_ok tM tS) (e_go (ev_ok tM tS) hE hD hS hA (List.range 128) (gN len9)) hK hP hD (List.range 128) nd128 (gN len9) (va_recv hK hP (ci := 9) (q0 := 0) rfl rfl) rfl hl.1 rfl (Nat.le_of_ble_eq_true rfl) dL_does_111 ⟨Nat.zero_le _, Nat.zero_le _⟩) hK hP hD hS hA (fun zr zu H locs hw hP hD hS => ?_)
              have hw : (zr, zu) = (f_X9_moveReel v (f_L_low (x >>> (4 &&& 31)) 10) 1) := hw
              obtain ⟨q111_7, hq111_7⟩ : ∃ q9, q9 = (f_X9_moveReel v (f_L_low (x >>> (4 &&& 31)) 10) 1) := ⟨_, rfl⟩
              rw [← hq111_7] at hw
              obtain ⟨rfl, rfl⟩ := pe hw
              have hP : va_P D vwCl (wX9 z h a b c9 hh hh1 d0 d1 d2 d3 t9 t91 r9 r91 r92 r93 q111_7.2) H := hP
              have hD : va_D A (wX9 z h a b c9 hh hh1 d0 d1 d2 d3 t9 t91 r9 r91 r92 r93 q111_7.2) := hD
              subst hQ
              exact ret_i q111_7.2 hx hb hr hK hP hD hS rfl (by unfold f_L_does; rw [if_neg w_1, if_neg w_2, if_neg w_3, if_neg w_5, if_pos w_7, if_pos c_8, ← hq111_7]; unfold f_L_does_q111_7; try rfl) dL_does_114 hlocks
          · by_cases w_9 : (x &&& 15) = 5
            · refine lv_tableIn (off := 78) (tgt := 88) hx hb dL_does_10 (by rw [w_9]; decide) (by rw [w_9]; decide) (by rw [w_9]; rfl) (by decide) ?_
              refine lv_aload_n hx hb dL_does_88 rfl (lv_at hl 1 rfl) ?_
              refine lv_iload_n hx hb dL_does_89 rfl (lv_at hl 2 rfl) ?_
              refine lv_iconst (v := 4) hx hb dL_does_90 (by decide) ?_
              refine lv_ishr hx hb dL_does_91 ?_
              refine lv_bipush (v := 10) hx hb dL_does_92 (by decide) ?_
              refine call_0 len9 (rS (As := [.int (x >>> (4 &&& 31)), .int 10]) (rest := [.ref h]) ⟨hx, hb, hml, hown, hts⟩ (c_L_low l D z (x >>> (4 &&& 31)) 10 (by decide) H.size) (va_cwS 2 hts gL_does_L_low rfl rfl rfl (by decide +kernel) ⟨Nat.le_trans (by decide) hRf, Nat.le_trans (by decide) hRl⟩) e0_ok e_0 hK hP hD [] (by decide) rfl rfl hl.1 rfl (Nat.le_of_ble_eq_true rfl) dL_does_94 ⟨Nat.zero_le _, Nat.zero_le _⟩) hK hP hD hS hA (fun zr zu H locs hw hP hD hS => ?_)
              have hw : zr = (f_L_low (x >>> (4 &&& 31)) 10) := hw
              subst hw
              have hP : va_P D vwCl (wX9 z h a b c9 hh hh1 d0 d1 d2 d3 t9 t91 r9 r91 r92 r93 v) H := hP
              have hD : va_D A (wX9 z h a b c9 hh hh1 d0 d1 d2 d3 t9 t91 r9 r91 r92 r93 v) := hD
              refine lv_iload_n hx hb dL_does_97 rfl (lv_at hl 2 rfl) ?_
              refine lv_bipush (v := 8) hx hb dL_does_98 (by decide) ?_
              refine lv_ishr hx hb dL_does_100 ?_
              refine lv_iconst (v := 3) hx hb dL_does_101 (by decide) ?_
              refine lv_iand hx hb dL_does_102 ?_
              refine lv_if_ne (tgt := 110) hx hb dL_does_103 (by decide) (fun c_10 => ?_) (fun c_10 => ?_)
              · refine lv_iconst (v := 0) hx hb dL_does_110 (by decide) ?_
                refine call_W (w1 := fun zu => wX9 z h a b c9 hh hh1 d0 d1 d2 d3 t9 t91 r9 r91 r92 r93 zu) len9 (fun _ => len9) (rV (As := [.int (f_L_low (x >>> (4 &&& 31)) 10), .int 0]) (rest := []) ⟨hx, hb, hml, hown, hts⟩ (c_X9_moveReel l D z tM tS h a b c9 hh hh1 d0 d1 d2 d3 t9 t91 r9 r91 r92 r93 v (f_L_low (x >>> (4 &&& 31)) 10) 0 (by assumption) (by assumption) H.size) (cwV 2 hts gL_does_X9_moveReel rfl rfl rfl (by decide +kernel) ⟨Nat.le_trans (by decide) hRf, Nat.le_trans (by decide) hRl⟩) (ev_ok tM tS) (e_go (ev_ok tM tS) hE hD hS hA (List.range 128) (gN len9)) hK hP hD (List.range 128) nd128 (gN len9) (va_recv hK hP (ci := 9) (q0 := 0) rfl rfl) rfl hl.1 rfl (Nat.le_of_ble_eq_true rfl) dL_does_111 ⟨Nat.zero_le _, Nat.zero_le _⟩) hK hP hD hS hA (fun zr zu H locs hw hP hD hS => ?_)
                have hw : (zr, zu) = (f_X9_moveReel v (f_L_low (x >>> (4 &&& 31)) 10) 0) := hw
                obtain ⟨q111_8, hq111_8⟩ : ∃ q9, q9 = (f_X9_moveReel v (f_L_low (x >>> (4 &&& 31)) 10) 0) := ⟨_, rfl⟩
                rw [← hq111_8] at hw
                obtain ⟨rfl, rfl⟩ := pe hw
                have hP : va_P D vwCl (wX9 z h a b c9 hh hh1 d0 d1 d2 d3 t9 t91 r9 r91 r92 r93 q111_8.2) H := hP
                have hD : va_D A (wX9 z h a b c9 hh hh1 d0 d1 d2 d3 t9 t91 r9 r91 r92 r93 q111_8.2) := hD
                subst hQ
                exact ret_i q111_8.2 hx hb hr hK hP hD hS rfl (by unfold f_L_does; rw [if_neg w_1, if_neg w_2, if_neg w_3, if_neg w_5, if_neg w_7, if_pos w_9, if_neg c_10, ← hq111_8]; unfold f_L_does_q111_8; try rfl) dL_does_114 hlocks
              · refine lv_iconst (v := 1) hx hb dL_does_106 (by decide) ?_
                refine lv_goto (tgt := 111) hx hb dL_does_107 (by decide) ?_
                refine call_W (w1 := fun zu => wX9 z h a b c9 hh hh1 d0 d1 d2 d3 t9 t91 r9 r91 r92 r93 zu) len9 (fun _ => len9) (rV (As := [.int (f_L_low (x >>> (4 &&& 31)) 10), .int 1]) (rest := []) ⟨hx, hb, hml, hown, hts⟩ (c_X9_moveReel l D z tM tS h a b c9 hh hh1 d0 d1 d2 d3 t9 t91 r9 r91 r92 r93 v (f_L_low (x >>> (4 &&& 31)) 10) 1 (by assumption) (by assumption) H.size) (cwV 2 hts gL_does_X9_moveReel rfl rfl rfl (by decide +kernel) ⟨Nat.le_trans (by decide) hRf, Nat.le_trans (by decide) hRl⟩) (ev_ok tM tS) (e_go (ev_ok tM tS) hE hD hS hA (List.range 128) (gN len9)) hK hP hD (List.range 128) nd128 (gN len9) (va_recv hK hP (ci := 9) (q0 := 0) rfl rfl) rfl hl.1 rfl (Nat.le_of_ble_eq_true rfl) dL_does_111 ⟨Nat.zero_le _, Nat.zero_le _⟩) hK hP hD hS hA (fun zr zu H locs hw hP hD hS => ?_)
                have hw : (zr, zu) = (f_X9_moveReel v (f_L_low (x >>> (4 &&& 31)) 10) 1) := hw
                obtain ⟨q111_9, hq111_9⟩ : ∃ q9, q9 = (f_X9_moveReel v (f_L_low (x >>> (4 &&& 31)) 10) 1) := ⟨_, rfl⟩
                rw [← hq111_9] at hw
                obtain ⟨rfl, rfl⟩ := pe hw
                have hP : va_P D vwCl (wX9 z h a b c9 hh hh1 d0 d1 d2 d3 t9 t91 r9 r91 r92 r93 q111_9.2) H := hP
                have hD : va_D A (wX9 z h a b c9 hh hh1 d0 d1 d2 d3 t9 t91 r9 r91 r92 r93 q111_9.2) := hD
                subst hQ
                exact ret_i q111_9.2 hx hb hr hK hP hD hS rfl (by unfold f_L_does; rw [if_neg w_1, if_neg w_2, if_neg w_3, if_neg w_5, if_neg w_7, if_pos w_9, if_pos c_10, ← hq111_9]; unfold f_L_does_q111_9; try rfl) dL_does_114 hlocks
            · by_cases w_11 : (x &&& 15) = 6
              · refine lv_tableIn (off := 105) (tgt := 115) hx hb dL_does_10 (by rw [w_11]; decide) (by rw [w_11]; decide) (by rw [w_11]; rfl) (by decide) ?_
                refine lv_aload_n hx hb dL_does_115 rfl (lv_at hl 1 rfl) ?_
                refine lv_iload_n hx hb dL_does_116 rfl (lv_at hl 2 rfl) ?_
                refine lv_iconst (v := 4) hx hb dL_does_117 (by decide) ?_
                refine lv_ishr hx hb dL_does_118 ?_
                refine lv_iconst (v := 1) hx hb dL_does_119 (by decide) ?_
                refine lv_iand hx hb dL_does_120 ?_
                refine lv_iload_n hx hb dL_does_121 rfl (lv_at hl 2 rfl) ?_
                refine lv_iconst (v := 5) hx hb dL_does_122 (by decide) ?_
                refine lv_ishr hx hb dL_does_123 ?_
                refine lv_iconst (v := 3) hx hb dL_does_124 (by decide) ?_
                refine lv_iand hx hb dL_does_125 ?_
                refine lv_if_ne (tgt := 133) hx hb dL_does_126 (by decide) (fun c_12 => ?_) (fun c_12 => ?_)
                · refine lv_iconst (v := 0) hx hb dL_does_133 (by decide) ?_
                  refine call_W (w1 := fun zu => wX9 z h a b c9 hh hh1 d0 d1 d2 d3 t9 t91 r9 r91 r92 r93 zu) len9 (fun _ => len9) (rV (As := [.int ((x >>> (4 &&& 31)) &&& 1), .int 0]) (rest := []) ⟨hx, hb, hml, hown, hts⟩ (c_X9_moveGenerator l D z tM tS h a b c9 hh hh1 d0 d1 d2 d3 t9 t91 r9 r91 r92 r93 v ((x >>> (4 &&& 31)) &&& 1) 0 (by assumption) (by assumption) H.size) (cwV 2 hts gL_does_X9_moveGenerator rfl rfl rfl (by decide +kernel) ⟨Nat.le_trans (by decide) hRf, Nat.le_trans (by decide) hRl⟩) (ev_ok tM tS) (e_go (ev_ok tM tS) hE hD hS hA (List.range 128) (gN len9)) hK hP hD (List.range 128) nd128 (gN len9) (va_recv hK hP (ci := 9) (q0 := 0) rfl rfl) rfl hl.1 rfl (Nat.le_of_ble_eq_true rfl) dL_does_134 ⟨Nat.zero_le _, Nat.zero_le _⟩) hK hP hD hS hA (fun zr zu H locs hw hP hD hS => ?_)
                  have hw : (zr, zu) = (f_X9_moveGenerator v ((x >>> (4 &&& 31)) &&& 1) 0) := hw
                  obtain ⟨q134, hq134⟩ : ∃ q9, q9 = (f_X9_moveGenerator v ((x >>> (4 &&& 31)) &&& 1) 0) := ⟨_, rfl⟩
                  rw [← hq134] at hw
                  obtain ⟨rfl, rfl⟩ := pe hw
                  have hP : va_P D vwCl (wX9 z h a b c9 hh hh1 d0 d1 d2 d3 t9 t91 r9 r91 r92 r93 q134.2) H := hP
                  have hD : va_D A (wX9 z h a b c9 hh hh1 d0 d1 d2 d3 t9 t91 r9 r91 r92 r93 q134.2) := hD
                  subst hQ
                  exact ret_i q134.2 hx hb hr hK hP hD hS rfl (by unfold f_L_does; rw [if_neg w_1, if_neg w_2, if_neg w_3, if_neg w_5, if_neg w_7, if_neg w_9, if_pos w_11, if_neg c_12, ← hq134]; unfold f_L_does_q134; try rfl) dL_does_137 hlocks
                · refine lv_iconst (v := 1) hx hb dL_does_129 (by decide) ?_
                  refine lv_goto (tgt := 134) hx hb dL_does_130 (by decide) ?_
                  refine call_W (w1 := fun zu => wX9 z h a b c9 hh hh1 d0 d1 d2 d3 t9 t91 r9 r91 r92 r93 zu) len9 (fun _ => len9) (rV (As := [.int ((x >>> (4 &&& 31)) &&& 1), .int 1]) (rest := []) ⟨hx, hb, hml, hown, hts⟩ (c_X9_moveGenerator l D z tM tS h a b c9 hh hh1 d0 d1 d2 d3 t9 t91 r9 r91 r92 r93 v ((x >>> (4 &&& 31)) &&& 1) 1 (by assumption) (by assumption) H.size) (cwV 2 hts gL_does_X9_moveGenerator rfl rfl rfl (by decide +kernel) ⟨Nat.le_trans (by decide) hRf, Nat.le_trans (by decide) hRl⟩) (ev_ok tM tS) (e_go (ev_ok tM tS) hE hD hS hA (List.range 128) (gN len9)) hK hP hD (List.range 128) nd128 (gN len9) (va_recv hK hP (ci := 9) (q0 := 0) rfl rfl) rfl hl.1 rfl (Nat.le_of_ble_eq_true rfl) dL_does_134 ⟨Nat.zero_le _, Nat.zero_le _⟩) hK hP hD hS hA (fun zr zu H locs hw hP hD hS => ?_)
                  have hw : (zr, zu) = (f_X9_moveGenerator v ((x >>> (4 &&& 31)) &&& 1) 1) := hw
                  obtain ⟨q134_11, hq134_11⟩ : ∃ q9, q9 = (f_X9_moveGenerator v ((x >>> (4 &&& 31)) &&& 1) 1) := ⟨_, rfl⟩
                  rw [← hq134_11] at hw
                  obtain ⟨rfl, rfl⟩ := pe hw
                  have hP : va_P D vwCl (wX9 z h a b c9 hh hh1 d0 d1 d2 d3 t9 t91 r9 r91 r92 r93 q134_11.2) H := hP
                  have hD : va_D A (wX9 z h a b c9 hh hh1 d0 d1 d2 d3 t9 t91 r9 r91 r92 r93 q134_11.2) := hD
                  subst hQ
                  exact ret_i q134_11.2 hx hb hr hK hP hD hS rfl (by unfold f_L_does; rw [if_neg w_1, if_neg w_2, if_neg w_3, if_neg w_5, if_neg w_7, if_neg w_9, if_pos w_11, if_pos c_12, ← hq134_11]; unfold f_L_does_q134_11; try rfl) dL_does_137 hlocks
              · by_cases w_13 : (x &&& 15) = 7
                · refine lv_tableIn (off := 128) (tgt := 138) hx hb dL_does_10 (by rw [w_13]; decide) (by rw [w_13]; decide) (by rw [w_13]; rfl) (by decide) ?_
                  refine lv_aload_n hx hb dL_does_138 rfl (lv_at hl 1 rfl) ?_
                  refine lv_iload_n hx hb dL_does_139 rfl (lv_at hl 2 rfl) ?_
                  refine lv_iconst (v := 4) hx hb dL_does_140 (by decide) ?_
                  refine lv_ishr hx hb dL_does_141 ?_
                  refine lv_iconst (v := 1) hx hb dL_does_142 (by decide) ?_
                  refine lv_iand hx hb dL_does_143 ?_
                  refine lv_iconst (v := 5) hx hb dL_does_144 (by decide) ?_
                  refine lv_iconst (v := 5) hx hb dL_does_145 (by decide) ?_
                  refine lv_iload_n hx hb dL_does_146 rfl (lv_at hl 2 rfl) ?_
                  refine lv_iconst (v := 5) hx hb dL_does_147 (by decide) ?_
                  refine lv_ishr hx hb dL_does_148 ?_
                  refine lv_bipush (v := 40) hx hb dL_does_149 (by decide) ?_
                  refine call_0 len9 (rS (As := [.int (x >>> (5 &&& 31)), .int 40]) (rest := [.int 5, .int 5, .int ((x >>> (4 &&& 31)) &&& 1), .ref h]) ⟨hx, hb, hml, hown, hts⟩ (c_L_low l D z (x >>> (5 &&& 31)) 40 (by decide) H.size) (va_cwS 2 hts gL_does_L_low rfl rfl rfl (by decide +kernel) ⟨Nat.le_trans (by decide) hRf, Nat.le_trans (by decide) hRl⟩) e0_ok e_0 hK hP hD [] (by decide) rfl rfl hl.1 rfl (Nat.le_of_ble_eq_true rfl) dL_does_151 ⟨Nat.zero_le _, Nat.zero_le _⟩) hK hP hD hS hA (fun zr zu H locs hw hP hD hS => ?_)
                  have hw : zr = (f_L_low (x >>> (5 &&& 31)) 40) := hw
                  subst hw
                  have hP : va_P D vwCl (wX9 z h a b c9 hh hh1 d0 d1 d2 d3 t9 t91 r9 r91 r92 r93 v) H := hP
                  have hD : va_D A (wX9 z h a b c9 hh hh1 d0 d1 d2 d3 t9 t91 r9 r91 r92 r93 v) := hD
                  refine lv_imul hx hb dL_does_154 ?_
                  refine lv_iadd hx hb dL_does_155 ?_
                  refine call_W (w1 := fun zu => wX9 z h a b c9 hh hh1 d0 d1 d2 d3 t9 t91 r9 r91 r92 r93 zu) len9 (fun _ => len9) (rV (As := [.int ((x >>> (4 &&& 31)) &&& 1), .int ((5 : Int32) + ((5 : Int32) * (f_L_low (x >>> (5 &&& 31)) 40)))]) (rest := []) ⟨hx, hb, hml, hown, hts⟩ (c_X9_fuel l D z tM tS h a b c9 hh hh1 d0 d1 d2 d3 t9 t91 r9 r91 r92 r93 v ((x >>> (4 &&& 31)) &&& 1) ((5 : Int32) + ((5 : Int32) * (f_L_low (x >>> (5 &&& 31)) 40))) (by assumption) (by assumption) H.size) (cwV 2 hts gL_does_X9_fuel rfl rfl rfl (by decide +kernel) ⟨Nat.le_trans (by decide) hRf, Nat.le_trans (by decide) hRl⟩) (ev_ok tM tS) (e_go (ev_ok tM tS) hE hD hS hA (List.range 128) (gN len9)) hK hP hD (List.range 128) nd128 (gN len9) (va_recv hK hP (ci := 9) (q0 := 0) rfl rfl) rfl hl.1 rfl (Nat.le_of_ble_eq_true rfl) dL_does_156 ⟨Nat.zero_le _, Nat.zero_le _⟩) hK hP hD hS hA (fun zr zu H locs hw hP hD hS => ?_)
                  have hw : (zr, zu) = (f_X9_fuel v ((x >>> (4 &&& 31)) &&& 1) ((5 : Int32) + ((5 : Int32) * (f_L_low (x >>> (5 &&& 31)) 40)))) := hw
                  obtain ⟨q156, hq156⟩ : ∃ q9, q9 = (f_X9_fuel v ((x >>> (4 &&& 31)) &&& 1) ((5 : Int32) + ((5 : Int32) * (f_L_low (x >>> (5 &&& 31)) 40)))) := ⟨_, rfl⟩
                  rw [← hq156] at hw
                  obtain ⟨rfl, rfl⟩ := pe hw
                  have hP : va_P D vwCl (wX9 z h a b c9 hh hh1 d0 d1 d2 d3 t9 t91 r9 r91 r92 r93 q156.2) H := hP
                  have hD : va_D A (wX9 z h a b c9 hh hh1 d0 d1 d2 d3 t9 t91 r9 r91 r92 r93 q156.2) := hD
                  subst hQ
                  exact ret_i q156.2 hx hb hr hK hP hD hS rfl (by unfold f_L_does; rw [if_neg w_1, if_neg w_2, if_neg w_3, if_neg w_5, if_neg w_7, if_neg w_9, if_neg w_11, if_pos w_13, ← hq156]; unfold f_L_does_q156; try rfl) dL_does_159 hlocks
                · by_cases w_14 : (x &&& 15) = 8
                  · refine lv_tableIn (off := 150) (tgt := 160) hx hb dL_does_10 (by rw [w_14]; decide) (by rw [w_14]; decide) (by rw [w_14]; rfl) (by decide) ?_
                    refine lv_aload_n hx hb dL_does_160 rfl (lv_at hl 1 rfl) ?_
                    refine lv_iload_n hx hb dL_does_161 rfl (lv_at hl 2 rfl) ?_
                    refine lv_iconst (v := 4) hx hb dL_does_162 (by decide) ?_
                    refine lv_ishr hx hb dL_does_163 ?_
                    refine lv_bipush (v := 10) hx hb dL_does_164 (by decide) ?_
                    refine call_0 len9 (rS (As := [.int (x >>> (4 &&& 31)), .int 10]) (rest := [.ref h]) ⟨hx, hb, hml, hown, hts⟩ (c_L_low l D z (x >>> (4 &&& 31)) 10 (by decide) H.size) (va_cwS 2 hts gL_does_L_low rfl rfl rfl (by decide +kernel) ⟨Nat.le_trans (by decide) hRf, Nat.le_trans (by decide) hRl⟩) e0_ok e_0 hK hP hD [] (by decide) rfl rfl hl.1 rfl (Nat.le_of_ble_eq_true rfl) dL_does_166 ⟨Nat.zero_le _, Nat.zero_le _⟩) hK hP hD hS hA (fun zr zu H locs hw hP hD hS => ?_)
                    have hw : zr = (f_L_low (x >>> (4 &&& 31)) 10) := hw
                    subst hw
                    have hP : va_P D vwCl (wX9 z h a b c9 hh hh1 d0 d1 d2 d3 t9 t91 r9 r91 r92 r93 v) H := hP
                    have hD : va_D A (wX9 z h a b c9 hh hh1 d0 d1 d2 d3 t9 t91 r9 r91 r92 r93 v) := hD
                    refine call_W (w1 := fun zu => wX9 z h a b c9 hh hh1 d0 d1 d2 d3 t9 t91 r9 r91 r92 r93 zu) len9 (fun _ => len9) (rV (As := [.int (f_L_low (x >>> (4 &&& 31)) 10)]) (rest := []) ⟨hx, hb, hml, hown, hts⟩ (c_X9_renew l D z tM tS h a b c9 hh hh1 d0 d1 d2 d3 t9 t91 r9 r91 r92 r93 v (f_L_low (x >>> (4 &&& 31)) 10) (by assumption) (by assumption) H.size) (cwV 1 hts gL_does_X9_renew rfl rfl rfl (by decide +kernel) ⟨Nat.le_trans (by decide) hRf, Nat.le_trans (by decide) hRl⟩) (ev_ok tM tS) (e_go (ev_ok tM tS) hE hD hS hA (List.range 128) (gN len9)) hK hP hD (List.range 128) nd128 (gN len9) (va_recv hK hP (ci := 9) (q0 := 0) rfl rfl) rfl hl.1 rfl (Nat.le_of_ble_eq_true rfl) dL_does_169 ⟨Nat.zero_le _, Nat.zero_le _⟩) hK hP hD hS hA (fun zr zu H locs hw hP hD hS => ?_)
                    have hw : (zr, zu) = (f_X9_renew v (f_L_low (x >>> (4 &&& 31)) 10)) := hw
                    obtain ⟨q169, hq169⟩ : ∃ q9, q9 = (f_X9_renew v (f_L_low (x >>> (4 &&& 31)) 10)) := ⟨_, rfl⟩
                    rw [← hq169] at hw
                    obtain ⟨rfl, rfl⟩ := pe hw
                    have hP : va_P D vwCl (wX9 z h a b c9 hh hh1 d0 d1 d2 d3 t9 t91 r9 r91 r92 r93 q169.2) H := hP
                    have hD : va_D A (wX9 z h a b c9 hh hh1 d0 d1 d2 d3 t9 t91 r9 r91 r92 r93 q169.2) := hD
                    subst hQ
                    exact ret_i q169.2 hx hb hr hK hP hD hS rfl (by unfold f_L_does; rw [if_neg w_1, if_neg w_2, if_neg w_3, if_neg w_5, if_neg w_7, if_neg w_9, if_neg w_11, if_neg w_13, if_pos w_14, ← hq169]; unfold f_L_does_q169; try rfl) dL_does_172 hlocks
                  · by_cases w_15 : (x &&& 15) = 9
                    · refine lv_tableIn (off := 163) (tgt := 173) hx hb dL_does_10 (by rw [w_15]; decide) (by rw [w_15]; decide) (by rw [w_15]; rfl) (by decide) ?_
                      refine lv_iload_n hx hb dL_does_173 rfl (lv_at hl 2 rfl) ?_
                      refine lv_iconst (v := 4) hx hb dL_does_174 (by decide) ?_
                      refine lv_ishr hx hb dL_does_175 ?_
                      refine lv_iconst (v := 3) hx hb dL_does_176 (by decide) ?_
                      refine lv_iand hx hb dL_does_177 ?_
                      refine lv_if_ne (tgt := 199) hx hb dL_does_178 (by decide) (fun c_16 => ?_) (fun c_16 => ?_)
                      · refine lv_aload_n hx hb dL_does_199 rfl (lv_at hl 1 rfl) ?_
                        refine lv_iload_n hx hb dL_does_200 rfl (lv_at hl 0 rfl) ?_
                        refine call_W (w1 := fun zu => wX9 z h a b c9 hh hh1 d0 d1 d2 d3 t9 t91 r9 r91 r92 r93 zu) len9 (fun _ => len9) (rV (As := [.int (f_X9_count v 1)]) (rest := []) ⟨hx, hb, hml, hown, hts⟩ (c_X9_show l D z tM tS h a b c9 hh hh1 d0 d1 d2 d3 t9 t91 r9 r91 r92 r93 v (f_X9_count v 1) (by assumption) (by assumption) (by assumption) H.size) (cwV 1 hts gL_does_X9_show rfl rfl rfl (by decide +kernel) ⟨Nat.le_trans (by decide) hRf, Nat.le_trans (by decide) hRl⟩) (ev_ok tM tS) (e_go (ev_ok tM tS) hE hD hS hA (List.range 128) (gN len9)) hK hP hD (List.range 128) nd128 (gN len9) (va_recv hK hP (ci := 9) (q0 := 0) rfl rfl) rfl hl.1 rfl (Nat.le_of_ble_eq_true rfl) dL_does_201 ⟨Nat.zero_le _, Nat.zero_le _⟩) hK hP hD hS hA (fun zr zu H locs hw hP hD hS => ?_)
                        have hw : (zr, zu) = (f_X9_show v (f_X9_count v 1)) := hw
                        obtain ⟨q201, hq201⟩ : ∃ q9, q9 = (f_X9_show v (f_X9_count v 1)) := ⟨_, rfl⟩
                        rw [← hq201] at hw
                        obtain ⟨rfl, rfl⟩ := pe hw
                        have hP : va_P D vwCl (wX9 z h a b c9 hh hh1 d0 d1 d2 d3 t9 t91 r9 r91 r92 r93 q201.2) H := hP
                        have hD : va_D A (wX9 z h a b c9 hh hh1 d0 d1 d2 d3 t9 t91 r9 r91 r92 r93 q201.2) := hD
                        subst hQ
                        exact ret_i q201.2 hx hb hr hK hP hD hS rfl (by unfold f_L_does; rw [if_neg w_1, if_neg w_2, if_neg w_3, if_neg w_5, if_neg w_7, if_neg w_9, if_neg w_11, if_neg w_13, if_neg w_14, if_pos w_15, if_neg c_16, ← hq201]; unfold f_L_does_q201; try rfl) dL_does_204 hlocks
                      · refine lv_aload_n hx hb dL_does_181 rfl (lv_at hl 1 rfl) ?_
                        refine lv_iconst (v := 1) hx hb dL_does_182 (by decide) ?_
                        refine lv_iload_n hx hb dL_does_183 rfl (lv_at hl 2 rfl) ?_
                        refine lv_bipush (v := 6) hx hb dL_does_184 (by decide) ?_
                        refine lv_ishr hx hb dL_does_186 ?_
                        refine lv_bipush (v := 12) hx hb dL_does_187 (by decide) ?_
                        refine call_0 len9 (rS (As := [.int (x >>> (6 &&& 31)), .int 12]) (rest := [.int 1, .ref h]) ⟨hx, hb, hml, hown, hts⟩ (c_L_low l D z (x >>> (6 &&& 31)) 12 (by decide) H.size) (va_cwS 2 hts gL_does_L_low rfl rfl rfl (by decide +kernel) ⟨Nat.le_trans (by decide) hRf, Nat.le_trans (by decide) hRl⟩) e0_ok e_0 hK hP hD [] (by decide) rfl rfl hl.1 rfl (Nat.le_of_ble_eq_true rfl) dL_does_189 ⟨Nat.zero_le _, Nat.zero_le _⟩) hK hP hD hS hA (fun zr zu H locs hw hP hD hS => ?_)
                        have hw : zr = (f_L_low (x >>> (6 &&& 31)) 12) := hw
                        subst hw
                        have hP : va_P D vwCl (wX9 z h a b c9 hh hh1 d0 d1 d2 d3 t9 t91 r9 r91 r92 r93 v) H := hP
                        have hD : va_D A (wX9 z h a b c9 hh hh1 d0 d1 d2 d3 t9 t91 r9 r91 r92 r93 v) := hD
                        refine lv_iadd hx hb dL_does_192 ?_
                        refine call_W (w1 := fun zu => wX9 z h a b c9 hh hh1 d0 d1 d2 d3 t9 t91 r9 r91 r92 r93 zu) len9 (fun _ => len9) (rV (As := [.int ((1 : Int32) + (f_L_low (x >>> (6 &&& 31)) 12))]) (rest := []) ⟨hx, hb, hml, hown, hts⟩ (c_X9_setPrice l D z tM tS h a b c9 hh hh1 d0 d1 d2 d3 t9 t91 r9 r91 r92 r93 v ((1 : Int32) + (f_L_low (x >>> (6 &&& 31)) 12)) (by assumption) (by assumption) H.size) (cwV 1 hts gL_does_X9_setPrice rfl rfl rfl (by decide +kernel) ⟨Nat.le_trans (by decide) hRf, Nat.le_trans (by decide) hRl⟩) (ev_ok tM tS) (e_go (ev_ok tM tS) hE hD hS hA (List.range 128) (gN len9)) hK hP hD (List.range 128) nd128 (gN len9) (va_recv hK hP (ci := 9) (q0 := 0) rfl rfl) rfl hl.1 rfl (Nat.le_of_ble_eq_true rfl) dL_does_193 ⟨Nat.zero_le _, Nat.zero_le _⟩) hK hP hD hS hA (fun zr zu H locs hw hP hD hS => ?_)
                        have hw : (zr, zu) = (f_X9_setPrice v ((1 : Int32) + (f_L_low (x >>> (6 &&& 31)) 12))) := hw
                        obtain ⟨q193, hq193⟩ : ∃ q9, q9 = (f_X9_setPrice v ((1 : Int32) + (f_L_low (x >>> (6 &&& 31)) 12))) := ⟨_, rfl⟩
                        rw [← hq193] at hw
                        obtain ⟨rfl, rfl⟩ := pe hw
                        have hP : va_P D vwCl (wX9 z h a b c9 hh hh1 d0 d1 d2 d3 t9 t91 r9 r91 r92 r93 q193.2) H := hP
                        have hD : va_D A (wX9 z h a b c9 hh hh1 d0 d1 d2 d3 t9 t91 r9 r91 r92 r93 q193.2) := hD
                        refine lv_goto (tgt := 204) hx hb dL_does_196 (by decide) ?_
                        subst hQ
                        exact ret_i q193.2 hx hb hr hK hP hD hS rfl (by unfold f_L_does; rw [if_neg w_1, if_neg w_2, if_neg w_3, if_neg w_5, if_neg w_7, if_neg w_9, if_neg w_11, if_neg w_13, if_neg w_14, if_pos w_15, if_pos c_16, ← hq193]; unfold f_L_does_q193; try rfl) dL_does_204 hlocks
                    · by_cases w_17 : (x &&& 15) = 10
                      · refine lv_tableIn (off := 195) (tgt := 205) hx hb dL_does_10 (by rw [w_17]; decide) (by rw [w_17]; decide) (by rw [w_17]; rfl) (by decide) ?_
                        refine lv_aload_n hx hb dL_does_205 rfl (lv_at hl 1 rfl) ?_
                        refine lv_iload_n hx hb dL_does_206 rfl (lv_at hl 2 rfl) ?_
                        refine lv_iconst (v := 4) hx hb dL_does_207 (by decide) ?_
                        refine lv_ishr hx hb dL_does_208 ?_
                        refine lv_iconst (v := 3) hx hb dL_does_209 (by decide) ?_
                        refine lv_iand hx hb dL_does_210 ?_
                        refine lv_if_ne (tgt := 225) hx hb dL_does_211 (by decide) (fun c_18 => ?_) (fun c_18 => ?_)
                        · refine lv_iload_n hx hb dL_does_225 rfl (lv_at hl 0 rfl) ?_
                          refine call_W (w1 := fun zu => wX9 z h a b c9 hh hh1 d0 d1 d2 d3 t9 t91 r9 r91 r92 r93 zu) len9 (fun _ => len9) (rV (As := [.int (f_X9_count v 1)]) (rest := []) ⟨hx, hb, hml, hown, hts⟩ (c_X9_show l D z tM tS h a b c9 hh hh1 d0 d1 d2 d3 t9 t91 r9 r91 r92 r93 v (f_X9_count v 1) (by assumption) (by assumption) (by assumption) H.size) (cwV 1 hts gL_does_X9_show rfl rfl rfl (by decide +kernel) ⟨Nat.le_trans (by decide) hRf, Nat.le_trans (by decide) hRl⟩) (ev_ok tM tS) (e_go (ev_ok tM tS) hE hD hS hA (List.range 128) (gN len9)) hK hP hD (List.range 128) nd128 (gN len9) (va_recv hK hP (ci := 9) (q0 := 0) rfl rfl) rfl hl.1 rfl (Nat.le_of_ble_eq_true rfl) dL_does_226 ⟨Nat.zero_le _, Nat.zero_le _⟩) hK hP hD hS hA (fun zr zu H locs hw hP hD hS => ?_)
                          have hw : (zr, zu) = (f_X9_show v (f_X9_count v 1)) := hw
                          obtain ⟨q226, hq226⟩ : ∃ q9, q9 = (f_X9_show v (f_X9_count v 1)) := ⟨_, rfl⟩
                          rw [← hq226] at hw
                          obtain ⟨rfl, rfl⟩ := pe hw
                          have hP : va_P D vwCl (wX9 z h a b c9 hh hh1 d0 d1 d2 d3 t9 t91 r9 r91 r92 r93 q226.2) H := hP
                          have hD : va_D A (wX9 z h a b c9 hh hh1 d0 d1 d2 d3 t9 t91 r9 r91 r92 r93 q226.2) := hD
                          subst hQ
                          exact ret_i q226.2 hx hb hr hK hP hD hS rfl (by unfold f_L_does; rw [if_neg w_1, if_neg w_2, if_neg w_3, if_neg w_5, if_neg w_7, if_neg w_9, if_neg w_11, if_neg w_13, if_neg w_14, if_neg w_15, if_pos w_17, if_neg c_18, ← hq226]; unfold f_L_does_q226; try rfl) dL_does_229 hlocks
                        · refine lv_iload_n hx hb dL_does_214 rfl (lv_at hl 2 rfl) ?_
                          refine lv_bipush (v := 6) hx hb dL_does_215 (by decide) ?_
                          refine lv_ishr hx hb dL_does_217 ?_
                          refine lv_iconst (v := 5) hx hb dL_does_218 (by decide) ?_
                          refine call_0 len9 (rS (As := [.int (x >>> (6 &&& 31)), .int 5]) (rest := [.ref h]) ⟨hx, hb, hml, hown, hts⟩ (c_L_low l D z (x >>> (6 &&& 31)) 5 (by decide) H.size) (va_cwS 2 hts gL_does_L_low rfl rfl rfl (by decide +kernel) ⟨Nat.le_trans (by decide) hRf, Nat.le_trans (by decide) hRl⟩) e0_ok e_0 hK hP hD [] (by decide) rfl rfl hl.1 rfl (Nat.le_of_ble_eq_true rfl) dL_does_219 ⟨Nat.zero_le _, Nat.zero_le _⟩) hK hP hD hS hA (fun zr zu H locs hw hP hD hS => ?_)
                          have hw : zr = (f_L_low (x >>> (6 &&& 31)) 5) := hw
                          subst hw
                          have hP : va_P D vwCl (wX9 z h a b c9 hh hh1 d0 d1 d2 d3 t9 t91 r9 r91 r92 r93 v) H := hP
                          have hD : va_D A (wX9 z h a b c9 hh hh1 d0 d1 d2 d3 t9 t91 r9 r91 r92 r93 v) := hD
                          refine lv_goto (tgt := 226) hx hb dL_does_222 (by decide) ?_
                          refine call_W (w1 := fun zu => wX9 z h a b c9 hh hh1 d0 d1 d2 d3 t9 t91 r9 r91 r92 r93 zu) len9 (fun _ => len9) (rV (As := [.int (f_L_low (x >>> (6 &&& 31)) 5)]) (rest := []) ⟨hx, hb, hml, hown, hts⟩ (c_X9_show l D z tM tS h a b c9 hh hh1 d0 d1 d2 d3 t9 t91 r9 r91 r92 r93 v (f_L_low (x >>> (6 &&& 31)) 5) (by assumption) (by assumption) (by assumption) H.size) (cwV 1 hts gL_does_X9_show rfl rfl rfl (by decide +kernel) ⟨Nat.le_trans (by decide) hRf, Nat.le_trans (by decide) hRl⟩) (ev_ok tM tS) (e_go (ev_ok tM tS) hE hD hS hA (List.range 128) (gN len9)) hK hP hD (List.range 128) nd128 (gN len9) (va_recv hK hP (ci := 9) (q0 := 0) rfl rfl) rfl hl.1 rfl (Nat.le_of_ble_eq_true rfl) dL_does_226 ⟨Nat.zero_le _, Nat.zero_le _⟩) hK hP hD hS hA (fun zr zu H locs hw hP hD hS => ?_)
                          have hw : (zr, zu) = (f_X9_show v (f_L_low (x >>> (6 &&& 31)) 5)) := hw
                          obtain ⟨q226_17, hq226_17⟩ : ∃ q9, q9 = (f_X9_show v (f_L_low (x >>> (6 &&& 31)) 5)) := ⟨_, rfl⟩
                          rw [← hq226_17] at hw
                          obtain ⟨rfl, rfl⟩ := pe hw
                          have hP : va_P D vwCl (wX9 z h a b c9 hh hh1 d0 d1 d2 d3 t9 t91 r9 r91 r92 r93 q226_17.2) H := hP
                          have hD : va_D A (wX9 z h a b c9 hh hh1 d0 d1 d2 d3 t9 t91 r9 r91 r92 r93 q226_17.2) := hD
                          subst hQ
                          exact ret_i q226_17.2 hx hb hr hK hP hD hS rfl (by unfold f_L_does; rw [if_neg w_1, if_neg w_2, if_neg w_3, if_neg w_5, if_neg w_7, if_neg w_9, if_neg w_11, if_neg w_13, if_neg w_14, if_neg w_15, if_pos w_17, if_pos c_18, ← hq226_17]; unfold f_L_does_q226_17; try rfl) dL_does_229 hlocks
                      · by_cases w_19 : (x &&& 15) = 11
                        · refine lv_tableIn (off := 195) (tgt := 205) hx hb dL_does_10 (by rw [w_19]; decide) (by rw [w_19]; decide) (by rw [w_19]; rfl) (by decide) ?_
                          refine lv_aload_n hx hb dL_does_205 rfl (lv_at hl 1 rfl) ?_
                          refine lv_iload_n hx hb dL_does_206 rfl (lv_at hl 2 rfl) ?_
                          refine lv_iconst (v := 4) hx hb dL_does_207 (by decide) ?_
                          refine lv_ishr hx hb dL_does_208 ?_
                          refine lv_iconst (v := 3) hx hb dL_does_209 (by decide) ?_
                          refine lv_iand hx hb dL_does_210 ?_
                          refine lv_if_ne (tgt := 225) hx hb dL_does_211 (by decide) (fun c_20 => ?_) (fun c_20 => ?_)
                          · refine lv_iload_n hx hb dL_does_225 rfl (lv_at hl 0 rfl) ?_
                            refine call_W (w1 := fun zu => wX9 z h a b c9 hh hh1 d0 d1 d2 d3 t9 t91 r9 r91 r92 r93 zu) len9 (fun _ => len9) (rV (As := [.int (f_X9_count v 1)]) (rest := []) ⟨hx, hb, hml, hown, hts⟩ (c_X9_show l D z tM tS h a b c9 hh hh1 d0 d1 d2 d3 t9 t91 r9 r91 r92 r93 v (f_X9_count v 1) (by assumption) (by assumption) (by assumption) H.size) (cwV 1 hts gL_does_X9_show rfl rfl rfl (by decide +kernel) ⟨Nat.le_trans (by decide) hRf, Nat.le_trans (by decide) hRl⟩) (ev_ok tM tS) (e_go (ev_ok tM tS) hE hD hS hA (List.range 128) (gN len9)) hK hP hD (List.range 128) nd128 (gN len9) (va_recv hK hP (ci := 9) (q0 := 0) rfl rfl) rfl hl.1 rfl (Nat.le_of_ble_eq_true rfl) dL_does_226 ⟨Nat.zero_le _, Nat.zero_le _⟩) hK hP hD hS hA (fun zr zu H locs hw hP hD hS => ?_)
                            have hw : (zr, zu) = (f_X9_show v (f_X9_count v 1)) := hw
                            obtain ⟨q226_18, hq226_18⟩ : ∃ q9, q9 = (f_X9_show v (f_X9_count v 1)) := ⟨_, rfl⟩
                            rw [← hq226_18] at hw
                            obtain ⟨rfl, rfl⟩ := pe hw
                            have hP : va_P D vwCl (wX9 z h a b c9 hh hh1 d0 d1 d2 d3 t9 t91 r9 r91 r92 r93 q226_18.2) H := hP
                            have hD : va_D A (wX9 z h a b c9 hh hh1 d0 d1 d2 d3 t9 t91 r9 r91 r92 r93 q226_18.2) := hD
                            subst hQ
                            exact ret_i q226_18.2 hx hb hr hK hP hD hS rfl (by unfold f_L_does; rw [if_neg w_1, if_neg w_2, if_neg w_3, if_neg w_5, if_neg w_7, if_neg w_9, if_neg w_11, if_neg w_13, if_neg w_14, if_neg w_15, if_neg w_17, if_pos w_19, if_neg c_20, ← hq226_18]; unfold f_L_does_q226_18; try rfl) dL_does_229 hlocks
                          · refine lv_iload_n hx hb dL_does_214 rfl (lv_at hl 2 rfl) ?_
                            refine lv_bipush (v := 6) hx hb dL_does_215 (by decide) ?_
                            refine lv_ishr hx hb dL_does_217 ?_
                            refine lv_iconst (v := 5) hx hb dL_does_218 (by decide) ?_
                            refine call_0 len9 (rS (As := [.int (x >>> (6 &&& 31)), .int 5]) (rest := [.ref h]) ⟨hx, hb, hml, hown, hts⟩ (c_L_low l D z (x >>> (6 &&& 31)) 5 (by decide) H.size) (va_cwS 2 hts gL_does_L_low rfl rfl rfl (by decide +kernel) ⟨Nat.le_trans (by decide) hRf, Nat.le_trans (by decide) hRl⟩) e0_ok e_0 hK hP hD [] (by decide) rfl rfl hl.1 rfl (Nat.le_of_ble_eq_true rfl) dL_does_219 ⟨Nat.zero_le _, Nat.zero_le _⟩) hK hP hD hS hA (fun zr zu H locs hw hP hD hS => ?_)
                            have hw : zr = (f_L_low (x >>> (6 &&& 31)) 5) := hw
                            subst hw
                            have hP : va_P D vwCl (wX9 z h a b c9 hh hh1 d0 d1 d2 d3 t9 t91 r9 r91 r92 r93 v) H := hP
                            have hD : va_D A (wX9 z h a b c9 hh hh1 d0 d1 d2 d3 t9 t91 r9 r91 r92 r93 v) := hD
                            refine lv_goto (tgt := 226) hx hb dL_does_222 (by decide) ?_
                            refine call_W (w1 := fun zu => wX9 z h a b c9 hh hh1 d0 d1 d2 d3 t9 t91 r9 r91 r92 r93 zu) len9 (fun _ => len9) (rV (As := [.int (f_L_low (x >>> (6 &&& 31)) 5)]) (rest := []) ⟨hx, hb, hml, hown, hts⟩ (c_X9_show l D z tM tS h a b c9 hh hh1 d0 d1 d2 d3 t9 t91 r9 r91 r92 r93 v (f_L_low (x >>> (6 &&& 31)) 5) (by assumption) (by assumption) (by assumption) H.size) (cwV 1 hts gL_does_X9_show rfl rfl rfl (by decide +kernel) ⟨Nat.le_trans (by decide) hRf, Nat.le_trans (by decide) hRl⟩) (ev_ok tM tS) (e_go (ev_ok tM tS) hE hD hS hA (List.range 128) (gN len9)) hK hP hD (List.range 128) nd128 (gN len9) (va_recv hK hP (ci := 9) (q0 := 0) rfl rfl) rfl hl.1 rfl (Nat.le_of_ble_eq_true rfl) dL_does_226 ⟨Nat.zero_le _, Nat.zero_le _⟩) hK hP hD hS hA (fun zr zu H locs hw hP hD hS => ?_)
                            have hw : (zr, zu) = (f_X9_show v (f_L_low (x >>> (6 &&& 31)) 5)) := hw
                            obtain ⟨q226_19, hq226_19⟩ : ∃ q9, q9 = (f_X9_show v (f_L_low (x >>> (6 &&& 31)) 5)) := ⟨_, rfl⟩
                            rw [← hq226_19] at hw
                            obtain ⟨rfl, rfl⟩ := pe hw
                            have hP : va_P D vwCl (wX9 z h a b c9 hh hh1 d0 d1 d2 d3 t9 t91 r9 r91 r92 r93 q226_19.2) H := hP
                            have hD : va_D A (wX9 z h a b c9 hh hh1 d0 d1 d2 d3 t9 t91 r9 r91 r92 r93 q226_19.2) := hD
                            subst hQ
                            exact ret_i q226_19.2 hx hb hr hK hP hD hS rfl (by unfold f_L_does; rw [if_neg w_1, if_neg w_2, if_neg w_3, if_neg w_5, if_neg w_7, if_neg w_9, if_neg w_11, if_neg w_13, if_neg w_14, if_neg w_15, if_neg w_17, if_pos w_19, if_pos c_20, ← hq226_19]; unfold f_L_does_q226_19; try rfl) dL_does_229 hlocks
                        · by_cases w_21 : (x &&& 15) = 12
                          · refine lv_tableIn (off := 195) (tgt := 205) hx hb dL_does_10 (by rw [w_21]; decide) (by rw [w_21]; decide) (by rw [w_21]; rfl) (by decide) ?_
                            refine lv_aload_n hx hb dL_does_205 rfl (lv_at hl 1 rfl) ?_
                            refine lv_iload_n hx hb dL_does_206 rfl (lv_at hl 2 rfl) ?_
                            refine lv_iconst (v := 4) hx hb dL_does_207 (by decide) ?_
                            refine lv_ishr hx hb dL_does_208 ?_
                            refine lv_iconst (v := 3) hx hb dL_does_209 (by decide) ?_
                            refine lv_iand hx hb dL_does_210 ?_
                            refine lv_if_ne (tgt := 225) hx hb dL_does_211 (by decide) (fun c_22 => ?_) (fun c_22 => ?_)
                            · refine lv_iload_n hx hb dL_does_225 rfl (lv_at hl 0 rfl) ?_
                              refine call_W (w1 := fun zu => wX9 z h a b c9 hh hh1 d0 d1 d2 d3 t9 t91 r9 r91 r92 r93 zu) len9 (fun _ => len9) (rV (As := [.int (f_X9_count v 1)]) (rest := []) ⟨hx, hb, hml, hown, hts⟩ (c_X9_show l D z tM tS h a b c9 hh hh1 d0 d1 d2 d3 t9 t91 r9 r91 r92 r93 v (f_X9_count v 1) (by assumption) (by assumption) (by assumption) H.size) (cwV 1 hts gL_does_X9_show rfl rfl rfl (by decide +kernel) ⟨Nat.le_trans (by decide) hRf, Nat.le_trans (by decide) hRl⟩) (ev_ok tM tS) (e_go (ev_ok tM tS) hE hD hS hA (List.range 128) (gN len9)) hK hP hD (List.range 128) nd128 (gN len9) (va_recv hK hP (ci := 9) (q0 := 0) rfl rfl) rfl hl.1 rfl (Nat.le_of_ble_eq_true rfl) dL_does_226 ⟨Nat.zero_le _, Nat.zero_le _⟩) hK hP hD hS hA (fun zr zu H locs hw hP hD hS => ?_)
                              have hw : (zr, zu) = (f_X9_show v (f_X9_count v 1)) := hw
                              obtain ⟨q226_20, hq226_20⟩ : ∃ q9, q9 = (f_X9_show v (f_X9_count v 1)) := ⟨_, rfl⟩
                              rw [← hq226_20] at hw
                              obtain ⟨rfl, rfl⟩ := pe hw
                              have hP : va_P D vwCl (wX9 z h a b c9 hh hh1 d0 d1 d2 d3 t9 t91 r9 r91 r92 r93 q226_20.2) H := hP
                              have hD : va_D A (wX9 z h a b c9 hh hh1 d0 d1 d2 d3 t9 t91 r9 r91 r92 r93 q226_20.2) := hD
                              subst hQ
                              exact ret_i q226_20.2 hx hb hr hK hP hD hS rfl (by unfold f_L_does; rw [if_neg w_1, if_neg w_2, if_neg w_3, if_neg w_5, if_neg w_7, if_neg w_9, if_neg w_11, if_neg w_13, if_neg w_14, if_neg w_15, if_neg w_17, if_neg w_19, if_pos w_21, if_neg c_22, ← hq226_20]; unfold f_L_does_q226_20; try rfl) dL_does_229 hlocks
                            · refine lv_iload_n hx hb dL_does_214 rfl (lv_at hl 2 rfl) ?_
                              refine lv_bipush (v := 6) hx hb dL_does_215 (by decide) ?_
                              refine lv_ishr hx hb dL_does_217 ?_
                              refine lv_iconst (v := 5) hx hb dL_does_218 (by decide) ?_
                              refine call_0 len9 (rS (As := [.int (x >>> (6 &&& 31)), .int 5]) (rest := [.ref h]) ⟨hx, hb, hml, hown, hts⟩ (c_L_low l D z (x >>> (6 &&& 31)) 5 (by decide) H.size) (va_cwS 2 hts gL_does_L_low rfl rfl rfl (by decide +kernel) ⟨Nat.le_trans (by decide) hRf, Nat.le_trans (by decide) hRl⟩) e0_ok e_0 hK hP hD [] (by decide) rfl rfl hl.1 rfl (Nat.le_of_ble_eq_true rfl) dL_does_219 ⟨Nat.zero_le _, Nat.zero_le _⟩) hK hP hD hS hA (fun zr zu H locs hw hP hD hS => ?_)
                              have hw : zr = (f_L_low (x >>> (6 &&& 31)) 5) := hw
                              subst hw
                              have hP : va_P D vwCl (wX9 z h a b c9 hh hh1 d0 d1 d2 d3 t9 t91 r9 r91 r92 r93 v) H := hP
                              have hD : va_D A (wX9 z h a b c9 hh hh1 d0 d1 d2 d3 t9 t91 r9 r91 r92 r93 v) := hD
                              refine lv_goto (tgt := 226) hx hb dL_does_222 (by decide) ?_
                              refine call_W (w1 := fun zu => wX9 z h a b c9 hh hh1 d0 d1 d2 d3 t9 t91 r9 r91 r92 r93 zu) len9 (fun _ => len9) (rV (As := [.int (f_L_low (x >>> (6 &&& 31)) 5)]) (rest := []) ⟨hx, hb, hml, hown, hts⟩ (c_X9_show l D z tM tS h a b c9 hh hh1 d0 d1 d2 d3 t9 t91 r9 r91 r92 r93 v (f_L_low (x >>> (6 &&& 31)) 5) (by assumption) (by assumption) (by assumption) H.size) (cwV 1 hts gL_does_X9_show rfl rfl rfl (by decide +kernel) ⟨Nat.le_trans (by decide) hRf, Nat.le_trans (by decide) hRl⟩) (ev_ok tM tS) (e_go (ev_ok tM tS) hE hD hS hA (List.range 128) (gN len9)) hK hP hD (List.range 128) nd128 (gN len9) (va_recv hK hP (ci := 9) (q0 := 0) rfl rfl) rfl hl.1 rfl (Nat.le_of_ble_eq_true rfl) dL_does_226 ⟨Nat.zero_le _, Nat.zero_le _⟩) hK hP hD hS hA (fun zr zu H locs hw hP hD hS => ?_)
                              have hw : (zr, zu) = (f_X9_show v (f_L_low (x >>> (6 &&& 31)) 5)) := hw
                              obtain ⟨q226_21, hq226_21⟩ : ∃ q9, q9 = (f_X9_show v (f_L_low (x >>> (6 &&& 31)) 5)) := ⟨_, rfl⟩
                              rw [← hq226_21] at hw
                              obtain ⟨rfl, rfl⟩ := pe hw
                              have hP : va_P D vwCl (wX9 z h a b c9 hh hh1 d0 d1 d2 d3 t9 t91 r9 r91 r92 r93 q226_21.2) H := hP
                              have hD : va_D A (wX9 z h a b c9 hh hh1 d0 d1 d2 d3 t9 t91 r9 r91 r92 r93 q226_21.2) := hD
                              subst hQ
                              exact ret_i q226_21.2 hx hb hr hK hP hD hS rfl (by unfold f_L_does; rw [if_neg w_1, if_neg w_2, if_neg w_3, if_neg w_5, if_neg w_7, if_neg w_9, if_neg w_11, if_neg w_13, if_neg w_14, if_neg w_15, if_neg w_17, if_neg w_19, if_pos w_21, if_pos c_22, ← hq226_21]; unfold f_L_does_q226_21; try rfl) dL_does_229 hlocks
                          · refine lv_tableOut (tgt := 230) hx hb dL_does_10 (by have e0 := (x &&& 15).toInt_le; have e1 := (x &&& 15).le_toInt; have e_0 : (x &&& 15).toInt ≠ (0 : Int) := i_ne w_1; have e_1 : (x &&& 15).toInt ≠ (1 : Int) := i_ne w_2; have e_2 : (x &&& 15).toInt ≠ (2 : Int) := i_ne w_3; have e_3 : (x &&& 15).toInt ≠ (3 : Int) := i_ne w_5; have e_4 : (x &&& 15).toInt ≠ (4 : Int) := i_ne w_7; have e_5 : (x &&& 15).toInt ≠ (5 : Int) := i_ne w_9; have e_6 : (x &&& 15).toInt ≠ (6 : Int) := i_ne w_11; have e_7 : (x &&& 15).toInt ≠ (7 : Int) := i_ne w_13; have e_8 : (x &&& 15).toInt ≠ (8 : Int) := i_ne w_14; have e_9 : (x &&& 15).toInt ≠ (9 : Int) := i_ne w_15; have e_10 : (x &&& 15).toInt ≠ (10 : Int) := i_ne w_17; have e_11 : (x &&& 15).toInt ≠ (11 : Int) := i_ne w_19; have e_12 : (x &&& 15).toInt ≠ (12 : Int) := i_ne w_21; omega) (by decide) ?_
                            refine lv_aload_n hx hb dL_does_230 rfl (lv_at hl 1 rfl) ?_
                            refine call_W (w1 := fun zu => wX9 z h a b c9 hh hh1 d0 d1 d2 d3 t9 t91 r9 r91 r92 r93 zu) len9 (fun _ => len9) (rV (As := []) (rest := []) ⟨hx, hb, hml, hown, hts⟩ (c_X9_nextDay l D z tM tS h a b c9 hh hh1 d0 d1 d2 d3 t9 t91 r9 r91 r92 r93 v (by assumption) (by assumption) H.size) (cwV 0 hts gL_does_X9_nextDay rfl rfl rfl (by decide +kernel) ⟨Nat.le_trans (by decide) hRf, Nat.le_trans (by decide) hRl⟩) (ev_ok tM tS) (e_go (ev_ok tM tS) hE hD hS hA (List.range 128) (gN len9)) hK hP hD (List.range 128) nd128 (gN len9) (va_recv hK hP (ci := 9) (q0 := 0) rfl rfl) rfl hl.1 rfl (Nat.le_of_ble_eq_true rfl) dL_does_231 ⟨Nat.zero_le _, Nat.zero_le _⟩) hK hP hD hS hA (fun zr zu H locs hw hP hD hS => ?_)
                            have hw : (zr, zu) = (f_X9_nextDay v) := hw
                            obtain ⟨q231, hq231⟩ : ∃ q9, q9 = (f_X9_nextDay v) := ⟨_, rfl⟩
                            rw [← hq231] at hw
                            obtain ⟨rfl, rfl⟩ := pe hw
                            have hP : va_P D vwCl (wX9 z h a b c9 hh hh1 d0 d1 d2 d3 t9 t91 r9 r91 r92 r93 q231.2) H := hP
                            have hD : va_D A (wX9 z h a b c9 hh hh1 d0 d1 d2 d3 t9 t91 r9 r91 r92 r93 q231.2) := hD
                            subst hQ
                            exact ret_i q231.2 hx hb hr hK hP hD hS rfl (by unfold f_L_does; rw [if_neg w_1, if_neg w_2, if_neg w_3, if_neg w_5, if_neg w_7, if_neg w_9, if_neg w_11, if_neg w_13, if_neg w_14, if_neg w_15, if_neg w_17, if_neg w_19, if_neg w_21, ← hq231]; unfold f_L_does_q231; try rfl) dL_does_234 hlocks

